theorem tw_1018 : q_g (.code objectInit ⟨#[0xb1]⟩ 1 none) := ⟨(List.mem_append_right _ (List.mem_of_getElem? (i := 27) (by decide +kernel))), good_of_word (by decide +kernel)⟩
theorem tw_1019 : q_g (.instanceMethod objectInit) := ⟨(List.mem_append_right _ (List.mem_of_getElem? (i := 26) (by decide +kernel))), good_of_word (by decide +kernel)⟩
theorem tw_1020 : q_g (.methodLink RX9 1 objectInit) := ⟨(List.mem_append_right _ (List.mem_of_getElem? (i := 33) (by decide +kernel))), good_of_word (by decide +kernel)⟩
theorem tw_1021 : q_g (.code yX9_init cX9_init 1 none) := ⟨(List.mem_append_right _ (List.mem_of_getElem? (i := 32) (by decide +kernel))), good_of_word (by decide +kernel)⟩
def ow_n_X9 : List Cond := [.methodLink RX9 1 objectInit, .instanceMethod objectInit, .code objectInit ⟨#[0xb1]⟩ 1 none, .fieldLink RX9 7 "DeadlineShare$Terms" "carry" "I", .fieldLink RX9 13 "DeadlineShare$Terms" "seed" "I"]
def wq_n_X9 : List Cond := .code yX9_init cX9_init 1 none :: (ow_n_X9 ++ (u_ws RX9 TX9 3 ++ ([] : List Cond)))
theorem tb_n_X9 : ∀ w ∈ wq_n_X9, q_g w := by
  unfold wq_n_X9 ow_n_X9
  exact q_cons tw_1021 (q_app (q_cons tw_1020 (q_cons tw_1019 (q_cons tw_1018 (q_cons tw_512 (q_cons tw_511 q_nil))))) (q_app tu_X9 q_nil))
set_option maxHeartbeats 4000000 in
set_option maxRecDepth 100000 in
theorem n_X9 (l : Launch) (dC : Nat → ClassId) (dI : Nat → Nat → Nat) (h0 : Nat) (sz : Nat) : Met l yX9_init wq_n_X9 ({ frames := 1, cells := 0, slots := 0, locals := 12 } : Room) (va_Pc [.ref h0] (fun U => U.heap.size = sz ∧ va_P (dC, dI) vwCl [(h0, .inr (9, [.int 0, .int 0, .int 0]))] U.heap ∧ va_K (dC, dI) vwCl [] U ∧ va_D (fun _ => True) [(h0, .inr (9, [.int 0, .int 0, .int 0]))])) (va_Qv (fun (_ : Unit) => True) (fun (_ : Unit) t => va_P (dC, dI) vwCl [(h0, .inr (9, [.int 0, .int 1, .int 1]))] t.heap ∧ va_K (dC, dI) vwCl [] t ∧ va_D (va_A [(h0, .inr (9, [.int 0, .int 0, .int 0]))] sz) [(h0, .inr (9, [.int 0, .int 1, .int 1]))]) (va_A [(h0, .inr (9, [.int 0, .int 0, .int 0]))] sz)) 0 0 (va_A [(h0, .inr (9, [.int 0, .int 0, .int 0]))] sz) := by
  refine Met.ofW (cc := cX9_init) (maxL := 1) (ret := none) (by decide) rfl ?_
  intro p e s m args below meth c s₁ B hml hv
  obtain ⟨rfl, hsz, hP, hK, hD0⟩ := hv
  have hx := B.exec
  have hb := B.bytes
  have hr := B.returns
  have hts := atoms_spec (ws := wq_n_X9) B.pre
  have hown : s.vm.findClass RX9 = some m.cls := findClass_of_methodNamed B.named
  have hlocks := B.notSynchronized
  have hin : meth.name = "<init>" := (name_of_methodNamed B.named B.method).1
  subst hsz
  have hD := hD0.self (sz := s.heap.size)
  obtain ⟨A, hAe⟩ : ∃ A, A = va_A [(h0, .inr (9, [.int 0, .int 0, .int 0]))] s.heap.size := ⟨_, rfl⟩
  rw [← hAe] at hD ⊢
  have hA : ∀ q : Nat, s.heap.size ≤ q → A q := fun q h => by rw [hAe]; exact Or.inr h
  have hS : va_S A s.heap s.heap [] := va_S.rf
  have hP : va_P (dC, dI) vwCl [(h0, .inr (9, [.int 0, .int 0, .int 0]))] s.heap := hP
  have hl := lv_entry ([.ref h0]) (n := 1) (Nat.le_of_ble_eq_true rfl)
  rw [lg_entry_eq]
  generalize (lg_sl ([.ref h0]) ++ List.replicate (1 - (lg_sl ([.ref h0])).length) Slot.unset).toArray = ls at hl ⊢
  have hl : lv_has ls 1 [(0, .ref h0)] := hl
  refine lv_aload_n hx hb dX9_init_0 rfl (lv_at hl 0 rfl) ?_
  refine W.objInit hx hb hown (hts (.methodLink RX9 1 objectInit) (List.mem_cons_of_mem _ (List.mem_append_left _ (List.mem_of_getElem? (i := 0) rfl)))) (hts (.instanceMethod objectInit) (List.mem_cons_of_mem _ (List.mem_append_left _ (List.mem_of_getElem? (i := 1) rfl)))) (hts (.code objectInit ⟨#[0xb1]⟩ 1 none) (List.mem_cons_of_mem _ (List.mem_append_left _ (List.mem_of_getElem? (i := 2) rfl)))) rfl (by rw [hml]; exact hl.1) rfl dX9_init_1 (Nat.le_of_ble_eq_true rfl) (Nat.le_of_ble_eq_true rfl) ?_
  refine W.eq (g2 := F0 m 4 ls []) rfl ?_
  refine lv_aload_n hx hb dX9_init_4 rfl (lv_at hl 0 rfl) ?_
  refine lv_iconst (v := 1) hx hb dX9_init_5 (by decide) ?_
  refine va_put (D := (dC, dI)) (ci := 9) (v := .int 1) (ty := .int) (C := RX9) (T := TX9) (N := 3) hx hb hts (fun _ h0_ => List.mem_cons_of_mem _ (List.mem_append_right _ (List.mem_append_left _ h0_))) tyX9 tyX9_ok nmX9 hown hK hP hD hS 0 rfl rfl 1 (by decide) (hts (.fieldLink RX9 7 "DeadlineShare$Terms" "carry" "I") (List.mem_cons_of_mem _ (List.mem_append_left _ (List.mem_of_getElem? (i := 3) rfl)))) (fun _ h9 => h9) rfl (by decide +kernel) rfl rfl (Nat.le_of_ble_eq_true rfl) dX9_init_6 (fun H locs hP hD hS => ?_)
  have hP : va_P (dC, dI) vwCl [(h0, .inr (9, [.int 0, .int 1, .int 0]))] H := hP
  have hD : va_D A [(h0, .inr (9, [.int 0, .int 1, .int 0]))] := hD
  refine lv_aload_n hx hb dX9_init_9 rfl (lv_at hl 0 rfl) ?_
  refine lv_iconst (v := 1) hx hb dX9_init_10 (by decide) ?_
  refine va_put (D := (dC, dI)) (ci := 9) (v := .int 1) (ty := .int) (C := RX9) (T := TX9) (N := 3) hx hb hts (fun _ h0_ => List.mem_cons_of_mem _ (List.mem_append_right _ (List.mem_append_left _ h0_))) tyX9 tyX9_ok nmX9 hown hK hP hD hS 0 rfl rfl 2 (by decide) (hts (.fieldLink RX9 13 "DeadlineShare$Terms" "seed" "I") (List.mem_cons_of_mem _ (List.mem_append_left _ (List.mem_of_getElem? (i := 4) rfl)))) (fun _ h9 => h9) rfl (by decide +kernel) rfl rfl (Nat.le_of_ble_eq_true rfl) dX9_init_11 (fun H locs hP hD hS => ?_)
  have hP : va_P (dC, dI) vwCl [(h0, .inr (9, [.int 0, .int 1, .int 1]))] H := hP
  have hD : va_D A [(h0, .inr (9, [.int 0, .int 1, .int 1]))] := hD
  have hP9 := hP.sub (ws' := [(h0, .inr (9, [.int 0, .int 1, .int 1]))]) [0] rfl
  have hD9 := hD.sub (ws' := [(h0, .inr (9, [.int 0, .int 1, .int 1]))]) [0] (by decide) rfl
  have hK9 := hK.sub (tys' := []) [] rfl
  refine W.widen (k := 0) (n := 0) (Nat.le_of_ble_eq_true rfl) (Nat.le_of_ble_eq_true rfl) ?_
  exact W.vret hx hb hr (fun t ht hW => ⟨⟨(), rfl, trivial, by rw [ht]; exact hP9, va_K.moved hW.alike hK9, hD9⟩, hS.F ht⟩) hS.2.2 dX9_init_14
theorem tw_1022 : q_g (.methodLink RX10 3 objectInit) := ⟨(List.mem_append_right _ (List.mem_of_getElem? (i := 132) (by decide +kernel))), good_of_word (by decide +kernel)⟩
theorem tw_1023 : q_g (.code yX10_init cX10_init 1 none) := ⟨(List.mem_append_right _ (List.mem_of_getElem? (i := 131) (by decide +kernel))), good_of_word (by decide +kernel)⟩
def ow_n_X10 : List Cond := [.methodLink RX10 3 objectInit, .instanceMethod objectInit, .code objectInit ⟨#[0xb1]⟩ 1 none]
def wq_n_X10 : List Cond := .code yX10_init cX10_init 1 none :: (ow_n_X10 ++ ([] : List Cond))
theorem tb_n_X10 : ∀ w ∈ wq_n_X10, q_g w := by
  unfold wq_n_X10 ow_n_X10
  exact q_cons tw_1023 (q_app (q_cons tw_1022 (q_cons tw_1019 (q_cons tw_1018 q_nil))) q_nil)
set_option maxHeartbeats 4000000 in
set_option maxRecDepth 100000 in
theorem n_X10 (l : Launch) (dC : Nat → ClassId) (dI : Nat → Nat → Nat) (h0 : Nat) (sz : Nat) : Met l yX10_init wq_n_X10 ({ frames := 1, cells := 0, slots := 0, locals := 12 } : Room) (va_Pc [.ref h0] (fun U => U.heap.size = sz ∧ va_P (dC, dI) vwCl [(h0, .inr (10, [.long 0, .long 0]))] U.heap ∧ va_K (dC, dI) vwCl [] U ∧ va_D (fun _ => True) [(h0, .inr (10, [.long 0, .long 0]))])) (va_Qv (fun (_ : Unit) => True) (fun (_ : Unit) t => va_P (dC, dI) vwCl [(h0, .inr (10, [.long 0, .long 0]))] t.heap ∧ va_K (dC, dI) vwCl [] t ∧ va_D (va_A [(h0, .inr (10, [.long 0, .long 0]))] sz) [(h0, .inr (10, [.long 0, .long 0]))]) (va_A [(h0, .inr (10, [.long 0, .long 0]))] sz)) 0 0 (va_A [(h0, .inr (10, [.long 0, .long 0]))] sz) := by
  refine Met.ofW (cc := cX10_init) (maxL := 1) (ret := none) (by decide) rfl ?_
  intro p e s m args below meth c s₁ B hml hv
  obtain ⟨rfl, hsz, hP, hK, hD0⟩ := hv
  have hx := B.exec
  have hb := B.bytes
  have hr := B.returns
  have hts := atoms_spec (ws := wq_n_X10) B.pre
  have hown : s.vm.findClass RX10 = some m.cls := findClass_of_methodNamed B.named
  have hlocks := B.notSynchronized
  have hin : meth.name = "<init>" := (name_of_methodNamed B.named B.method).1
  subst hsz
  have hD := hD0.self (sz := s.heap.size)
  obtain ⟨A, hAe⟩ : ∃ A, A = va_A [(h0, .inr (10, [.long 0, .long 0]))] s.heap.size := ⟨_, rfl⟩
  rw [← hAe] at hD ⊢
  have hA : ∀ q : Nat, s.heap.size ≤ q → A q := fun q h => by rw [hAe]; exact Or.inr h
  have hS : va_S A s.heap s.heap [] := va_S.rf
  have hP : va_P (dC, dI) vwCl [(h0, .inr (10, [.long 0, .long 0]))] s.heap := hP
  have hl := lv_entry ([.ref h0]) (n := 1) (Nat.le_of_ble_eq_true rfl)
  rw [lg_entry_eq]
  generalize (lg_sl ([.ref h0]) ++ List.replicate (1 - (lg_sl ([.ref h0])).length) Slot.unset).toArray = ls at hl ⊢
  have hl : lv_has ls 1 [(0, .ref h0)] := hl
  refine lv_aload_n hx hb dX10_init_0 rfl (lv_at hl 0 rfl) ?_
  refine W.objInit hx hb hown (hts (.methodLink RX10 3 objectInit) (List.mem_cons_of_mem _ (List.mem_append_left _ (List.mem_of_getElem? (i := 0) rfl)))) (hts (.instanceMethod objectInit) (List.mem_cons_of_mem _ (List.mem_append_left _ (List.mem_of_getElem? (i := 1) rfl)))) (hts (.code objectInit ⟨#[0xb1]⟩ 1 none) (List.mem_cons_of_mem _ (List.mem_append_left _ (List.mem_of_getElem? (i := 2) rfl)))) rfl (by rw [hml]; exact hl.1) rfl dX10_init_1 (Nat.le_of_ble_eq_true rfl) (Nat.le_of_ble_eq_true rfl) ?_
  refine W.eq (g2 := F0 m 4 ls []) rfl ?_
  have hP9 := hP.sub (ws' := [(h0, .inr (10, [.long 0, .long 0]))]) [0] rfl
  have hD9 := hD.sub (ws' := [(h0, .inr (10, [.long 0, .long 0]))]) [0] (by decide) rfl
  have hK9 := hK.sub (tys' := []) [] rfl
  refine W.widen (k := 0) (n := 0) (Nat.le_of_ble_eq_true rfl) (Nat.le_of_ble_eq_true rfl) ?_
  exact W.vret hx hb hr (fun t ht hW => ⟨⟨(), rfl, trivial, by rw [ht]; exact hP9, va_K.moved hW.alike hK9, hD9⟩, hS.F ht⟩) hS.2.2 dX10_init_4
theorem tw_1024 : q_g (.arrayClass .int) := ⟨(List.mem_append_right _ (List.mem_of_getElem? (i := 99) (by decide +kernel))), good_of_word (by decide +kernel)⟩
theorem tw_1025 : q_g (.methodLink RX4 3 objectInit) := ⟨(List.mem_append_right _ (List.mem_of_getElem? (i := 311) (by decide +kernel))), good_of_word (by decide +kernel)⟩
theorem tw_1026 : q_g (.code yX4_init cX4_init 1 none) := ⟨(List.mem_append_right _ (List.mem_of_getElem? (i := 310) (by decide +kernel))), good_of_word (by decide +kernel)⟩
def ow_n_X4 : List Cond := [.methodLink RX4 3 objectInit, .instanceMethod objectInit, .code objectInit ⟨#[0xb1]⟩ 1 none, .arrayClass .int, .fieldLink RX4 9 "DeadlineShare$Refusals" "counts" "[I"]
def wq_n_X4 : List Cond := .code yX4_init cX4_init 1 none :: (ow_n_X4 ++ (u_ws RX4 TX4 2 ++ ([] : List Cond)))
theorem tb_n_X4 : ∀ w ∈ wq_n_X4, q_g w := by
  unfold wq_n_X4 ow_n_X4
  exact q_cons tw_1026 (q_app (q_cons tw_1025 (q_cons tw_1019 (q_cons tw_1018 (q_cons tw_1024 (q_cons tw_276 q_nil))))) (q_app tu_X4 q_nil))
set_option maxHeartbeats 4000000 in
set_option maxRecDepth 100000 in
theorem n_X4 (l : Launch) (dC : Nat → ClassId) (dI : Nat → Nat → Nat) (h0 : Nat) (sz : Nat) : Met l yX4_init wq_n_X4 ({ frames := 1, cells := 1, slots := 5, locals := 12 } : Room) (va_Pc [.ref h0] (fun U => U.heap.size = sz ∧ va_P (dC, dI) vwCl [(h0, .inr (4, [.null, .int 0]))] U.heap ∧ va_K (dC, dI) vwCl [] U ∧ va_D (fun _ => True) [(h0, .inr (4, [.null, .int 0]))])) (va_Qv (fun (_ : Unit) => True) (fun (_ : Unit) t => ∃ (q1 : Nat), ∃ (cA : ClassId), va_P (dC, dI) vwCl [(h0, .inr (4, [.ref q1, .int 0])), (q1, .inl (cA, 5, .inl (fun _ => 0)))] t.heap ∧ va_K (dC, dI) vwCl [(cA, .int)] t ∧ va_D (va_A [(h0, .inr (4, [.null, .int 0]))] sz) [(h0, .inr (4, [.ref q1, .int 0])), (q1, .inl (cA, 5, .inl (fun _ => 0)))]) (va_A [(h0, .inr (4, [.null, .int 0]))] sz)) 1 5 (va_A [(h0, .inr (4, [.null, .int 0]))] sz) := by
  refine Met.ofW (cc := cX4_init) (maxL := 1) (ret := none) (by decide) rfl ?_
  intro p e s m args below meth c s₁ B hml hv
  obtain ⟨rfl, hsz, hP, hK, hD0⟩ := hv
  have hx := B.exec
  have hb := B.bytes
  have hr := B.returns
  have hts := atoms_spec (ws := wq_n_X4) B.pre
  have hown : s.vm.findClass RX4 = some m.cls := findClass_of_methodNamed B.named
  have hlocks := B.notSynchronized
  have hin : meth.name = "<init>" := (name_of_methodNamed B.named B.method).1
  subst hsz
  have hD := hD0.self (sz := s.heap.size)
  obtain ⟨A, hAe⟩ : ∃ A, A = va_A [(h0, .inr (4, [.null, .int 0]))] s.heap.size := ⟨_, rfl⟩
  rw [← hAe] at hD ⊢
  have hA : ∀ q : Nat, s.heap.size ≤ q → A q := fun q h => by rw [hAe]; exact Or.inr h
  have hS : va_S A s.heap s.heap [] := va_S.rf
  have hP : va_P (dC, dI) vwCl [(h0, .inr (4, [.null, .int 0]))] s.heap := hP
  have hl := lv_entry ([.ref h0]) (n := 1) (Nat.le_of_ble_eq_true rfl)
  rw [lg_entry_eq]
  generalize (lg_sl ([.ref h0]) ++ List.replicate (1 - (lg_sl ([.ref h0])).length) Slot.unset).toArray = ls at hl ⊢
  have hl : lv_has ls 1 [(0, .ref h0)] := hl
  refine lv_aload_n hx hb dX4_init_0 rfl (lv_at hl 0 rfl) ?_
  refine W.objInit hx hb hown (hts (.methodLink RX4 3 objectInit) (List.mem_cons_of_mem _ (List.mem_append_left _ (List.mem_of_getElem? (i := 0) rfl)))) (hts (.instanceMethod objectInit) (List.mem_cons_of_mem _ (List.mem_append_left _ (List.mem_of_getElem? (i := 1) rfl)))) (hts (.code objectInit ⟨#[0xb1]⟩ 1 none) (List.mem_cons_of_mem _ (List.mem_append_left _ (List.mem_of_getElem? (i := 2) rfl)))) rfl (by rw [hml]; exact hl.1) rfl dX4_init_1 (Nat.le_of_ble_eq_true rfl) (Nat.le_of_ble_eq_true rfl) ?_
  refine W.eq (g2 := F0 m 4 ls []) rfl ?_
  refine lv_aload_n hx hb dX4_init_4 rfl (lv_at hl 0 rfl) ?_
  refine lv_iconst (v := 5) hx hb dX4_init_5 (by decide) ?_
  refine va_newa (atype := .int) hx hb (hts (.arrayClass .int) (List.mem_cons_of_mem _ (List.mem_append_left _ (List.mem_of_getElem? (i := 3) rfl)))) (ty := .int) rfl hK hP hD hS hA (a0 := (5, .inl (fun _ => 0))) (fun _ => rfl) (by decide) (by decide) (Nat.le_of_ble_eq_true rfl) (Nat.le_of_ble_eq_true rfl) (Nat.le_of_ble_eq_true rfl) dX4_init_6 (fun q_1 cA_2 H hK hP hD hS => ?_)
  have hP : va_P (dC, dI) vwCl [(h0, .inr (4, [.null, .int 0])), (q_1, .inl (cA_2, 5, .inl (fun _ => 0)))] H := hP
  have hD : va_D A [(h0, .inr (4, [.null, .int 0])), (q_1, .inl (cA_2, 5, .inl (fun _ => 0)))] := hD
  have hK : va_K (dC, dI) vwCl [(cA_2, .int)] s := hK
  refine W.widen (k := 1) (n := 5) (Nat.le_of_ble_eq_true rfl) (Nat.le_of_ble_eq_true rfl) ?_
  refine va_putF (D := (dC, dI)) (ci := 4) (v := .ref q_1) (ty := .array .int) (C := RX4) (T := TX4) (N := 2) hx hb hts (fun _ h0_ => List.mem_cons_of_mem _ (List.mem_append_right _ (List.mem_append_left _ h0_))) tyX4 tyX4_ok nmX4 hown hK hP hD hS 0 rfl rfl 0 (by decide) (hts (.fieldLink RX4 9 "DeadlineShare$Refusals" "counts" "[I") (List.mem_cons_of_mem _ (List.mem_append_left _ (List.mem_of_getElem? (i := 4) rfl)))) (fun _ h9 => h9) rfl hin rfl (by decide +kernel) rfl rfl (Nat.le_of_ble_eq_true rfl) dX4_init_8 (fun H locs hP hD hS => ?_)
  have hP : va_P (dC, dI) vwCl [(h0, .inr (4, [.ref q_1, .int 0])), (q_1, .inl (cA_2, 5, .inl (fun _ => 0)))] H := hP
  have hD : va_D A [(h0, .inr (4, [.ref q_1, .int 0])), (q_1, .inl (cA_2, 5, .inl (fun _ => 0)))] := hD
  have hP9 := hP.sub (ws' := [(h0, .inr (4, [.ref q_1, .int 0])), (q_1, .inl (cA_2, 5, .inl (fun _ => 0)))]) [0, 1] rfl
  have hD9 := hD.sub (ws' := [(h0, .inr (4, [.ref q_1, .int 0])), (q_1, .inl (cA_2, 5, .inl (fun _ => 0)))]) [0, 1] (by decide) rfl
  have hK9 := hK.sub (tys' := [(cA_2, .int)]) [0] rfl
  refine W.widen (k := 1) (n := 5) (Nat.le_of_ble_eq_true rfl) (Nat.le_of_ble_eq_true rfl) ?_
  exact W.vret hx hb hr (fun t ht hW => ⟨⟨(), rfl, trivial, q_1, cA_2, by rw [ht]; exact hP9, va_K.moved hW.alike hK9, hD9⟩, hS.F ht⟩) hS.2.2 dX4_init_11
theorem tw_1027 : q_g (.arrayClass .byte) := ⟨(List.mem_append_right _ (List.mem_of_getElem? (i := 65) (by decide +kernel))), good_of_word (by decide +kernel)⟩
theorem tw_1028 : q_g (.methodLink RX7 3 objectInit) := ⟨(List.mem_append_right _ (List.mem_of_getElem? (i := 55) (by decide +kernel))), good_of_word (by decide +kernel)⟩
theorem tw_1029 : q_g (.code yX7_init cX7_init 1 none) := ⟨(List.mem_append_right _ (List.mem_of_getElem? (i := 54) (by decide +kernel))), good_of_word (by decide +kernel)⟩
def ow_n_X7 : List Cond := [.methodLink RX7 3 objectInit, .instanceMethod objectInit, .code objectInit ⟨#[0xb1]⟩ 1 none, .arrayClass .byte, .fieldLink RX7 11 "DeadlineShare$Tape" "bytes" "[B"]
def wq_n_X7 : List Cond := .code yX7_init cX7_init 1 none :: (ow_n_X7 ++ (u_ws RX7 TX7 2 ++ ([] : List Cond)))
theorem tb_n_X7 : ∀ w ∈ wq_n_X7, q_g w := by
  unfold wq_n_X7 ow_n_X7
  exact q_cons tw_1029 (q_app (q_cons tw_1028 (q_cons tw_1019 (q_cons tw_1018 (q_cons tw_1027 (q_cons tw_189 q_nil))))) (q_app tu_X7 q_nil))
set_option maxHeartbeats 4000000 in
set_option maxRecDepth 100000 in
theorem n_X7 (l : Launch) (dC : Nat → ClassId) (dI : Nat → Nat → Nat) (h0 : Nat) (sz : Nat) : Met l yX7_init wq_n_X7 ({ frames := 1, cells := 1, slots := 200, locals := 12 } : Room) (va_Pc [.ref h0] (fun U => U.heap.size = sz ∧ va_P (dC, dI) vwCl [(h0, .inr (7, [.null, .int 0]))] U.heap ∧ va_K (dC, dI) vwCl [] U ∧ va_D (fun _ => True) [(h0, .inr (7, [.null, .int 0]))])) (va_Qv (fun (_ : Unit) => True) (fun (_ : Unit) t => ∃ (q1 : Nat), ∃ (cA : ClassId), va_P (dC, dI) vwCl [(h0, .inr (7, [.ref q1, .int 0])), (q1, .inl (cA, 200, .inl (fun _ => 0)))] t.heap ∧ va_K (dC, dI) vwCl [(cA, .byte)] t ∧ va_D (va_A [(h0, .inr (7, [.null, .int 0]))] sz) [(h0, .inr (7, [.ref q1, .int 0])), (q1, .inl (cA, 200, .inl (fun _ => 0)))]) (va_A [(h0, .inr (7, [.null, .int 0]))] sz)) 1 200 (va_A [(h0, .inr (7, [.null, .int 0]))] sz) := by
  refine Met.ofW (cc := cX7_init) (maxL := 1) (ret := none) (by decide) rfl ?_
  intro p e s m args below meth c s₁ B hml hv
  obtain ⟨rfl, hsz, hP, hK, hD0⟩ := hv
  have hx := B.exec
  have hb := B.bytes
  have hr := B.returns
  have hts := atoms_spec (ws := wq_n_X7) B.pre
  have hown : s.vm.findClass RX7 = some m.cls := findClass_of_methodNamed B.named
  have hlocks := B.notSynchronized
  have hin : meth.name = "<init>" := (name_of_methodNamed B.named B.method).1
  subst hsz
  have hD := hD0.self (sz := s.heap.size)
  obtain ⟨A, hAe⟩ : ∃ A, A = va_A [(h0, .inr (7, [.null, .int 0]))] s.heap.size := ⟨_, rfl⟩
  rw [← hAe] at hD ⊢
  have hA : ∀ q : Nat, s.heap.size ≤ q → A q := fun q h => by rw [hAe]; exact Or.inr h
  have hS : va_S A s.heap s.heap [] := va_S.rf
  have hP : va_P (dC, dI) vwCl [(h0, .inr (7, [.null, .int 0]))] s.heap := hP
  have hl := lv_entry ([.ref h0]) (n := 1) (Nat.le_of_ble_eq_true rfl)
  rw [lg_entry_eq]
  generalize (lg_sl ([.ref h0]) ++ List.replicate (1 - (lg_sl ([.ref h0])).length) Slot.unset).toArray = ls at hl ⊢
  have hl : lv_has ls 1 [(0, .ref h0)] := hl
  refine lv_aload_n hx hb dX7_init_0 rfl (lv_at hl 0 rfl) ?_
  refine W.objInit hx hb hown (hts (.methodLink RX7 3 objectInit) (List.mem_cons_of_mem _ (List.mem_append_left _ (List.mem_of_getElem? (i := 0) rfl)))) (hts (.instanceMethod objectInit) (List.mem_cons_of_mem _ (List.mem_append_left _ (List.mem_of_getElem? (i := 1) rfl)))) (hts (.code objectInit ⟨#[0xb1]⟩ 1 none) (List.mem_cons_of_mem _ (List.mem_append_left _ (List.mem_of_getElem? (i := 2) rfl)))) rfl (by rw [hml]; exact hl.1) rfl dX7_init_1 (Nat.le_of_ble_eq_true rfl) (Nat.le_of_ble_eq_true rfl) ?_
  refine W.eq (g2 := F0 m 4 ls []) rfl ?_
  refine lv_aload_n hx hb dX7_init_4 rfl (lv_at hl 0 rfl) ?_
  refine lv_sipush (v := 200) hx hb dX7_init_5 (by decide) ?_
  refine va_newa (atype := .byte) hx hb (hts (.arrayClass .byte) (List.mem_cons_of_mem _ (List.mem_append_left _ (List.mem_of_getElem? (i := 3) rfl)))) (ty := .byte) rfl hK hP hD hS hA (a0 := (200, .inl (fun _ => 0))) (fun _ => rfl) (by decide) (by decide) (Nat.le_of_ble_eq_true rfl) (Nat.le_of_ble_eq_true rfl) (Nat.le_of_ble_eq_true rfl) dX7_init_8 (fun q_1 cA_2 H hK hP hD hS => ?_)
  have hP : va_P (dC, dI) vwCl [(h0, .inr (7, [.null, .int 0])), (q_1, .inl (cA_2, 200, .inl (fun _ => 0)))] H := hP
  have hD : va_D A [(h0, .inr (7, [.null, .int 0])), (q_1, .inl (cA_2, 200, .inl (fun _ => 0)))] := hD
  have hK : va_K (dC, dI) vwCl [(cA_2, .byte)] s := hK
  refine W.widen (k := 1) (n := 200) (Nat.le_of_ble_eq_true rfl) (Nat.le_of_ble_eq_true rfl) ?_
  refine va_putF (D := (dC, dI)) (ci := 7) (v := .ref q_1) (ty := .array .byte) (C := RX7) (T := TX7) (N := 2) hx hb hts (fun _ h0_ => List.mem_cons_of_mem _ (List.mem_append_right _ (List.mem_append_left _ h0_))) tyX7 tyX7_ok nmX7 hown hK hP hD hS 0 rfl rfl 0 (by decide) (hts (.fieldLink RX7 11 "DeadlineShare$Tape" "bytes" "[B") (List.mem_cons_of_mem _ (List.mem_append_left _ (List.mem_of_getElem? (i := 4) rfl)))) (fun _ h9 => h9) rfl hin rfl (by decide +kernel) rfl rfl (Nat.le_of_ble_eq_true rfl) dX7_init_10 (fun H locs hP hD hS => ?_)
  have hP : va_P (dC, dI) vwCl [(h0, .inr (7, [.ref q_1, .int 0])), (q_1, .inl (cA_2, 200, .inl (fun _ => 0)))] H := hP
  have hD : va_D A [(h0, .inr (7, [.ref q_1, .int 0])), (q_1, .inl (cA_2, 200, .inl (fun _ => 0)))] := hD
  have hP9 := hP.sub (ws' := [(h0, .inr (7, [.ref q_1, .int 0])), (q_1, .inl (cA_2, 200, .inl (fun _ => 0)))]) [0, 1] rfl
  have hD9 := hD.sub (ws' := [(h0, .inr (7, [.ref q_1, .int 0])), (q_1, .inl (cA_2, 200, .inl (fun _ => 0)))]) [0, 1] (by decide) rfl
  have hK9 := hK.sub (tys' := [(cA_2, .byte)]) [0] rfl
  refine W.widen (k := 1) (n := 200) (Nat.le_of_ble_eq_true rfl) (Nat.le_of_ble_eq_true rfl) ?_
  exact W.vret hx hb hr (fun t ht hW => ⟨⟨(), rfl, trivial, q_1, cA_2, by rw [ht]; exact hP9, va_K.moved hW.alike hK9, hD9⟩, hS.F ht⟩) hS.2.2 dX7_init_13
theorem tw_1030 : q_g (.methodLink RX5 3 objectInit) := ⟨(List.mem_append_right _ (List.mem_of_getElem? (i := 77) (by decide +kernel))), good_of_word (by decide +kernel)⟩
theorem tw_1031 : q_g (.code yX5_init cX5_init 1 none) := ⟨(List.mem_append_right _ (List.mem_of_getElem? (i := 76) (by decide +kernel))), good_of_word (by decide +kernel)⟩
def ow_n_X5 : List Cond := [.methodLink RX5 3 objectInit, .instanceMethod objectInit, .code objectInit ⟨#[0xb1]⟩ 1 none, .arrayClass .int, .fieldLink RX5 11 "DeadlineShare$Script" "steps" "[I"]
def wq_n_X5 : List Cond := .code yX5_init cX5_init 1 none :: (ow_n_X5 ++ (u_ws RX5 TX5 5 ++ ([] : List Cond)))
theorem tb_n_X5 : ∀ w ∈ wq_n_X5, q_g w := by
  unfold wq_n_X5 ow_n_X5
  exact q_cons tw_1031 (q_app (q_cons tw_1030 (q_cons tw_1019 (q_cons tw_1018 (q_cons tw_1024 (q_cons tw_115 q_nil))))) (q_app tu_X5 q_nil))
set_option maxHeartbeats 4000000 in
set_option maxRecDepth 100000 in
theorem n_X5 (l : Launch) (dC : Nat → ClassId) (dI : Nat → Nat → Nat) (h0 : Nat) (sz : Nat) : Met l yX5_init wq_n_X5 ({ frames := 1, cells := 1, slots := 8, locals := 12 } : Room) (va_Pc [.ref h0] (fun U => U.heap.size = sz ∧ va_P (dC, dI) vwCl [(h0, .inr (5, [.null, .int 0, .int 0, .int 0, .int 0]))] U.heap ∧ va_K (dC, dI) vwCl [] U ∧ va_D (fun _ => True) [(h0, .inr (5, [.null, .int 0, .int 0, .int 0, .int 0]))])) (va_Qv (fun (_ : Unit) => True) (fun (_ : Unit) t => ∃ (q1 : Nat), ∃ (cA : ClassId), va_P (dC, dI) vwCl [(h0, .inr (5, [.ref q1, .int 0, .int 0, .int 0, .int 0])), (q1, .inl (cA, 8, .inl (fun _ => 0)))] t.heap ∧ va_K (dC, dI) vwCl [(cA, .int)] t ∧ va_D (va_A [(h0, .inr (5, [.null, .int 0, .int 0, .int 0, .int 0]))] sz) [(h0, .inr (5, [.ref q1, .int 0, .int 0, .int 0, .int 0])), (q1, .inl (cA, 8, .inl (fun _ => 0)))]) (va_A [(h0, .inr (5, [.null, .int 0, .int 0, .int 0, .int 0]))] sz)) 1 8 (va_A [(h0, .inr (5, [.null, .int 0, .int 0, .int 0, .int 0]))] sz) := by
  refine Met.ofW (cc := cX5_init) (maxL := 1) (ret := none) (by decide) rfl ?_
  intro p e s m args below meth c s₁ B hml hv
  obtain ⟨rfl, hsz, hP, hK, hD0⟩ := hv
  have hx := B.exec
  have hb := B.bytes
  have hr := B.returns
  have hts := atoms_spec (ws := wq_n_X5) B.pre
  have hown : s.vm.findClass RX5 = some m.cls := findClass_of_methodNamed B.named
  have hlocks := B.notSynchronized
  have hin : meth.name = "<init>" := (name_of_methodNamed B.named B.method).1
  subst hsz
  have hD := hD0.self (sz := s.heap.size)
  obtain ⟨A, hAe⟩ : ∃ A, A = va_A [(h0, .inr (5, [.null, .int 0, .int 0, .int 0, .int 0]))] s.heap.size := ⟨_, rfl⟩
  rw [← hAe] at hD ⊢
  have hA : ∀ q : Nat, s.heap.size ≤ q → A q := fun q h => by rw [hAe]; exact Or.inr h
  have hS : va_S A s.heap s.heap [] := va_S.rf
  have hP : va_P (dC, dI) vwCl [(h0, .inr (5, [.null, .int 0, .int 0, .int 0, .int 0]))] s.heap := hP
  have hl := lv_entry ([.ref h0]) (n := 1) (Nat.le_of_ble_eq_true rfl)
  rw [lg_entry_eq]
  generalize (lg_sl ([.ref h0]) ++ List.replicate (1 - (lg_sl ([.ref h0])).length) Slot.unset).toArray = ls at hl ⊢
  have hl : lv_has ls 1 [(0, .ref h0)] := hl
  refine lv_aload_n hx hb dX5_init_0 rfl (lv_at hl 0 rfl) ?_
  refine W.objInit hx hb hown (hts (.methodLink RX5 3 objectInit) (List.mem_cons_of_mem _ (List.mem_append_left _ (List.mem_of_getElem? (i := 0) rfl)))) (hts (.instanceMethod objectInit) (List.mem_cons_of_mem _ (List.mem_append_left _ (List.mem_of_getElem? (i := 1) rfl)))) (hts (.code objectInit ⟨#[0xb1]⟩ 1 none) (List.mem_cons_of_mem _ (List.mem_append_left _ (List.mem_of_getElem? (i := 2) rfl)))) rfl (by rw [hml]; exact hl.1) rfl dX5_init_1 (Nat.le_of_ble_eq_true rfl) (Nat.le_of_ble_eq_true rfl) ?_
  refine W.eq (g2 := F0 m 4 ls []) rfl ?_
  refine lv_aload_n hx hb dX5_init_4 rfl (lv_at hl 0 rfl) ?_
  refine lv_bipush (v := 8) hx hb dX5_init_5 (by decide) ?_
  refine va_newa (atype := .int) hx hb (hts (.arrayClass .int) (List.mem_cons_of_mem _ (List.mem_append_left _ (List.mem_of_getElem? (i := 3) rfl)))) (ty := .int) rfl hK hP hD hS hA (a0 := (8, .inl (fun _ => 0))) (fun _ => rfl) (by decide) (by decide) (Nat.le_of_ble_eq_true rfl) (Nat.le_of_ble_eq_true rfl) (Nat.le_of_ble_eq_true rfl) dX5_init_7 (fun q_1 cA_2 H hK hP hD hS => ?_)
  have hP : va_P (dC, dI) vwCl [(h0, .inr (5, [.null, .int 0, .int 0, .int 0, .int 0])), (q_1, .inl (cA_2, 8, .inl (fun _ => 0)))] H := hP
  have hD : va_D A [(h0, .inr (5, [.null, .int 0, .int 0, .int 0, .int 0])), (q_1, .inl (cA_2, 8, .inl (fun _ => 0)))] := hD
  have hK : va_K (dC, dI) vwCl [(cA_2, .int)] s := hK
  refine W.widen (k := 1) (n := 8) (Nat.le_of_ble_eq_true rfl) (Nat.le_of_ble_eq_true rfl) ?_
  refine va_putF (D := (dC, dI)) (ci := 5) (v := .ref q_1) (ty := .array .int) (C := RX5) (T := TX5) (N := 5) hx hb hts (fun _ h0_ => List.mem_cons_of_mem _ (List.mem_append_right _ (List.mem_append_left _ h0_))) tyX5 tyX5_ok nmX5 hown hK hP hD hS 0 rfl rfl 0 (by decide) (hts (.fieldLink RX5 11 "DeadlineShare$Script" "steps" "[I") (List.mem_cons_of_mem _ (List.mem_append_left _ (List.mem_of_getElem? (i := 4) rfl)))) (fun _ h9 => h9) rfl hin rfl (by decide +kernel) rfl rfl (Nat.le_of_ble_eq_true rfl) dX5_init_9 (fun H locs hP hD hS => ?_)
  have hP : va_P (dC, dI) vwCl [(h0, .inr (5, [.ref q_1, .int 0, .int 0, .int 0, .int 0])), (q_1, .inl (cA_2, 8, .inl (fun _ => 0)))] H := hP
  have hD : va_D A [(h0, .inr (5, [.ref q_1, .int 0, .int 0, .int 0, .int 0])), (q_1, .inl (cA_2, 8, .inl (fun _ => 0)))] := hD
  have hP9 := hP.sub (ws' := [(h0, .inr (5, [.ref q_1, .int 0, .int 0, .int 0, .int 0])), (q_1, .inl (cA_2, 8, .inl (fun _ => 0)))]) [0, 1] rfl
  have hD9 := hD.sub (ws' := [(h0, .inr (5, [.ref q_1, .int 0, .int 0, .int 0, .int 0])), (q_1, .inl (cA_2, 8, .inl (fun _ => 0)))]) [0, 1] (by decide) rfl
  have hK9 := hK.sub (tys' := [(cA_2, .int)]) [0] rfl
  refine W.widen (k := 1) (n := 8) (Nat.le_of_ble_eq_true rfl) (Nat.le_of_ble_eq_true rfl) ?_
  exact W.vret hx hb hr (fun t ht hW => ⟨⟨(), rfl, trivial, q_1, cA_2, by rw [ht]; exact hP9, va_K.moved hW.alike hK9, hD9⟩, hS.F ht⟩) hS.2.2 dX5_init_12
theorem tw_1032 : q_g (.arrayClass .long) := ⟨(List.mem_append_right _ (List.mem_of_getElem? (i := 126) (by decide +kernel))), good_of_word (by decide +kernel)⟩
theorem tw_1033 : q_g (.methodLink RX2 5 objectInit) := ⟨(List.mem_append_right _ (List.mem_of_getElem? (i := 121) (by decide +kernel))), good_of_word (by decide +kernel)⟩
theorem tw_1034 : q_g (.code yX2_init cX2_init 1 none) := ⟨(List.mem_append_right _ (List.mem_of_getElem? (i := 120) (by decide +kernel))), good_of_word (by decide +kernel)⟩
def ow_n_X2 : List Cond := [.methodLink RX2 5 objectInit, .instanceMethod objectInit, .code objectInit ⟨#[0xb1]⟩ 1 none, .arrayClass .long, .fieldLink RX2 11 "DeadlineShare$Log" "rows" "[J"]
def wq_n_X2 : List Cond := .code yX2_init cX2_init 1 none :: (ow_n_X2 ++ (u_ws RX2 TX2 1 ++ ([] : List Cond)))
theorem tb_n_X2 : ∀ w ∈ wq_n_X2, q_g w := by
  unfold wq_n_X2 ow_n_X2
  exact q_cons tw_1034 (q_app (q_cons tw_1033 (q_cons tw_1019 (q_cons tw_1018 (q_cons tw_1032 (q_cons tw_140 q_nil))))) (q_app tu_X2 q_nil))
set_option maxHeartbeats 4000000 in
set_option maxRecDepth 100000 in
theorem n_X2 (l : Launch) (dC : Nat → ClassId) (dI : Nat → Nat → Nat) (h0 : Nat) (sz : Nat) : Met l yX2_init wq_n_X2 ({ frames := 1, cells := 1, slots := 128, locals := 12 } : Room) (va_Pc [.ref h0] (fun U => U.heap.size = sz ∧ va_P (dC, dI) vwCl [(h0, .inr (2, [.null]))] U.heap ∧ va_K (dC, dI) vwCl [] U ∧ va_D (fun _ => True) [(h0, .inr (2, [.null]))])) (va_Qv (fun (_ : Unit) => True) (fun (_ : Unit) t => ∃ (q1 : Nat), ∃ (cA : ClassId), va_P (dC, dI) vwCl [(h0, .inr (2, [.ref q1])), (q1, .inl (cA, 128, .inr (.inl (fun _ => 0))))] t.heap ∧ va_K (dC, dI) vwCl [(cA, .long)] t ∧ va_D (va_A [(h0, .inr (2, [.null]))] sz) [(h0, .inr (2, [.ref q1])), (q1, .inl (cA, 128, .inr (.inl (fun _ => 0))))]) (va_A [(h0, .inr (2, [.null]))] sz)) 1 128 (va_A [(h0, .inr (2, [.null]))] sz) := by
  refine Met.ofW (cc := cX2_init) (maxL := 1) (ret := none) (by decide) rfl ?_
  intro p e s m args below meth c s₁ B hml hv
  obtain ⟨rfl, hsz, hP, hK, hD0⟩ := hv
  have hx := B.exec
  have hb := B.bytes
  have hr := B.returns
  have hts := atoms_spec (ws := wq_n_X2) B.pre
  have hown : s.vm.findClass RX2 = some m.cls := findClass_of_methodNamed B.named
  have hlocks := B.notSynchronized
  have hin : meth.name = "<init>" := (name_of_methodNamed B.named B.method).1
  subst hsz
  have hD := hD0.self (sz := s.heap.size)
  obtain ⟨A, hAe⟩ : ∃ A, A = va_A [(h0, .inr (2, [.null]))] s.heap.size := ⟨_, rfl⟩
  rw [← hAe] at hD ⊢
  have hA : ∀ q : Nat, s.heap.size ≤ q → A q := fun q h => by rw [hAe]; exact Or.inr h
  have hS : va_S A s.heap s.heap [] := va_S.rf
  have hP : va_P (dC, dI) vwCl [(h0, .inr (2, [.null]))] s.heap := hP
  have hl := lv_entry ([.ref h0]) (n := 1) (Nat.le_of_ble_eq_true rfl)
  rw [lg_entry_eq]
  generalize (lg_sl ([.ref h0]) ++ List.replicate (1 - (lg_sl ([.ref h0])).length) Slot.unset).toArray = ls at hl ⊢
  have hl : lv_has ls 1 [(0, .ref h0)] := hl
  refine lv_aload_n hx hb dX2_init_0 rfl (lv_at hl 0 rfl) ?_
  refine W.objInit hx hb hown (hts (.methodLink RX2 5 objectInit) (List.mem_cons_of_mem _ (List.mem_append_left _ (List.mem_of_getElem? (i := 0) rfl)))) (hts (.instanceMethod objectInit) (List.mem_cons_of_mem _ (List.mem_append_left _ (List.mem_of_getElem? (i := 1) rfl)))) (hts (.code objectInit ⟨#[0xb1]⟩ 1 none) (List.mem_cons_of_mem _ (List.mem_append_left _ (List.mem_of_getElem? (i := 2) rfl)))) rfl (by rw [hml]; exact hl.1) rfl dX2_init_1 (Nat.le_of_ble_eq_true rfl) (Nat.le_of_ble_eq_true rfl) ?_
  refine W.eq (g2 := F0 m 4 ls []) rfl ?_
  refine lv_aload_n hx hb dX2_init_4 rfl (lv_at hl 0 rfl) ?_
  refine lv_sipush (v := 128) hx hb dX2_init_5 (by decide) ?_
  refine va_newa (atype := .long) hx hb (hts (.arrayClass .long) (List.mem_cons_of_mem _ (List.mem_append_left _ (List.mem_of_getElem? (i := 3) rfl)))) (ty := .long) rfl hK hP hD hS hA (a0 := (128, .inr (.inl (fun _ => 0)))) (fun _ => rfl) (by decide) (by decide) (Nat.le_of_ble_eq_true rfl) (Nat.le_of_ble_eq_true rfl) (Nat.le_of_ble_eq_true rfl) dX2_init_8 (fun q_1 cA_2 H hK hP hD hS => ?_)
  have hP : va_P (dC, dI) vwCl [(h0, .inr (2, [.null])), (q_1, .inl (cA_2, 128, .inr (.inl (fun _ => 0))))] H := hP
  have hD : va_D A [(h0, .inr (2, [.null])), (q_1, .inl (cA_2, 128, .inr (.inl (fun _ => 0))))] := hD
  have hK : va_K (dC, dI) vwCl [(cA_2, .long)] s := hK
  refine W.widen (k := 1) (n := 128) (Nat.le_of_ble_eq_true rfl) (Nat.le_of_ble_eq_true rfl) ?_
  refine va_putF (D := (dC, dI)) (ci := 2) (v := .ref q_1) (ty := .array .long) (C := RX2) (T := TX2) (N := 1) hx hb hts (fun _ h0_ => List.mem_cons_of_mem _ (List.mem_append_right _ (List.mem_append_left _ h0_))) tyX2 tyX2_ok nmX2 hown hK hP hD hS 0 rfl rfl 0 (by decide) (hts (.fieldLink RX2 11 "DeadlineShare$Log" "rows" "[J") (List.mem_cons_of_mem _ (List.mem_append_left _ (List.mem_of_getElem? (i := 4) rfl)))) (fun _ h9 => h9) rfl hin rfl (by decide +kernel) rfl rfl (Nat.le_of_ble_eq_true rfl) dX2_init_10 (fun H locs hP hD hS => ?_)
  have hP : va_P (dC, dI) vwCl [(h0, .inr (2, [.ref q_1])), (q_1, .inl (cA_2, 128, .inr (.inl (fun _ => 0))))] H := hP
  have hD : va_D A [(h0, .inr (2, [.ref q_1])), (q_1, .inl (cA_2, 128, .inr (.inl (fun _ => 0))))] := hD
  have hP9 := hP.sub (ws' := [(h0, .inr (2, [.ref q_1])), (q_1, .inl (cA_2, 128, .inr (.inl (fun _ => 0))))]) [0, 1] rfl
  have hD9 := hD.sub (ws' := [(h0, .inr (2, [.ref q_1])), (q_1, .inl (cA_2, 128, .inr (.inl (fun _ => 0))))]) [0, 1] (by decide) rfl
  have hK9 := hK.sub (tys' := [(cA_2, .long)]) [0] rfl
  refine W.widen (k := 1) (n := 128) (Nat.le_of_ble_eq_true rfl) (Nat.le_of_ble_eq_true rfl) ?_
  exact W.vret hx hb hr (fun t ht hW => ⟨⟨(), rfl, trivial, q_1, cA_2, by rw [ht]; exact hP9, va_K.moved hW.alike hK9, hD9⟩, hS.F ht⟩) hS.2.2 dX2_init_13
theorem tw_1035 : q_g (.methodLink RX0 3 objectInit) := ⟨(List.mem_append_right _ (List.mem_of_getElem? (i := 271) (by decide +kernel))), good_of_word (by decide +kernel)⟩
theorem tw_1036 : q_g (.code yX0_init cX0_init 2 none) := ⟨(List.mem_append_right _ (List.mem_of_getElem? (i := 270) (by decide +kernel))), good_of_word (by decide +kernel)⟩
def ow_n_X0 : List Cond := [.methodLink RX0 3 objectInit, .instanceMethod objectInit, .code objectInit ⟨#[0xb1]⟩ 1 none, .fieldLink RX0 9 "DeadlineShare$Chooser" "terms" "LDeadlineShare$Terms;"]
def wq_n_X0 : List Cond := .code yX0_init cX0_init 2 none :: (ow_n_X0 ++ (u_ws RX0 TX0 3 ++ ([] : List Cond)))
theorem tb_n_X0 : ∀ w ∈ wq_n_X0, q_g w := by
  unfold wq_n_X0 ow_n_X0
  exact q_cons tw_1036 (q_app (q_cons tw_1035 (q_cons tw_1019 (q_cons tw_1018 (q_cons tw_2 q_nil)))) (q_app tu_X0 q_nil))
set_option maxHeartbeats 4000000 in
set_option maxRecDepth 100000 in
theorem n_X0 (l : Launch) (dC : Nat → ClassId) (dI : Nat → Nat → Nat) (h0 : Nat) (tr : Nat) (sz : Nat) : Met l yX0_init wq_n_X0 ({ frames := 1, cells := 0, slots := 0, locals := 12 } : Room) (va_Pc [.ref h0, .ref tr] (fun U => U.heap.size = sz ∧ va_P (dC, dI) vwCl [(h0, .inr (0, [.null, .int 0, .long 0]))] U.heap ∧ va_K (dC, dI) vwCl [] U ∧ va_D (fun _ => True) [(h0, .inr (0, [.null, .int 0, .long 0]))])) (va_Qv (fun (_ : Unit) => True) (fun (_ : Unit) t => va_P (dC, dI) vwCl [(h0, .inr (0, [.ref tr, .int 0, .long 0]))] t.heap ∧ va_K (dC, dI) vwCl [] t ∧ va_D (va_A [(h0, .inr (0, [.null, .int 0, .long 0]))] sz) [(h0, .inr (0, [.ref tr, .int 0, .long 0]))]) (va_A [(h0, .inr (0, [.null, .int 0, .long 0]))] sz)) 0 0 (va_A [(h0, .inr (0, [.null, .int 0, .long 0]))] sz) := by
  refine Met.ofW (cc := cX0_init) (maxL := 2) (ret := none) (by decide) rfl ?_
  intro p e s m args below meth c s₁ B hml hv
  obtain ⟨rfl, hsz, hP, hK, hD0⟩ := hv
  have hx := B.exec
  have hb := B.bytes
  have hr := B.returns
  have hts := atoms_spec (ws := wq_n_X0) B.pre
  have hown : s.vm.findClass RX0 = some m.cls := findClass_of_methodNamed B.named
  have hlocks := B.notSynchronized
  have hin : meth.name = "<init>" := (name_of_methodNamed B.named B.method).1
  subst hsz
  have hD := hD0.self (sz := s.heap.size)
  obtain ⟨A, hAe⟩ : ∃ A, A = va_A [(h0, .inr (0, [.null, .int 0, .long 0]))] s.heap.size := ⟨_, rfl⟩
  rw [← hAe] at hD ⊢
  have hA : ∀ q : Nat, s.heap.size ≤ q → A q := fun q h => by rw [hAe]; exact Or.inr h
  have hS : va_S A s.heap s.heap [] := va_S.rf
  have hP : va_P (dC, dI) vwCl [(h0, .inr (0, [.null, .int 0, .long 0]))] s.heap := hP
  have hl := lv_entry ([.ref h0, .ref tr]) (n := 2) (Nat.le_of_ble_eq_true rfl)
  rw [lg_entry_eq]
  generalize (lg_sl ([.ref h0, .ref tr]) ++ List.replicate (2 - (lg_sl ([.ref h0, .ref tr])).length) Slot.unset).toArray = ls at hl ⊢
  have hl : lv_has ls 2 [(0, .ref h0), (1, .ref tr)] := hl
  refine lv_aload_n hx hb dX0_init_0 rfl (lv_at hl 0 rfl) ?_
  refine W.objInit hx hb hown (hts (.methodLink RX0 3 objectInit) (List.mem_cons_of_mem _ (List.mem_append_left _ (List.mem_of_getElem? (i := 0) rfl)))) (hts (.instanceMethod objectInit) (List.mem_cons_of_mem _ (List.mem_append_left _ (List.mem_of_getElem? (i := 1) rfl)))) (hts (.code objectInit ⟨#[0xb1]⟩ 1 none) (List.mem_cons_of_mem _ (List.mem_append_left _ (List.mem_of_getElem? (i := 2) rfl)))) rfl (by rw [hml]; exact hl.1) rfl dX0_init_1 (Nat.le_of_ble_eq_true rfl) (Nat.le_of_ble_eq_true rfl) ?_
  refine W.eq (g2 := F0 m 4 ls []) rfl ?_
  refine lv_aload_n hx hb dX0_init_4 rfl (lv_at hl 0 rfl) ?_
  refine lv_aload_n hx hb dX0_init_5 rfl (lv_at hl 1 rfl) ?_
  refine va_putF (D := (dC, dI)) (ci := 0) (v := .ref tr) (ty := .object "DeadlineShare$Terms") (C := RX0) (T := TX0) (N := 3) hx hb hts (fun _ h0_ => List.mem_cons_of_mem _ (List.mem_append_right _ (List.mem_append_left _ h0_))) tyX0 tyX0_ok nmX0 hown hK hP hD hS 0 rfl rfl 0 (by decide) (hts (.fieldLink RX0 9 "DeadlineShare$Chooser" "terms" "LDeadlineShare$Terms;") (List.mem_cons_of_mem _ (List.mem_append_left _ (List.mem_of_getElem? (i := 3) rfl)))) (fun _ h9 => h9) rfl hin rfl (by decide +kernel) rfl rfl (Nat.le_of_ble_eq_true rfl) dX0_init_6 (fun H locs hP hD hS => ?_)
  have hP : va_P (dC, dI) vwCl [(h0, .inr (0, [.ref tr, .int 0, .long 0]))] H := hP
  have hD : va_D A [(h0, .inr (0, [.ref tr, .int 0, .long 0]))] := hD
  have hP9 := hP.sub (ws' := [(h0, .inr (0, [.ref tr, .int 0, .long 0]))]) [0] rfl
  have hD9 := hD.sub (ws' := [(h0, .inr (0, [.ref tr, .int 0, .long 0]))]) [0] (by decide) rfl
  have hK9 := hK.sub (tys' := []) [] rfl
  refine W.widen (k := 0) (n := 0) (Nat.le_of_ble_eq_true rfl) (Nat.le_of_ble_eq_true rfl) ?_
  exact W.vret hx hb hr (fun t ht hW => ⟨⟨(), rfl, trivial, by rw [ht]; exact hP9, va_K.moved hW.alike hK9, hD9⟩, hS.F ht⟩) hS.2.2 dX0_init_9
theorem tw_1037 : q_g (.instanceMethod yX5_init) := ⟨(List.mem_append_right _ (List.mem_of_getElem? (i := 75) (by decide +kernel))), good_of_word (by decide +kernel)⟩
theorem tw_1038 : q_g (.instantiable RX5 5) := ⟨(List.mem_append_right _ (List.mem_of_getElem? (i := 73) (by decide +kernel))), good_of_word (by decide +kernel)⟩
theorem tw_1039 : q_g (.classLink RX3 9 RX5) := ⟨(List.mem_append_right _ (List.mem_of_getElem? (i := 72) (by decide +kernel))), good_of_word (by decide +kernel)⟩
theorem tw_1040 : q_g (.methodLink RX3 3 objectInit) := ⟨(List.mem_append_right _ (List.mem_of_getElem? (i := 71) (by decide +kernel))), good_of_word (by decide +kernel)⟩
theorem tw_1041 : q_g (.code yX3_init cX3_init 1 none) := ⟨(List.mem_append_right _ (List.mem_of_getElem? (i := 70) (by decide +kernel))), good_of_word (by decide +kernel)⟩
def ow_n_X3 : List Cond := [.methodLink RX3 3 objectInit, .instanceMethod objectInit, .code objectInit ⟨#[0xb1]⟩ 1 none, .classLink RX3 9 RX5, .instantiable RX5 5, .initialized RX5, .instanceMethod yX5_init, .fieldLink RX3 12 "DeadlineShare$Reader" "script" "LDeadlineShare$Script;"]
def wq_n_X3 : List Cond := .code yX3_init cX3_init 1 none :: (ow_n_X3 ++ (u_ws RX5 TX5 5 ++ (wq_n_X5 ++ (u_ws RX3 TX3 2 ++ ([] : List Cond)))))
theorem tb_n_X3 : ∀ w ∈ wq_n_X3, q_g w := by
  unfold wq_n_X3 ow_n_X3
  exact q_cons tw_1041 (q_app (q_cons tw_1040 (q_cons tw_1019 (q_cons tw_1018 (q_cons tw_1039 (q_cons tw_1038 (q_cons tw_133 (q_cons tw_1037 (q_cons tw_252 q_nil)))))))) (q_app tu_X5 (q_app tb_n_X5 (q_app tu_X3 q_nil))))
set_option maxHeartbeats 4000000 in
set_option maxRecDepth 100000 in
theorem n_X3 (l : Launch) (dC : Nat → ClassId) (dI : Nat → Nat → Nat) (h0 : Nat) (sz : Nat) : Met l yX3_init wq_n_X3 ({ frames := 2, cells := 2, slots := 13, locals := 32 } : Room) (va_Pc [.ref h0] (fun U => U.heap.size = sz ∧ va_P (dC, dI) vwCl [(h0, .inr (3, [.null, .int 0]))] U.heap ∧ va_K (dC, dI) vwCl [] U ∧ va_D (fun _ => True) [(h0, .inr (3, [.null, .int 0]))] ∧ va_Nw (.methodLinkNest RX3 11 yX5_init "DeadlineShare") U)) (va_Qv (fun (_ : Unit) => True) (fun (_ : Unit) t => ∃ (q1 : Nat), ∃ (q2 : Nat), ∃ (cA : ClassId), va_P (dC, dI) vwCl [(h0, .inr (3, [.ref q1, .int 0])), (q1, .inr (5, [.ref q2, .int 0, .int 0, .int 0, .int 0])), (q2, .inl (cA, 8, .inl (fun _ => 0)))] t.heap ∧ va_K (dC, dI) vwCl [(cA, .int)] t ∧ va_D (va_A [(h0, .inr (3, [.null, .int 0]))] sz) [(h0, .inr (3, [.ref q1, .int 0])), (q1, .inr (5, [.ref q2, .int 0, .int 0, .int 0, .int 0])), (q2, .inl (cA, 8, .inl (fun _ => 0)))]) (va_A [(h0, .inr (3, [.null, .int 0]))] sz)) 2 13 (va_A [(h0, .inr (3, [.null, .int 0]))] sz) := by
  refine Met.ofW (cc := cX3_init) (maxL := 1) (ret := none) (by decide) rfl ?_
  intro p e s m args below meth c s₁ B hml hv
  obtain ⟨rfl, hsz, hP, hK, hD0, hE0⟩ := hv
  have hx := B.exec
  have hb := B.bytes
  have hr := B.returns
  have hts := atoms_spec (ws := wq_n_X3) B.pre
  have hown : s.vm.findClass RX3 = some m.cls := findClass_of_methodNamed B.named
  have hlocks := B.notSynchronized
  have hin : meth.name = "<init>" := (name_of_methodNamed B.named B.method).1
  subst hsz
  have hD := hD0.self (sz := s.heap.size)
  obtain ⟨A, hAe⟩ : ∃ A, A = va_A [(h0, .inr (3, [.null, .int 0]))] s.heap.size := ⟨_, rfl⟩
  rw [← hAe] at hD ⊢
  have hA : ∀ q : Nat, s.heap.size ≤ q → A q := fun q h => by rw [hAe]; exact Or.inr h
  have hS : va_S A s.heap s.heap [] := va_S.rf
  have hP : va_P (dC, dI) vwCl [(h0, .inr (3, [.null, .int 0]))] s.heap := hP
  have hl := lv_entry ([.ref h0]) (n := 1) (Nat.le_of_ble_eq_true rfl)
  rw [lg_entry_eq]
  generalize (lg_sl ([.ref h0]) ++ List.replicate (1 - (lg_sl ([.ref h0])).length) Slot.unset).toArray = ls at hl ⊢
  have hl : lv_has ls 1 [(0, .ref h0)] := hl
  refine lv_aload_n hx hb dX3_init_0 rfl (lv_at hl 0 rfl) ?_
  refine W.objInit hx hb hown (hts (.methodLink RX3 3 objectInit) (List.mem_cons_of_mem _ (List.mem_append_left _ (List.mem_of_getElem? (i := 0) rfl)))) (hts (.instanceMethod objectInit) (List.mem_cons_of_mem _ (List.mem_append_left _ (List.mem_of_getElem? (i := 1) rfl)))) (hts (.code objectInit ⟨#[0xb1]⟩ 1 none) (List.mem_cons_of_mem _ (List.mem_append_left _ (List.mem_of_getElem? (i := 2) rfl)))) rfl (by rw [hml]; exact hl.1) rfl dX3_init_1 (Nat.le_of_ble_eq_true rfl) (Nat.le_of_ble_eq_true rfl) ?_
  refine W.eq (g2 := F0 m 4 ls []) rfl ?_
  refine lv_aload_n hx hb dX3_init_4 rfl (lv_at hl 0 rfl) ?_
  refine va_new (ci := 5) (fs := [.null, .int 0, .int 0, .int 0, .int 0]) (C := RX5) (T := TX5) (N := 5) hx hb hts (fun _ h0_ => List.mem_cons_of_mem _ (List.mem_append_right _ (List.mem_append_left _ h0_))) tyX5 tyX5_ok hown (hts (.classLink RX3 9 RX5) (List.mem_cons_of_mem _ (List.mem_append_left _ (List.mem_of_getElem? (i := 3) rfl)))) (hts (.instantiable RX5 5) (List.mem_cons_of_mem _ (List.mem_append_left _ (List.mem_of_getElem? (i := 4) rfl)))) (hts (.initialized RX5) (List.mem_cons_of_mem _ (List.mem_append_left _ (List.mem_of_getElem? (i := 5) rfl)))) hK hP hD hS hA rfl (fun j hj => by match j, hj with | 0, _ => rfl | 1, _ => rfl | 2, _ => rfl | 3, _ => rfl | 4, _ => rfl | (j9 + 5), h => exact absurd h (by omega)) (Nat.le_of_ble_eq_true rfl) (Nat.le_of_ble_eq_true rfl) dX3_init_5 (fun q_1 H hP hD hS => ?_)
  have hP : va_P (dC, dI) vwCl [(h0, .inr (3, [.null, .int 0])), (q_1, .inr (5, [.null, .int 0, .int 0, .int 0, .int 0]))] H := hP
  have hD : va_D A [(h0, .inr (3, [.null, .int 0])), (q_1, .inr (5, [.null, .int 0, .int 0, .int 0, .int 0]))] := hD
  refine W.widen (k := 1) (n := 5) (Nat.le_of_ble_eq_true rfl) (Nat.le_of_ble_eq_true rfl) ?_
  refine lv_dup hx hb dX3_init_8 rfl ?_
  have hPc := hP.sub (ws' := [(q_1, .inr (5, [.null, .int 0, .int 0, .int 0, .int 0]))]) [1] rfl
  have hDc := hD.sub (ws' := [(q_1, .inr (5, [.null, .int 0, .int 0, .int 0, .int 0]))]) [1] (by decide) rfl
  have hKc := hK.sub (tys' := []) [] rfl
  have hFc := va_free (wc := [(q_1, .inr (5, [.null, .int 0, .int 0, .int 0, .int 0]))]) hD hS hA [1] rfl
  refine va_callv (va_runIN (As := []) (rest := [.ref q_1, .ref h0]) ⟨hx, hb, hml, hown, hts⟩ (n_X5 l dC dI q_1 H.size) ⟨va_cnB 0 hts (fun w_ h0_ => ⟨List.mem_cons_of_mem _ (List.mem_append_right _ (List.mem_append_right _ (List.mem_append_left _ h0_))), (tb_n_X5 w_ h0_).2⟩) rfl rfl rfl hE0 (hts (.initialized RX5) (List.mem_cons_of_mem _ (List.mem_append_left _ (List.mem_of_getElem? (i := 5) rfl)))) (by decide +kernel) ⟨Nat.le_of_ble_eq_true rfl, Nat.le_of_ble_eq_true rfl⟩, rfl, (hts (.instanceMethod yX5_init) (List.mem_cons_of_mem _ (List.mem_append_left _ (List.mem_of_getElem? (i := 6) rfl))))⟩ ⟨fun a U g mk q => by obtain ⟨q0, q1, qP, qK, qD⟩ := q; exact ⟨q0, q1, qP, va_K.moved (u := U) (U := U.calling g mk a) (Vm.Alike.refl U.vm) qK, qD⟩, fun U hU hW => ⟨rfl, by rw [hU], by rw [hU]; exact hPc, va_K.moved hW.alike hKc, hDc.weaken (fun _ _ _ _ => trivial)⟩⟩ rfl rfl hl.1 rfl (lv_room (Nat.le_of_ble_eq_true rfl)) dX3_init_9 ⟨Nat.le_of_ble_eq_true rfl, Nat.le_of_ble_eq_true rfl⟩) hS (fun q _ h => hFc q h) hFc (fun u t H1 locs ht hvm hw hB hz1 hk1 hS => ?_)
  obtain ⟨q_2, cA_3, hP1, hK1, hD1⟩ := hB
  rw [ht] at hP1
  have hK1 := va_K.moved hvm.symm hK1
  obtain ⟨hP, hD⟩ := va_join (wr := [(h0, .inr (3, [.null, .int 0]))]) (w1 := [(q_1, .inr (5, [.ref q_2, .int 0, .int 0, .int 0, .int 0])), (q_2, .inl (cA_3, 8, .inl (fun _ => 0)))]) hP hD [1] [0] rfl rfl (by decide) (by decide) hk1 hFc hP1 hD1
  have hK := hK.app hK1
  have hK : va_K (dC, dI) vwCl [(cA_3, .int)] s := hK
  generalize H1 = H at hP hS ⊢
  have hP : va_P (dC, dI) vwCl [(h0, .inr (3, [.null, .int 0])), (q_1, .inr (5, [.ref q_2, .int 0, .int 0, .int 0, .int 0])), (q_2, .inl (cA_3, 8, .inl (fun _ => 0)))] H := hP
  have hD : va_D A [(h0, .inr (3, [.null, .int 0])), (q_1, .inr (5, [.ref q_2, .int 0, .int 0, .int 0, .int 0])), (q_2, .inl (cA_3, 8, .inl (fun _ => 0)))] := hD
  refine W.widen (k := 2) (n := 13) (Nat.le_of_ble_eq_true rfl) (Nat.le_of_ble_eq_true rfl) ?_
  refine va_putF (D := (dC, dI)) (ci := 3) (v := .ref q_1) (ty := .object "DeadlineShare$Script") (C := RX3) (T := TX3) (N := 2) hx hb hts (fun _ h0_ => List.mem_cons_of_mem _ (List.mem_append_right _ (List.mem_append_right _ (List.mem_append_right _ (List.mem_append_left _ h0_))))) tyX3 tyX3_ok nmX3 hown hK hP hD hS 0 rfl rfl 0 (by decide) (hts (.fieldLink RX3 12 "DeadlineShare$Reader" "script" "LDeadlineShare$Script;") (List.mem_cons_of_mem _ (List.mem_append_left _ (List.mem_of_getElem? (i := 7) rfl)))) (fun _ h9 => h9) rfl hin rfl (by decide +kernel) rfl rfl (Nat.le_of_ble_eq_true rfl) dX3_init_12 (fun H locs hP hD hS => ?_)
  have hP : va_P (dC, dI) vwCl [(h0, .inr (3, [.ref q_1, .int 0])), (q_1, .inr (5, [.ref q_2, .int 0, .int 0, .int 0, .int 0])), (q_2, .inl (cA_3, 8, .inl (fun _ => 0)))] H := hP
  have hD : va_D A [(h0, .inr (3, [.ref q_1, .int 0])), (q_1, .inr (5, [.ref q_2, .int 0, .int 0, .int 0, .int 0])), (q_2, .inl (cA_3, 8, .inl (fun _ => 0)))] := hD
  have hP9 := hP.sub (ws' := [(h0, .inr (3, [.ref q_1, .int 0])), (q_1, .inr (5, [.ref q_2, .int 0, .int 0, .int 0, .int 0])), (q_2, .inl (cA_3, 8, .inl (fun _ => 0)))]) [0, 1, 2] rfl
  have hD9 := hD.sub (ws' := [(h0, .inr (3, [.ref q_1, .int 0])), (q_1, .inr (5, [.ref q_2, .int 0, .int 0, .int 0, .int 0])), (q_2, .inl (cA_3, 8, .inl (fun _ => 0)))]) [0, 1, 2] (by decide) rfl
  have hK9 := hK.sub (tys' := [(cA_3, .int)]) [0] rfl
  refine W.widen (k := 2) (n := 13) (Nat.le_of_ble_eq_true rfl) (Nat.le_of_ble_eq_true rfl) ?_
  exact W.vret hx hb hr (fun t ht hW => ⟨⟨(), rfl, trivial, q_1, q_2, cA_3, by rw [ht]; exact hP9, va_K.moved hW.alike hK9, hD9⟩, hS.F ht⟩) hS.2.2 dX3_init_15
