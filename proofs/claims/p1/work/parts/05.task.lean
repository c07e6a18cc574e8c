def ow_c_X8_takeQuota0 : List Cond := [.fieldLink RX8 87 "DeadlineShare$Task" "quota" "I", .fieldLink RX8 90 "DeadlineShare$Task" "period" "I", .fieldLink RX8 84 "DeadlineShare$Task" "budget" "I"]
def wq_c_X8_takeQuota0 : List Cond := .code yX8_takeQuota cX8_takeQuota 3 none :: (ow_c_X8_takeQuota0 ++ (u_ws RX8 TX8 18 ++ ([] : List Cond)))
theorem tb_c_X8_takeQuota0 : ∀ w ∈ wq_c_X8_takeQuota0, q_g w := by
  unfold wq_c_X8_takeQuota0 ow_c_X8_takeQuota0
  exact q_cons tw_238 (q_app (q_cons tw_237 (q_cons tw_236 (q_cons tw_235 q_nil))) (q_app tu_X8 q_nil))
set_option maxHeartbeats 4000000 in
set_option maxRecDepth 100000 in
theorem c_X8_takeQuota0 (l : Launch) (dC : Nat → ClassId) (dI : Nat → Nat → Nat) (h0 : Nat) (g0 : Int32) (g1 : Nat) (g2 : Int32) (g3 : Int32) (g4 : Int32) (g5 : Int64) (g6 : Int32) (g7 : Nat) (g8 : Int32) (g9 : Int32) (g10 : Int32) (g11 : Int32) (g12 : Int32) (g13 : Int32) (g14 : Int32) (g15 : Int32) (g16 : Int32) (g17 : Int32) (sz : Nat) : Met l yX8_takeQuota wq_c_X8_takeQuota0 ({ frames := 0, cells := 0, slots := 0, locals := 0 } : Room) (va_Pc [.ref h0, .int 0, .int 0] (fun U => U.heap.size = sz ∧ va_P (dC, dI) vwCl [(h0, .inr (8, [.int g0, .ref g1, .int g2, .int g3, .int g4, .long g5, .int g6, .ref g7, .int g8, .int g9, .int g10, .int g11, .int g12, .int g13, .int g14, .int g15, .int g16, .int g17]))] U.heap ∧ va_K (dC, dI) vwCl [] U ∧ va_D (fun _ => True) [(h0, .inr (8, [.int g0, .ref g1, .int g2, .int g3, .int g4, .long g5, .int g6, .ref g7, .int g8, .int g9, .int g10, .int g11, .int g12, .int g13, .int g14, .int g15, .int g16, .int g17]))])) (va_Qv (fun (_ : Unit) => True) (fun (_ : Unit) t => va_P (dC, dI) vwCl [] t.heap ∧ va_K (dC, dI) vwCl [] t ∧ va_D (va_A [(h0, .inr (8, [.int g0, .ref g1, .int g2, .int g3, .int g4, .long g5, .int g6, .ref g7, .int g8, .int g9, .int g10, .int g11, .int g12, .int g13, .int g14, .int g15, .int g16, .int g17]))] sz) []) (va_A [(h0, .inr (8, [.int g0, .ref g1, .int g2, .int g3, .int g4, .long g5, .int g6, .ref g7, .int g8, .int g9, .int g10, .int g11, .int g12, .int g13, .int g14, .int g15, .int g16, .int g17]))] sz)) 0 0 (va_A [(h0, .inr (8, [.int g0, .ref g1, .int g2, .int g3, .int g4, .long g5, .int g6, .ref g7, .int g8, .int g9, .int g10, .int g11, .int g12, .int g13, .int g14, .int g15, .int g16, .int g17]))] sz) := by
  refine Met.ofW (cc := cX8_takeQuota) (maxL := 3) (ret := none) (by decide) rfl ?_
  intro p e s m args below meth c s₁ B hml hv
  obtain ⟨rfl, hsz, hP, hK, hD0⟩ := hv
  have hx := B.exec
  have hb := B.bytes
  have hr := B.returns
  have hts := atoms_spec (ws := wq_c_X8_takeQuota0) B.pre
  have hown : s.vm.findClass RX8 = some m.cls := findClass_of_methodNamed B.named
  have hlocks := B.notSynchronized
  subst hsz
  have hD := hD0.self (sz := s.heap.size)
  obtain ⟨A, hAe⟩ : ∃ A, A = va_A [(h0, .inr (8, [.int g0, .ref g1, .int g2, .int g3, .int g4, .long g5, .int g6, .ref g7, .int g8, .int g9, .int g10, .int g11, .int g12, .int g13, .int g14, .int g15, .int g16, .int g17]))] s.heap.size := ⟨_, rfl⟩
  rw [← hAe] at hD ⊢
  have hA : ∀ q : Nat, s.heap.size ≤ q → A q := fun q h => by rw [hAe]; exact Or.inr h
  have hS : va_S A s.heap s.heap [] := va_S.rf
  have hP : va_P (dC, dI) vwCl [(h0, .inr (8, [.int g0, .ref g1, .int g2, .int g3, .int g4, .long g5, .int g6, .ref g7, .int g8, .int g9, .int g10, .int g11, .int g12, .int g13, .int g14, .int g15, .int g16, .int g17]))] s.heap := hP
  have hl := lv_entry ([.ref h0, .int 0, .int 0]) (n := 3) (Nat.le_of_ble_eq_true rfl)
  rw [lg_entry_eq]
  generalize (lg_sl ([.ref h0, .int 0, .int 0]) ++ List.replicate (3 - (lg_sl ([.ref h0, .int 0, .int 0])).length) Slot.unset).toArray = ls at hl ⊢
  have hl : lv_has ls 3 [(0, .ref h0), (1, .int 0), (2, .int 0)] := hl
  refine lv_aload_n hx hb dX8_takeQuota_0 rfl (lv_at hl 0 rfl) ?_
  refine lv_iload_n hx hb dX8_takeQuota_1 rfl (lv_at hl 1 rfl) ?_
  refine va_put (D := (dC, dI)) (ci := 8) (v := .int 0) (ty := .int) (C := RX8) (T := TX8) (N := 18) hx hb hts (fun _ h0_ => List.mem_cons_of_mem _ (List.mem_append_right _ (List.mem_append_left _ h0_))) tyX8 tyX8_ok nmX8 hown hK hP hD hS 0 rfl rfl 16 (by decide) (hts (.fieldLink RX8 87 "DeadlineShare$Task" "quota" "I") (List.mem_cons_of_mem _ (List.mem_append_left _ (List.mem_of_getElem? (i := 0) rfl)))) (fun _ h9 => h9) rfl (by decide +kernel) rfl rfl (Nat.le_of_ble_eq_true rfl) dX8_takeQuota_2 (fun H locs hP hD hS => ?_)
  have hP : va_P (dC, dI) vwCl [(h0, .inr (8, [.int g0, .ref g1, .int g2, .int g3, .int g4, .long g5, .int g6, .ref g7, .int g8, .int g9, .int g10, .int g11, .int g12, .int g13, .int g14, .int g15, .int 0, .int g17]))] H := hP
  have hD : va_D A [(h0, .inr (8, [.int g0, .ref g1, .int g2, .int g3, .int g4, .long g5, .int g6, .ref g7, .int g8, .int g9, .int g10, .int g11, .int g12, .int g13, .int g14, .int g15, .int 0, .int g17]))] := hD
  refine lv_aload_n hx hb dX8_takeQuota_5 rfl (lv_at hl 0 rfl) ?_
  refine lv_iload_n hx hb dX8_takeQuota_6 rfl (lv_at hl 1 rfl) ?_
  refine lv_if_le (tgt := 14) hx hb dX8_takeQuota_7 (by decide) (fun _ => ?_) (fun c => absurd (by decide) c)
  refine lv_iconst (v := 0) hx hb dX8_takeQuota_14 (by decide) ?_
  refine va_put (D := (dC, dI)) (ci := 8) (v := .int 0) (ty := .int) (C := RX8) (T := TX8) (N := 18) hx hb hts (fun _ h0_ => List.mem_cons_of_mem _ (List.mem_append_right _ (List.mem_append_left _ h0_))) tyX8 tyX8_ok nmX8 hown hK hP hD hS 0 rfl rfl 17 (by decide) (hts (.fieldLink RX8 90 "DeadlineShare$Task" "period" "I") (List.mem_cons_of_mem _ (List.mem_append_left _ (List.mem_of_getElem? (i := 1) rfl)))) (fun _ h9 => h9) rfl (by decide +kernel) rfl rfl (Nat.le_of_ble_eq_true rfl) dX8_takeQuota_15 (fun H locs hP hD hS => ?_)
  have hP : va_P (dC, dI) vwCl [(h0, .inr (8, [.int g0, .ref g1, .int g2, .int g3, .int g4, .long g5, .int g6, .ref g7, .int g8, .int g9, .int g10, .int g11, .int g12, .int g13, .int g14, .int g15, .int 0, .int 0]))] H := hP
  have hD : va_D A [(h0, .inr (8, [.int g0, .ref g1, .int g2, .int g3, .int g4, .long g5, .int g6, .ref g7, .int g8, .int g9, .int g10, .int g11, .int g12, .int g13, .int g14, .int g15, .int 0, .int 0]))] := hD
  refine lv_aload_n hx hb dX8_takeQuota_18 rfl (lv_at hl 0 rfl) ?_
  refine lv_iload_n hx hb dX8_takeQuota_19 rfl (lv_at hl 1 rfl) ?_
  refine lv_if_le (tgt := 27) hx hb dX8_takeQuota_20 (by decide) (fun _ => ?_) (fun c => absurd (by decide) c)
  refine lv_iconst (v := (-1)) hx hb dX8_takeQuota_27 (by decide) ?_
  refine va_put (D := (dC, dI)) (ci := 8) (v := .int (-1)) (ty := .int) (C := RX8) (T := TX8) (N := 18) hx hb hts (fun _ h0_ => List.mem_cons_of_mem _ (List.mem_append_right _ (List.mem_append_left _ h0_))) tyX8 tyX8_ok nmX8 hown hK hP hD hS 0 rfl rfl 15 (by decide) (hts (.fieldLink RX8 84 "DeadlineShare$Task" "budget" "I") (List.mem_cons_of_mem _ (List.mem_append_left _ (List.mem_of_getElem? (i := 2) rfl)))) (fun _ h9 => h9) rfl (by decide +kernel) rfl rfl (Nat.le_of_ble_eq_true rfl) dX8_takeQuota_28 (fun H locs hP hD hS => ?_)
  have hP : va_P (dC, dI) vwCl [(h0, .inr (8, [.int g0, .ref g1, .int g2, .int g3, .int g4, .long g5, .int g6, .ref g7, .int g8, .int g9, .int g10, .int g11, .int g12, .int g13, .int g14, .int (-1), .int 0, .int 0]))] H := hP
  have hD : va_D A [(h0, .inr (8, [.int g0, .ref g1, .int g2, .int g3, .int g4, .long g5, .int g6, .ref g7, .int g8, .int g9, .int g10, .int g11, .int g12, .int g13, .int g14, .int (-1), .int 0, .int 0]))] := hD
  have hP9 := hP.sub (ws' := []) [] rfl
  have hD9 := hD.sub (ws' := []) [] (by decide) rfl
  have hK9 := hK.sub (tys' := []) [] rfl
  refine W.widen (k := 0) (n := 0) (Nat.le_of_ble_eq_true rfl) (Nat.le_of_ble_eq_true rfl) ?_
  exact W.vret hx hb hr (fun t ht hW => ⟨⟨(), rfl, trivial, by rw [ht]; exact hP9, va_K.moved hW.alike hK9, hD9⟩, hS.F ht⟩) hS.2.2 dX8_takeQuota_31
def ow_c_X5_drop : List Cond := [.fieldLink RX5 28 "DeadlineShare$Script" "size" "I", .fieldLink RX5 32 "DeadlineShare$Script" "at" "I", .fieldLink RX5 35 "DeadlineShare$Script" "toRun" "I", .fieldLink RX5 38 "DeadlineShare$Script" "timesBack" "I"]
def wq_c_X5_drop : List Cond := .code yX5_drop cX5_drop 1 none :: (ow_c_X5_drop ++ (u_ws RX5 TX5 5 ++ ([] : List Cond)))
theorem tb_c_X5_drop : ∀ w ∈ wq_c_X5_drop, q_g w := by
  unfold wq_c_X5_drop ow_c_X5_drop
  exact q_cons tw_243 (q_app (q_cons tw_242 (q_cons tw_241 (q_cons tw_240 (q_cons tw_239 q_nil)))) (q_app tu_X5 q_nil))
set_option maxHeartbeats 4000000 in
set_option maxRecDepth 100000 in
theorem c_X5_drop (l : Launch) (dC : Nat → ClassId) (dI : Nat → Nat → Nat) (h0 : Nat) (s1 : Nat) (s2 : Int32) (s3 : Int32) (s4 : Int32) (s5 : Int32) (sz : Nat) : Met l yX5_drop wq_c_X5_drop ({ frames := 0, cells := 0, slots := 0, locals := 0 } : Room) (va_Pc [.ref h0] (fun U => U.heap.size = sz ∧ va_P (dC, dI) vwCl [(h0, .inr (5, [.ref s1, .int s2, .int s3, .int s4, .int s5]))] U.heap ∧ va_K (dC, dI) vwCl [] U ∧ va_D (fun _ => True) [(h0, .inr (5, [.ref s1, .int s2, .int s3, .int s4, .int s5]))])) (va_Qv (fun (_ : Unit) => True) (fun (_ : Unit) t => va_P (dC, dI) vwCl [] t.heap ∧ va_K (dC, dI) vwCl [] t ∧ va_D (va_A [(h0, .inr (5, [.ref s1, .int s2, .int s3, .int s4, .int s5]))] sz) []) (va_A [(h0, .inr (5, [.ref s1, .int s2, .int s3, .int s4, .int s5]))] sz)) 0 0 (va_A [(h0, .inr (5, [.ref s1, .int s2, .int s3, .int s4, .int s5]))] sz) := by
  refine Met.ofW (cc := cX5_drop) (maxL := 1) (ret := none) (by decide) rfl ?_
  intro p e s m args below meth c s₁ B hml hv
  obtain ⟨rfl, hsz, hP, hK, hD0⟩ := hv
  have hx := B.exec
  have hb := B.bytes
  have hr := B.returns
  have hts := atoms_spec (ws := wq_c_X5_drop) B.pre
  have hown : s.vm.findClass RX5 = some m.cls := findClass_of_methodNamed B.named
  have hlocks := B.notSynchronized
  subst hsz
  have hD := hD0.self (sz := s.heap.size)
  obtain ⟨A, hAe⟩ : ∃ A, A = va_A [(h0, .inr (5, [.ref s1, .int s2, .int s3, .int s4, .int s5]))] s.heap.size := ⟨_, rfl⟩
  rw [← hAe] at hD ⊢
  have hA : ∀ q : Nat, s.heap.size ≤ q → A q := fun q h => by rw [hAe]; exact Or.inr h
  have hS : va_S A s.heap s.heap [] := va_S.rf
  have hP : va_P (dC, dI) vwCl [(h0, .inr (5, [.ref s1, .int s2, .int s3, .int s4, .int s5]))] s.heap := hP
  have hl := lv_entry ([.ref h0]) (n := 1) (Nat.le_of_ble_eq_true rfl)
  rw [lg_entry_eq]
  generalize (lg_sl ([.ref h0]) ++ List.replicate (1 - (lg_sl ([.ref h0])).length) Slot.unset).toArray = ls at hl ⊢
  have hl : lv_has ls 1 [(0, .ref h0)] := hl
  refine lv_aload_n hx hb dX5_drop_0 rfl (lv_at hl 0 rfl) ?_
  refine lv_iconst (v := 0) hx hb dX5_drop_1 (by decide) ?_
  refine va_put (D := (dC, dI)) (ci := 5) (v := .int 0) (ty := .int) (C := RX5) (T := TX5) (N := 5) hx hb hts (fun _ h0_ => List.mem_cons_of_mem _ (List.mem_append_right _ (List.mem_append_left _ h0_))) tyX5 tyX5_ok nmX5 hown hK hP hD hS 0 rfl rfl 1 (by decide) (hts (.fieldLink RX5 28 "DeadlineShare$Script" "size" "I") (List.mem_cons_of_mem _ (List.mem_append_left _ (List.mem_of_getElem? (i := 0) rfl)))) (fun _ h9 => h9) rfl (by decide +kernel) rfl rfl (Nat.le_of_ble_eq_true rfl) dX5_drop_2 (fun H locs hP hD hS => ?_)
  have hP : va_P (dC, dI) vwCl [(h0, .inr (5, [.ref s1, .int 0, .int s3, .int s4, .int s5]))] H := hP
  have hD : va_D A [(h0, .inr (5, [.ref s1, .int 0, .int s3, .int s4, .int s5]))] := hD
  refine lv_aload_n hx hb dX5_drop_5 rfl (lv_at hl 0 rfl) ?_
  refine lv_iconst (v := 0) hx hb dX5_drop_6 (by decide) ?_
  refine va_put (D := (dC, dI)) (ci := 5) (v := .int 0) (ty := .int) (C := RX5) (T := TX5) (N := 5) hx hb hts (fun _ h0_ => List.mem_cons_of_mem _ (List.mem_append_right _ (List.mem_append_left _ h0_))) tyX5 tyX5_ok nmX5 hown hK hP hD hS 0 rfl rfl 2 (by decide) (hts (.fieldLink RX5 32 "DeadlineShare$Script" "at" "I") (List.mem_cons_of_mem _ (List.mem_append_left _ (List.mem_of_getElem? (i := 1) rfl)))) (fun _ h9 => h9) rfl (by decide +kernel) rfl rfl (Nat.le_of_ble_eq_true rfl) dX5_drop_7 (fun H locs hP hD hS => ?_)
  have hP : va_P (dC, dI) vwCl [(h0, .inr (5, [.ref s1, .int 0, .int 0, .int s4, .int s5]))] H := hP
  have hD : va_D A [(h0, .inr (5, [.ref s1, .int 0, .int 0, .int s4, .int s5]))] := hD
  refine lv_aload_n hx hb dX5_drop_10 rfl (lv_at hl 0 rfl) ?_
  refine lv_iconst (v := 0) hx hb dX5_drop_11 (by decide) ?_
  refine va_put (D := (dC, dI)) (ci := 5) (v := .int 0) (ty := .int) (C := RX5) (T := TX5) (N := 5) hx hb hts (fun _ h0_ => List.mem_cons_of_mem _ (List.mem_append_right _ (List.mem_append_left _ h0_))) tyX5 tyX5_ok nmX5 hown hK hP hD hS 0 rfl rfl 3 (by decide) (hts (.fieldLink RX5 35 "DeadlineShare$Script" "toRun" "I") (List.mem_cons_of_mem _ (List.mem_append_left _ (List.mem_of_getElem? (i := 2) rfl)))) (fun _ h9 => h9) rfl (by decide +kernel) rfl rfl (Nat.le_of_ble_eq_true rfl) dX5_drop_12 (fun H locs hP hD hS => ?_)
  have hP : va_P (dC, dI) vwCl [(h0, .inr (5, [.ref s1, .int 0, .int 0, .int 0, .int s5]))] H := hP
  have hD : va_D A [(h0, .inr (5, [.ref s1, .int 0, .int 0, .int 0, .int s5]))] := hD
  refine lv_aload_n hx hb dX5_drop_15 rfl (lv_at hl 0 rfl) ?_
  refine lv_iconst (v := 0) hx hb dX5_drop_16 (by decide) ?_
  refine va_put (D := (dC, dI)) (ci := 5) (v := .int 0) (ty := .int) (C := RX5) (T := TX5) (N := 5) hx hb hts (fun _ h0_ => List.mem_cons_of_mem _ (List.mem_append_right _ (List.mem_append_left _ h0_))) tyX5 tyX5_ok nmX5 hown hK hP hD hS 0 rfl rfl 4 (by decide) (hts (.fieldLink RX5 38 "DeadlineShare$Script" "timesBack" "I") (List.mem_cons_of_mem _ (List.mem_append_left _ (List.mem_of_getElem? (i := 3) rfl)))) (fun _ h9 => h9) rfl (by decide +kernel) rfl rfl (Nat.le_of_ble_eq_true rfl) dX5_drop_17 (fun H locs hP hD hS => ?_)
  have hP : va_P (dC, dI) vwCl [(h0, .inr (5, [.ref s1, .int 0, .int 0, .int 0, .int 0]))] H := hP
  have hD : va_D A [(h0, .inr (5, [.ref s1, .int 0, .int 0, .int 0, .int 0]))] := hD
  have hP9 := hP.sub (ws' := []) [] rfl
  have hD9 := hD.sub (ws' := []) [] (by decide) rfl
  have hK9 := hK.sub (tys' := []) [] rfl
  refine W.widen (k := 0) (n := 0) (Nat.le_of_ble_eq_true rfl) (Nat.le_of_ble_eq_true rfl) ?_
  exact W.vret hx hb hr (fun t ht hW => ⟨⟨(), rfl, trivial, by rw [ht]; exact hP9, va_K.moved hW.alike hK9, hD9⟩, hS.F ht⟩) hS.2.2 dX5_drop_20
def ow_c_X8_startAnew : List Cond := [.fieldLink RX8 12 "DeadlineShare$Task" "script" "LDeadlineShare$Script;", .methodLink RX8 29 yX5_drop, .instanceMethod yX5_drop, .selects RX5 yX5_drop yX5_drop, .initialized RX5, .fieldLink RX8 32 "DeadlineShare$Task" "weight" "I", .fieldLink RX8 35 "DeadlineShare$Task" "slice" "I", .fieldLink RX8 38 "DeadlineShare$Task" "state" "I", .fieldLink RX8 41 "DeadlineShare$Task" "v" "J", .fieldLink RX8 45 "DeadlineShare$Task" "left" "I", .fieldLink RX8 21 "DeadlineShare$Task" "lag" "LDeadlineShare$Wide;", .methodLink RX8 48 yX10_set, .instanceMethod yX10_set, .selects RX10 yX10_set yX10_set, .initialized RX10, .fieldLink RX8 52 "DeadlineShare$Task" "lagWeight" "I", .fieldLink RX8 55 "DeadlineShare$Task" "served" "I", .fieldLink RX8 58 "DeadlineShare$Task" "requests" "I", .fieldLink RX8 61 "DeadlineShare$Task" "late" "I", .fieldLink RX8 64 "DeadlineShare$Task" "wait" "I", .fieldLink RX8 67 "DeadlineShare$Task" "longest" "I", .fieldLink RX8 70 "DeadlineShare$Task" "napTill" "I", .methodLink RX8 73 yX8_takeQuota, .instanceMethod yX8_takeQuota, .selects RX8 yX8_takeQuota yX8_takeQuota, .initialized RX8]
def wq_c_X8_startAnew : List Cond := .code yX8_startAnew cX8_startAnew 3 none :: (ow_c_X8_startAnew ++ (u_ws RX8 TX8 18 ++ (wq_c_X5_drop ++ (wq_c_X10_set0 ++ (wq_c_X8_takeQuota0 ++ ([] : List Cond))))))
theorem tb_c_X8_startAnew : ∀ w ∈ wq_c_X8_startAnew, q_g w := by
  unfold wq_c_X8_startAnew ow_c_X8_startAnew
  exact q_cons tw_263 (q_app (q_cons tw_47 (q_cons tw_262 (q_cons tw_261 (q_cons tw_260 (q_cons tw_36 (q_cons tw_259 (q_cons tw_258 (q_cons tw_257 (q_cons tw_256 (q_cons tw_255 (q_cons tw_42 (q_cons tw_254 (q_cons tw_140 (q_cons tw_139 (q_cons tw_44 (q_cons tw_253 (q_cons tw_252 (q_cons tw_251 (q_cons tw_250 (q_cons tw_249 (q_cons tw_248 (q_cons tw_247 (q_cons tw_246 (q_cons tw_245 (q_cons tw_244 (q_cons tw_53 q_nil)))))))))))))))))))))))))) (q_app tu_X8 (q_app tb_c_X5_drop (q_app tb_c_X10_set0 (q_app tb_c_X8_takeQuota0 q_nil)))))
set_option maxHeartbeats 4000000 in
set_option maxRecDepth 100000 in
theorem c_X8_startAnew (l : Launch) (dC : Nat → ClassId) (dI : Nat → Nat → Nat) (h0 : Nat) (wt : Int32) (sl : Int32) (sc0 : Nat) (lg0 : Nat) (sp0 : Nat) (sz : Nat) : Met l yX8_startAnew wq_c_X8_startAnew ({ frames := 1, cells := 0, slots := 0, locals := 22 } : Room) (va_Pc [.ref h0, .int wt, .int sl] (fun U => U.heap.size = sz ∧ va_P (dC, dI) vwCl [(h0, .inr (8, [.int 0, .ref sc0, .int 0, .int 0, .int 0, .long 0, .int 0, .ref lg0, .int 0, .int 0, .int 0, .int 0, .int 0, .int 0, .int 0, .int 0, .int 0, .int 0])), (sc0, .inr (5, [.ref sp0, .int 0, .int 0, .int 0, .int 0])), (lg0, .inr (10, [.long 0, .long 0]))] U.heap ∧ va_K (dC, dI) vwCl [] U ∧ va_D (fun _ => True) [(h0, .inr (8, [.int 0, .ref sc0, .int 0, .int 0, .int 0, .long 0, .int 0, .ref lg0, .int 0, .int 0, .int 0, .int 0, .int 0, .int 0, .int 0, .int 0, .int 0, .int 0])), (sc0, .inr (5, [.ref sp0, .int 0, .int 0, .int 0, .int 0])), (lg0, .inr (10, [.long 0, .long 0]))])) (va_Qv (fun (_ : Unit) => True) (fun (_ : Unit) t => va_P (dC, dI) vwCl [] t.heap ∧ va_K (dC, dI) vwCl [] t ∧ va_D (va_A [(h0, .inr (8, [.int 0, .ref sc0, .int 0, .int 0, .int 0, .long 0, .int 0, .ref lg0, .int 0, .int 0, .int 0, .int 0, .int 0, .int 0, .int 0, .int 0, .int 0, .int 0])), (sc0, .inr (5, [.ref sp0, .int 0, .int 0, .int 0, .int 0])), (lg0, .inr (10, [.long 0, .long 0]))] sz) []) (va_A [(h0, .inr (8, [.int 0, .ref sc0, .int 0, .int 0, .int 0, .long 0, .int 0, .ref lg0, .int 0, .int 0, .int 0, .int 0, .int 0, .int 0, .int 0, .int 0, .int 0, .int 0])), (sc0, .inr (5, [.ref sp0, .int 0, .int 0, .int 0, .int 0])), (lg0, .inr (10, [.long 0, .long 0]))] sz)) 0 0 (va_A [(h0, .inr (8, [.int 0, .ref sc0, .int 0, .int 0, .int 0, .long 0, .int 0, .ref lg0, .int 0, .int 0, .int 0, .int 0, .int 0, .int 0, .int 0, .int 0, .int 0, .int 0])), (sc0, .inr (5, [.ref sp0, .int 0, .int 0, .int 0, .int 0])), (lg0, .inr (10, [.long 0, .long 0]))] sz) := by
  refine Met.ofW (cc := cX8_startAnew) (maxL := 3) (ret := none) (by decide) rfl ?_
  intro p e s m args below meth c s₁ B hml hv
  obtain ⟨rfl, hsz, hP, hK, hD0⟩ := hv
  have hx := B.exec
  have hb := B.bytes
  have hr := B.returns
  have hts := atoms_spec (ws := wq_c_X8_startAnew) B.pre
  have hown : s.vm.findClass RX8 = some m.cls := findClass_of_methodNamed B.named
  have hlocks := B.notSynchronized
  subst hsz
  have hD := hD0.self (sz := s.heap.size)
  obtain ⟨A, hAe⟩ : ∃ A, A = va_A [(h0, .inr (8, [.int 0, .ref sc0, .int 0, .int 0, .int 0, .long 0, .int 0, .ref lg0, .int 0, .int 0, .int 0, .int 0, .int 0, .int 0, .int 0, .int 0, .int 0, .int 0])), (sc0, .inr (5, [.ref sp0, .int 0, .int 0, .int 0, .int 0])), (lg0, .inr (10, [.long 0, .long 0]))] s.heap.size := ⟨_, rfl⟩
  rw [← hAe] at hD ⊢
  have hA : ∀ q : Nat, s.heap.size ≤ q → A q := fun q h => by rw [hAe]; exact Or.inr h
  have hS : va_S A s.heap s.heap [] := va_S.rf
  have hP : va_P (dC, dI) vwCl [(h0, .inr (8, [.int 0, .ref sc0, .int 0, .int 0, .int 0, .long 0, .int 0, .ref lg0, .int 0, .int 0, .int 0, .int 0, .int 0, .int 0, .int 0, .int 0, .int 0, .int 0])), (sc0, .inr (5, [.ref sp0, .int 0, .int 0, .int 0, .int 0])), (lg0, .inr (10, [.long 0, .long 0]))] s.heap := hP
  have hl := lv_entry ([.ref h0, .int wt, .int sl]) (n := 3) (Nat.le_of_ble_eq_true rfl)
  rw [lg_entry_eq]
  generalize (lg_sl ([.ref h0, .int wt, .int sl]) ++ List.replicate (3 - (lg_sl ([.ref h0, .int wt, .int sl])).length) Slot.unset).toArray = ls at hl ⊢
  have hl : lv_has ls 3 [(0, .ref h0), (1, .int wt), (2, .int sl)] := hl
  refine lv_aload_n hx hb dX8_startAnew_0 rfl (lv_at hl 0 rfl) ?_
  refine va_get (D := (dC, dI)) (ci := 8) (v := .ref sc0) (C := RX8) (T := TX8) (N := 18) hx hb hts (fun _ h0_ => List.mem_cons_of_mem _ (List.mem_append_right _ (List.mem_append_left _ h0_))) hown hK hP 0 rfl rfl 1 (by decide) (hts (.fieldLink RX8 12 "DeadlineShare$Task" "script" "LDeadlineShare$Script;") (List.mem_cons_of_mem _ (List.mem_append_left _ (List.mem_of_getElem? (i := 0) rfl)))) (fun _ h9 => h9) rfl dX8_startAnew_1 ?_
  have hPc := hP.sub (ws' := [(sc0, .inr (5, [.ref sp0, .int 0, .int 0, .int 0, .int 0]))]) [1] rfl
  have hDc := hD.sub (ws' := [(sc0, .inr (5, [.ref sp0, .int 0, .int 0, .int 0, .int 0]))]) [1] (by decide) rfl
  have hKc := hK.sub (tys' := []) [] rfl
  have hFc := va_free (wc := [(sc0, .inr (5, [.ref sp0, .int 0, .int 0, .int 0, .int 0]))]) hD hS hA [1] rfl
  refine va_callv (va_runV (As := []) (rest := []) ⟨hx, hb, hml, hown, hts⟩ (c_X5_drop l dC dI sc0 sp0 0 0 0 0 s.heap.size) (cwV 0 hts (gi_V (fun w_ h0_ => ⟨List.mem_cons_of_mem _ (List.mem_append_right _ (List.mem_append_right _ (List.mem_append_left _ h0_))), (tb_c_X5_drop w_ h0_).2⟩) (List.mem_cons_of_mem _ (List.mem_append_left _ (List.mem_of_getElem? (i := 1) rfl))) (List.mem_cons_of_mem _ (List.mem_append_left _ (List.mem_of_getElem? (i := 2) rfl))) (List.mem_cons_of_mem _ (List.mem_append_left _ (List.mem_of_getElem? (i := 3) rfl))) (List.mem_cons_of_mem _ (List.mem_append_left _ (List.mem_of_getElem? (i := 4) rfl)))) rfl rfl rfl (by decide +kernel) ⟨Nat.le_of_ble_eq_true rfl, Nat.le_of_ble_eq_true rfl⟩) ⟨fun a U g mk q => by obtain ⟨q0, q1, qP, qK, qD⟩ := q; exact ⟨q0, q1, qP, va_K.moved (u := U) (U := U.calling g mk a) (Vm.Alike.refl U.vm) qK, qD⟩, va_recv hKc hPc (ci := 5) (q0 := 0) rfl rfl, fun U hU hW => ⟨rfl, by rw [hU], by rw [hU]; exact hPc, va_K.moved hW.alike hKc, hDc.weaken (fun _ _ _ _ => trivial)⟩⟩ rfl rfl hl.1 rfl (lv_room (Nat.le_of_ble_eq_true rfl)) dX8_startAnew_4 ⟨Nat.le_of_ble_eq_true rfl, Nat.le_of_ble_eq_true rfl⟩) hS (fun q _ h => hFc q h) hFc (fun u t H1 locs ht hvm hw hB hz1 hk1 hS => ?_)
  obtain ⟨hP1, hK1, hD1⟩ := hB
  rw [ht] at hP1
  have hK1 := va_K.moved hvm.symm hK1
  obtain ⟨hP, hD⟩ := va_join (wr := [(h0, .inr (8, [.int 0, .ref sc0, .int 0, .int 0, .int 0, .long 0, .int 0, .ref lg0, .int 0, .int 0, .int 0, .int 0, .int 0, .int 0, .int 0, .int 0, .int 0, .int 0])), (lg0, .inr (10, [.long 0, .long 0]))]) (w1 := []) hP hD [1] [0, 2] rfl rfl (by decide) (by decide) hk1 hFc hP1 hD1
  generalize H1 = H at hP hS ⊢
  have hP : va_P (dC, dI) vwCl [(h0, .inr (8, [.int 0, .ref sc0, .int 0, .int 0, .int 0, .long 0, .int 0, .ref lg0, .int 0, .int 0, .int 0, .int 0, .int 0, .int 0, .int 0, .int 0, .int 0, .int 0])), (lg0, .inr (10, [.long 0, .long 0]))] H := hP
  have hD : va_D A [(h0, .inr (8, [.int 0, .ref sc0, .int 0, .int 0, .int 0, .long 0, .int 0, .ref lg0, .int 0, .int 0, .int 0, .int 0, .int 0, .int 0, .int 0, .int 0, .int 0, .int 0])), (lg0, .inr (10, [.long 0, .long 0]))] := hD
  refine W.widen (k := 0) (n := 0) (Nat.le_of_ble_eq_true rfl) (Nat.le_of_ble_eq_true rfl) ?_
  refine lv_aload_n hx hb dX8_startAnew_7 rfl (lv_at hl 0 rfl) ?_
  refine lv_iload_n hx hb dX8_startAnew_8 rfl (lv_at hl 1 rfl) ?_
  refine va_put (D := (dC, dI)) (ci := 8) (v := .int wt) (ty := .int) (C := RX8) (T := TX8) (N := 18) hx hb hts (fun _ h0_ => List.mem_cons_of_mem _ (List.mem_append_right _ (List.mem_append_left _ h0_))) tyX8 tyX8_ok nmX8 hown hK hP hD hS 0 rfl rfl 2 (by decide) (hts (.fieldLink RX8 32 "DeadlineShare$Task" "weight" "I") (List.mem_cons_of_mem _ (List.mem_append_left _ (List.mem_of_getElem? (i := 5) rfl)))) (fun _ h9 => h9) rfl (by decide +kernel) rfl rfl (Nat.le_of_ble_eq_true rfl) dX8_startAnew_9 (fun H locs hP hD hS => ?_)
  have hP : va_P (dC, dI) vwCl [(h0, .inr (8, [.int 0, .ref sc0, .int wt, .int 0, .int 0, .long 0, .int 0, .ref lg0, .int 0, .int 0, .int 0, .int 0, .int 0, .int 0, .int 0, .int 0, .int 0, .int 0])), (lg0, .inr (10, [.long 0, .long 0]))] H := hP
  have hD : va_D A [(h0, .inr (8, [.int 0, .ref sc0, .int wt, .int 0, .int 0, .long 0, .int 0, .ref lg0, .int 0, .int 0, .int 0, .int 0, .int 0, .int 0, .int 0, .int 0, .int 0, .int 0])), (lg0, .inr (10, [.long 0, .long 0]))] := hD
  refine lv_aload_n hx hb dX8_startAnew_12 rfl (lv_at hl 0 rfl) ?_
  refine lv_iload_n hx hb dX8_startAnew_13 rfl (lv_at hl 2 rfl) ?_
  refine va_put (D := (dC, dI)) (ci := 8) (v := .int sl) (ty := .int) (C := RX8) (T := TX8) (N := 18) hx hb hts (fun _ h0_ => List.mem_cons_of_mem _ (List.mem_append_right _ (List.mem_append_left _ h0_))) tyX8 tyX8_ok nmX8 hown hK hP hD hS 0 rfl rfl 3 (by decide) (hts (.fieldLink RX8 35 "DeadlineShare$Task" "slice" "I") (List.mem_cons_of_mem _ (List.mem_append_left _ (List.mem_of_getElem? (i := 6) rfl)))) (fun _ h9 => h9) rfl (by decide +kernel) rfl rfl (Nat.le_of_ble_eq_true rfl) dX8_startAnew_14 (fun H locs hP hD hS => ?_)
  have hP : va_P (dC, dI) vwCl [(h0, .inr (8, [.int 0, .ref sc0, .int wt, .int sl, .int 0, .long 0, .int 0, .ref lg0, .int 0, .int 0, .int 0, .int 0, .int 0, .int 0, .int 0, .int 0, .int 0, .int 0])), (lg0, .inr (10, [.long 0, .long 0]))] H := hP
  have hD : va_D A [(h0, .inr (8, [.int 0, .ref sc0, .int wt, .int sl, .int 0, .long 0, .int 0, .ref lg0, .int 0, .int 0, .int 0, .int 0, .int 0, .int 0, .int 0, .int 0, .int 0, .int 0])), (lg0, .inr (10, [.long 0, .long 0]))] := hD
  refine lv_aload_n hx hb dX8_startAnew_17 rfl (lv_at hl 0 rfl) ?_
  refine lv_iconst (v := 0) hx hb dX8_startAnew_18 (by decide) ?_
  refine va_put (D := (dC, dI)) (ci := 8) (v := .int 0) (ty := .int) (C := RX8) (T := TX8) (N := 18) hx hb hts (fun _ h0_ => List.mem_cons_of_mem _ (List.mem_append_right _ (List.mem_append_left _ h0_))) tyX8 tyX8_ok nmX8 hown hK hP hD hS 0 rfl rfl 4 (by decide) (hts (.fieldLink RX8 38 "DeadlineShare$Task" "state" "I") (List.mem_cons_of_mem _ (List.mem_append_left _ (List.mem_of_getElem? (i := 7) rfl)))) (fun _ h9 => h9) rfl (by decide +kernel) rfl rfl (Nat.le_of_ble_eq_true rfl) dX8_startAnew_19 (fun H locs hP hD hS => ?_)
  have hP : va_P (dC, dI) vwCl [(h0, .inr (8, [.int 0, .ref sc0, .int wt, .int sl, .int 0, .long 0, .int 0, .ref lg0, .int 0, .int 0, .int 0, .int 0, .int 0, .int 0, .int 0, .int 0, .int 0, .int 0])), (lg0, .inr (10, [.long 0, .long 0]))] H := hP
  have hD : va_D A [(h0, .inr (8, [.int 0, .ref sc0, .int wt, .int sl, .int 0, .long 0, .int 0, .ref lg0, .int 0, .int 0, .int 0, .int 0, .int 0, .int 0, .int 0, .int 0, .int 0, .int 0])), (lg0, .inr (10, [.long 0, .long 0]))] := hD
  refine lv_aload_n hx hb dX8_startAnew_22 rfl (lv_at hl 0 rfl) ?_
  refine lv_lconst (v := 0) hx hb dX8_startAnew_23 (by decide) ?_
  refine va_put (D := (dC, dI)) (ci := 8) (v := .long 0) (ty := .long) (C := RX8) (T := TX8) (N := 18) hx hb hts (fun _ h0_ => List.mem_cons_of_mem _ (List.mem_append_right _ (List.mem_append_left _ h0_))) tyX8 tyX8_ok nmX8 hown hK hP hD hS 0 rfl rfl 5 (by decide) (hts (.fieldLink RX8 41 "DeadlineShare$Task" "v" "J") (List.mem_cons_of_mem _ (List.mem_append_left _ (List.mem_of_getElem? (i := 8) rfl)))) (fun _ h9 => h9) rfl (by decide +kernel) rfl rfl (Nat.le_of_ble_eq_true rfl) dX8_startAnew_24 (fun H locs hP hD hS => ?_)
  have hP : va_P (dC, dI) vwCl [(h0, .inr (8, [.int 0, .ref sc0, .int wt, .int sl, .int 0, .long 0, .int 0, .ref lg0, .int 0, .int 0, .int 0, .int 0, .int 0, .int 0, .int 0, .int 0, .int 0, .int 0])), (lg0, .inr (10, [.long 0, .long 0]))] H := hP
  have hD : va_D A [(h0, .inr (8, [.int 0, .ref sc0, .int wt, .int sl, .int 0, .long 0, .int 0, .ref lg0, .int 0, .int 0, .int 0, .int 0, .int 0, .int 0, .int 0, .int 0, .int 0, .int 0])), (lg0, .inr (10, [.long 0, .long 0]))] := hD
  refine lv_aload_n hx hb dX8_startAnew_27 rfl (lv_at hl 0 rfl) ?_
  refine lv_iconst (v := 0) hx hb dX8_startAnew_28 (by decide) ?_
  refine va_put (D := (dC, dI)) (ci := 8) (v := .int 0) (ty := .int) (C := RX8) (T := TX8) (N := 18) hx hb hts (fun _ h0_ => List.mem_cons_of_mem _ (List.mem_append_right _ (List.mem_append_left _ h0_))) tyX8 tyX8_ok nmX8 hown hK hP hD hS 0 rfl rfl 6 (by decide) (hts (.fieldLink RX8 45 "DeadlineShare$Task" "left" "I") (List.mem_cons_of_mem _ (List.mem_append_left _ (List.mem_of_getElem? (i := 9) rfl)))) (fun _ h9 => h9) rfl (by decide +kernel) rfl rfl (Nat.le_of_ble_eq_true rfl) dX8_startAnew_29 (fun H locs hP hD hS => ?_)
  have hP : va_P (dC, dI) vwCl [(h0, .inr (8, [.int 0, .ref sc0, .int wt, .int sl, .int 0, .long 0, .int 0, .ref lg0, .int 0, .int 0, .int 0, .int 0, .int 0, .int 0, .int 0, .int 0, .int 0, .int 0])), (lg0, .inr (10, [.long 0, .long 0]))] H := hP
  have hD : va_D A [(h0, .inr (8, [.int 0, .ref sc0, .int wt, .int sl, .int 0, .long 0, .int 0, .ref lg0, .int 0, .int 0, .int 0, .int 0, .int 0, .int 0, .int 0, .int 0, .int 0, .int 0])), (lg0, .inr (10, [.long 0, .long 0]))] := hD
  refine lv_aload_n hx hb dX8_startAnew_32 rfl (lv_at hl 0 rfl) ?_
  refine va_get (D := (dC, dI)) (ci := 8) (v := .ref lg0) (C := RX8) (T := TX8) (N := 18) hx hb hts (fun _ h0_ => List.mem_cons_of_mem _ (List.mem_append_right _ (List.mem_append_left _ h0_))) hown hK hP 0 rfl rfl 7 (by decide) (hts (.fieldLink RX8 21 "DeadlineShare$Task" "lag" "LDeadlineShare$Wide;") (List.mem_cons_of_mem _ (List.mem_append_left _ (List.mem_of_getElem? (i := 10) rfl)))) (fun _ h9 => h9) rfl dX8_startAnew_33 ?_
  refine lv_lconst (v := 0) hx hb dX8_startAnew_36 (by decide) ?_
  have hPc := hP.sub (ws' := [(lg0, .inr (10, [.long 0, .long 0]))]) [1] rfl
  have hDc := hD.sub (ws' := [(lg0, .inr (10, [.long 0, .long 0]))]) [1] (by decide) rfl
  have hKc := hK.sub (tys' := []) [] rfl
  have hFc := va_free (wc := [(lg0, .inr (10, [.long 0, .long 0]))]) hD hS hA [1] rfl
  refine va_callv (va_runV (As := [.long 0]) (rest := []) ⟨hx, hb, hml, hown, hts⟩ (c_X10_set0 l dC dI lg0 H.size) (cwV 1 hts (gi_V (fun w_ h0_ => ⟨List.mem_cons_of_mem _ (List.mem_append_right _ (List.mem_append_right _ (List.mem_append_right _ (List.mem_append_left _ h0_)))), (tb_c_X10_set0 w_ h0_).2⟩) (List.mem_cons_of_mem _ (List.mem_append_left _ (List.mem_of_getElem? (i := 11) rfl))) (List.mem_cons_of_mem _ (List.mem_append_left _ (List.mem_of_getElem? (i := 12) rfl))) (List.mem_cons_of_mem _ (List.mem_append_left _ (List.mem_of_getElem? (i := 13) rfl))) (List.mem_cons_of_mem _ (List.mem_append_left _ (List.mem_of_getElem? (i := 14) rfl)))) rfl rfl rfl (by decide +kernel) ⟨Nat.le_of_ble_eq_true rfl, Nat.le_of_ble_eq_true rfl⟩) ⟨fun a U g mk q => by obtain ⟨q0, q1, qP, qK, qD⟩ := q; exact ⟨q0, q1, qP, va_K.moved (u := U) (U := U.calling g mk a) (Vm.Alike.refl U.vm) qK, qD⟩, va_recv hKc hPc (ci := 10) (q0 := 0) rfl rfl, fun U hU hW => ⟨rfl, by rw [hU], by rw [hU]; exact hPc, va_K.moved hW.alike hKc, hDc.weaken (fun _ _ _ _ => trivial)⟩⟩ rfl rfl hl.1 rfl (lv_room (Nat.le_of_ble_eq_true rfl)) dX8_startAnew_37 ⟨Nat.le_of_ble_eq_true rfl, Nat.le_of_ble_eq_true rfl⟩) hS (fun q _ h => hFc q h) hFc (fun u t H1 locs ht hvm hw hB hz1 hk1 hS => ?_)
  obtain ⟨hP1, hK1, hD1⟩ := hB
  rw [ht] at hP1
  have hK1 := va_K.moved hvm.symm hK1
  obtain ⟨hP, hD⟩ := va_join (wr := [(h0, .inr (8, [.int 0, .ref sc0, .int wt, .int sl, .int 0, .long 0, .int 0, .ref lg0, .int 0, .int 0, .int 0, .int 0, .int 0, .int 0, .int 0, .int 0, .int 0, .int 0]))]) (w1 := [(lg0, .inr (10, [.long 0, .long 0]))]) hP hD [1] [0] rfl rfl (by decide) (by decide) hk1 hFc hP1 hD1
  generalize H1 = H at hP hS ⊢
  have hP : va_P (dC, dI) vwCl [(h0, .inr (8, [.int 0, .ref sc0, .int wt, .int sl, .int 0, .long 0, .int 0, .ref lg0, .int 0, .int 0, .int 0, .int 0, .int 0, .int 0, .int 0, .int 0, .int 0, .int 0])), (lg0, .inr (10, [.long 0, .long 0]))] H := hP
  have hD : va_D A [(h0, .inr (8, [.int 0, .ref sc0, .int wt, .int sl, .int 0, .long 0, .int 0, .ref lg0, .int 0, .int 0, .int 0, .int 0, .int 0, .int 0, .int 0, .int 0, .int 0, .int 0])), (lg0, .inr (10, [.long 0, .long 0]))] := hD
  refine W.widen (k := 0) (n := 0) (Nat.le_of_ble_eq_true rfl) (Nat.le_of_ble_eq_true rfl) ?_
  refine lv_aload_n hx hb dX8_startAnew_40 rfl (lv_at hl 0 rfl) ?_
  refine lv_iconst (v := 1) hx hb dX8_startAnew_41 (by decide) ?_
  refine va_put (D := (dC, dI)) (ci := 8) (v := .int 1) (ty := .int) (C := RX8) (T := TX8) (N := 18) hx hb hts (fun _ h0_ => List.mem_cons_of_mem _ (List.mem_append_right _ (List.mem_append_left _ h0_))) tyX8 tyX8_ok nmX8 hown hK hP hD hS 0 rfl rfl 8 (by decide) (hts (.fieldLink RX8 52 "DeadlineShare$Task" "lagWeight" "I") (List.mem_cons_of_mem _ (List.mem_append_left _ (List.mem_of_getElem? (i := 15) rfl)))) (fun _ h9 => h9) rfl (by decide +kernel) rfl rfl (Nat.le_of_ble_eq_true rfl) dX8_startAnew_42 (fun H locs hP hD hS => ?_)
  have hP : va_P (dC, dI) vwCl [(h0, .inr (8, [.int 0, .ref sc0, .int wt, .int sl, .int 0, .long 0, .int 0, .ref lg0, .int 1, .int 0, .int 0, .int 0, .int 0, .int 0, .int 0, .int 0, .int 0, .int 0])), (lg0, .inr (10, [.long 0, .long 0]))] H := hP
  have hD : va_D A [(h0, .inr (8, [.int 0, .ref sc0, .int wt, .int sl, .int 0, .long 0, .int 0, .ref lg0, .int 1, .int 0, .int 0, .int 0, .int 0, .int 0, .int 0, .int 0, .int 0, .int 0])), (lg0, .inr (10, [.long 0, .long 0]))] := hD
  refine lv_aload_n hx hb dX8_startAnew_45 rfl (lv_at hl 0 rfl) ?_
  refine lv_iconst (v := 0) hx hb dX8_startAnew_46 (by decide) ?_
  refine va_put (D := (dC, dI)) (ci := 8) (v := .int 0) (ty := .int) (C := RX8) (T := TX8) (N := 18) hx hb hts (fun _ h0_ => List.mem_cons_of_mem _ (List.mem_append_right _ (List.mem_append_left _ h0_))) tyX8 tyX8_ok nmX8 hown hK hP hD hS 0 rfl rfl 9 (by decide) (hts (.fieldLink RX8 55 "DeadlineShare$Task" "served" "I") (List.mem_cons_of_mem _ (List.mem_append_left _ (List.mem_of_getElem? (i := 16) rfl)))) (fun _ h9 => h9) rfl (by decide +kernel) rfl rfl (Nat.le_of_ble_eq_true rfl) dX8_startAnew_47 (fun H locs hP hD hS => ?_)
  have hP : va_P (dC, dI) vwCl [(h0, .inr (8, [.int 0, .ref sc0, .int wt, .int sl, .int 0, .long 0, .int 0, .ref lg0, .int 1, .int 0, .int 0, .int 0, .int 0, .int 0, .int 0, .int 0, .int 0, .int 0])), (lg0, .inr (10, [.long 0, .long 0]))] H := hP
  have hD : va_D A [(h0, .inr (8, [.int 0, .ref sc0, .int wt, .int sl, .int 0, .long 0, .int 0, .ref lg0, .int 1, .int 0, .int 0, .int 0, .int 0, .int 0, .int 0, .int 0, .int 0, .int 0])), (lg0, .inr (10, [.long 0, .long 0]))] := hD
  refine lv_aload_n hx hb dX8_startAnew_50 rfl (lv_at hl 0 rfl) ?_
  refine lv_iconst (v := 0) hx hb dX8_startAnew_51 (by decide) ?_
  refine va_put (D := (dC, dI)) (ci := 8) (v := .int 0) (ty := .int) (C := RX8) (T := TX8) (N := 18) hx hb hts (fun _ h0_ => List.mem_cons_of_mem _ (List.mem_append_right _ (List.mem_append_left _ h0_))) tyX8 tyX8_ok nmX8 hown hK hP hD hS 0 rfl rfl 10 (by decide) (hts (.fieldLink RX8 58 "DeadlineShare$Task" "requests" "I") (List.mem_cons_of_mem _ (List.mem_append_left _ (List.mem_of_getElem? (i := 17) rfl)))) (fun _ h9 => h9) rfl (by decide +kernel) rfl rfl (Nat.le_of_ble_eq_true rfl) dX8_startAnew_52 (fun H locs hP hD hS => ?_)
  have hP : va_P (dC, dI) vwCl [(h0, .inr (8, [.int 0, .ref sc0, .int wt, .int sl, .int 0, .long 0, .int 0, .ref lg0, .int 1, .int 0, .int 0, .int 0, .int 0, .int 0, .int 0, .int 0, .int 0, .int 0])), (lg0, .inr (10, [.long 0, .long 0]))] H := hP
  have hD : va_D A [(h0, .inr (8, [.int 0, .ref sc0, .int wt, .int sl, .int 0, .long 0, .int 0, .ref lg0, .int 1, .int 0, .int 0, .int 0, .int 0, .int 0, .int 0, .int 0, .int 0, .int 0])), (lg0, .inr (10, [.long 0, .long 0]))] := hD
  refine lv_aload_n hx hb dX8_startAnew_55 rfl (lv_at hl 0 rfl) ?_
  refine lv_iconst (v := 0) hx hb dX8_startAnew_56 (by decide) ?_
  refine va_put (D := (dC, dI)) (ci := 8) (v := .int 0) (ty := .int) (C := RX8) (T := TX8) (N := 18) hx hb hts (fun _ h0_ => List.mem_cons_of_mem _ (List.mem_append_right _ (List.mem_append_left _ h0_))) tyX8 tyX8_ok nmX8 hown hK hP hD hS 0 rfl rfl 11 (by decide) (hts (.fieldLink RX8 61 "DeadlineShare$Task" "late" "I") (List.mem_cons_of_mem _ (List.mem_append_left _ (List.mem_of_getElem? (i := 18) rfl)))) (fun _ h9 => h9) rfl (by decide +kernel) rfl rfl (Nat.le_of_ble_eq_true rfl) dX8_startAnew_57 (fun H locs hP hD hS => ?_)
  have hP : va_P (dC, dI) vwCl [(h0, .inr (8, [.int 0, .ref sc0, .int wt, .int sl, .int 0, .long 0, .int 0, .ref lg0, .int 1, .int 0, .int 0, .int 0, .int 0, .int 0, .int 0, .int 0, .int 0, .int 0])), (lg0, .inr (10, [.long 0, .long 0]))] H := hP
  have hD : va_D A [(h0, .inr (8, [.int 0, .ref sc0, .int wt, .int sl, .int 0, .long 0, .int 0, .ref lg0, .int 1, .int 0, .int 0, .int 0, .int 0, .int 0, .int 0, .int 0, .int 0, .int 0])), (lg0, .inr (10, [.long 0, .long 0]))] := hD
  refine lv_aload_n hx hb dX8_startAnew_60 rfl (lv_at hl 0 rfl) ?_
  refine lv_iconst (v := 0) hx hb dX8_startAnew_61 (by decide) ?_
  refine va_put (D := (dC, dI)) (ci := 8) (v := .int 0) (ty := .int) (C := RX8) (T := TX8) (N := 18) hx hb hts (fun _ h0_ => List.mem_cons_of_mem _ (List.mem_append_right _ (List.mem_append_left _ h0_))) tyX8 tyX8_ok nmX8 hown hK hP hD hS 0 rfl rfl 12 (by decide) (hts (.fieldLink RX8 64 "DeadlineShare$Task" "wait" "I") (List.mem_cons_of_mem _ (List.mem_append_left _ (List.mem_of_getElem? (i := 19) rfl)))) (fun _ h9 => h9) rfl (by decide +kernel) rfl rfl (Nat.le_of_ble_eq_true rfl) dX8_startAnew_62 (fun H locs hP hD hS => ?_)
  have hP : va_P (dC, dI) vwCl [(h0, .inr (8, [.int 0, .ref sc0, .int wt, .int sl, .int 0, .long 0, .int 0, .ref lg0, .int 1, .int 0, .int 0, .int 0, .int 0, .int 0, .int 0, .int 0, .int 0, .int 0])), (lg0, .inr (10, [.long 0, .long 0]))] H := hP
  have hD : va_D A [(h0, .inr (8, [.int 0, .ref sc0, .int wt, .int sl, .int 0, .long 0, .int 0, .ref lg0, .int 1, .int 0, .int 0, .int 0, .int 0, .int 0, .int 0, .int 0, .int 0, .int 0])), (lg0, .inr (10, [.long 0, .long 0]))] := hD
  refine lv_aload_n hx hb dX8_startAnew_65 rfl (lv_at hl 0 rfl) ?_
  refine lv_iconst (v := 0) hx hb dX8_startAnew_66 (by decide) ?_
  refine va_put (D := (dC, dI)) (ci := 8) (v := .int 0) (ty := .int) (C := RX8) (T := TX8) (N := 18) hx hb hts (fun _ h0_ => List.mem_cons_of_mem _ (List.mem_append_right _ (List.mem_append_left _ h0_))) tyX8 tyX8_ok nmX8 hown hK hP hD hS 0 rfl rfl 13 (by decide) (hts (.fieldLink RX8 67 "DeadlineShare$Task" "longest" "I") (List.mem_cons_of_mem _ (List.mem_append_left _ (List.mem_of_getElem? (i := 20) rfl)))) (fun _ h9 => h9) rfl (by decide +kernel) rfl rfl (Nat.le_of_ble_eq_true rfl) dX8_startAnew_67 (fun H locs hP hD hS => ?_)
  have hP : va_P (dC, dI) vwCl [(h0, .inr (8, [.int 0, .ref sc0, .int wt, .int sl, .int 0, .long 0, .int 0, .ref lg0, .int 1, .int 0, .int 0, .int 0, .int 0, .int 0, .int 0, .int 0, .int 0, .int 0])), (lg0, .inr (10, [.long 0, .long 0]))] H := hP
  have hD : va_D A [(h0, .inr (8, [.int 0, .ref sc0, .int wt, .int sl, .int 0, .long 0, .int 0, .ref lg0, .int 1, .int 0, .int 0, .int 0, .int 0, .int 0, .int 0, .int 0, .int 0, .int 0])), (lg0, .inr (10, [.long 0, .long 0]))] := hD
  refine lv_aload_n hx hb dX8_startAnew_70 rfl (lv_at hl 0 rfl) ?_
  refine lv_iconst (v := 0) hx hb dX8_startAnew_71 (by decide) ?_
  refine va_put (D := (dC, dI)) (ci := 8) (v := .int 0) (ty := .int) (C := RX8) (T := TX8) (N := 18) hx hb hts (fun _ h0_ => List.mem_cons_of_mem _ (List.mem_append_right _ (List.mem_append_left _ h0_))) tyX8 tyX8_ok nmX8 hown hK hP hD hS 0 rfl rfl 14 (by decide) (hts (.fieldLink RX8 70 "DeadlineShare$Task" "napTill" "I") (List.mem_cons_of_mem _ (List.mem_append_left _ (List.mem_of_getElem? (i := 21) rfl)))) (fun _ h9 => h9) rfl (by decide +kernel) rfl rfl (Nat.le_of_ble_eq_true rfl) dX8_startAnew_72 (fun H locs hP hD hS => ?_)
  have hP : va_P (dC, dI) vwCl [(h0, .inr (8, [.int 0, .ref sc0, .int wt, .int sl, .int 0, .long 0, .int 0, .ref lg0, .int 1, .int 0, .int 0, .int 0, .int 0, .int 0, .int 0, .int 0, .int 0, .int 0])), (lg0, .inr (10, [.long 0, .long 0]))] H := hP
  have hD : va_D A [(h0, .inr (8, [.int 0, .ref sc0, .int wt, .int sl, .int 0, .long 0, .int 0, .ref lg0, .int 1, .int 0, .int 0, .int 0, .int 0, .int 0, .int 0, .int 0, .int 0, .int 0])), (lg0, .inr (10, [.long 0, .long 0]))] := hD
  refine lv_aload_n hx hb dX8_startAnew_75 rfl (lv_at hl 0 rfl) ?_
  refine lv_iconst (v := 0) hx hb dX8_startAnew_76 (by decide) ?_
  refine lv_iconst (v := 0) hx hb dX8_startAnew_77 (by decide) ?_
  have hPc := hP.sub (ws' := [(h0, .inr (8, [.int 0, .ref sc0, .int wt, .int sl, .int 0, .long 0, .int 0, .ref lg0, .int 1, .int 0, .int 0, .int 0, .int 0, .int 0, .int 0, .int 0, .int 0, .int 0]))]) [0] rfl
  have hDc := hD.sub (ws' := [(h0, .inr (8, [.int 0, .ref sc0, .int wt, .int sl, .int 0, .long 0, .int 0, .ref lg0, .int 1, .int 0, .int 0, .int 0, .int 0, .int 0, .int 0, .int 0, .int 0, .int 0]))]) [0] (by decide) rfl
  have hKc := hK.sub (tys' := []) [] rfl
  have hFc := va_free (wc := [(h0, .inr (8, [.int 0, .ref sc0, .int wt, .int sl, .int 0, .long 0, .int 0, .ref lg0, .int 1, .int 0, .int 0, .int 0, .int 0, .int 0, .int 0, .int 0, .int 0, .int 0]))]) hD hS hA [0] rfl
  refine va_callv (va_runV (As := [.int 0, .int 0]) (rest := []) ⟨hx, hb, hml, hown, hts⟩ (c_X8_takeQuota0 l dC dI h0 0 sc0 wt sl 0 0 0 lg0 1 0 0 0 0 0 0 0 0 0 H.size) (cwV 2 hts (gi_V (fun w_ h0_ => ⟨List.mem_cons_of_mem _ (List.mem_append_right _ (List.mem_append_right _ (List.mem_append_right _ (List.mem_append_right _ (List.mem_append_left _ h0_))))), (tb_c_X8_takeQuota0 w_ h0_).2⟩) (List.mem_cons_of_mem _ (List.mem_append_left _ (List.mem_of_getElem? (i := 22) rfl))) (List.mem_cons_of_mem _ (List.mem_append_left _ (List.mem_of_getElem? (i := 23) rfl))) (List.mem_cons_of_mem _ (List.mem_append_left _ (List.mem_of_getElem? (i := 24) rfl))) (List.mem_cons_of_mem _ (List.mem_append_left _ (List.mem_of_getElem? (i := 25) rfl)))) rfl rfl rfl (by decide +kernel) ⟨Nat.le_of_ble_eq_true rfl, Nat.le_of_ble_eq_true rfl⟩) ⟨fun a U g mk q => by obtain ⟨q0, q1, qP, qK, qD⟩ := q; exact ⟨q0, q1, qP, va_K.moved (u := U) (U := U.calling g mk a) (Vm.Alike.refl U.vm) qK, qD⟩, va_recv hKc hPc (ci := 8) (q0 := 0) rfl rfl, fun U hU hW => ⟨rfl, by rw [hU], by rw [hU]; exact hPc, va_K.moved hW.alike hKc, hDc.weaken (fun _ _ _ _ => trivial)⟩⟩ rfl rfl hl.1 rfl (lv_room (Nat.le_of_ble_eq_true rfl)) dX8_startAnew_78 ⟨Nat.le_of_ble_eq_true rfl, Nat.le_of_ble_eq_true rfl⟩) hS (fun q _ h => hFc q h) hFc (fun u t H1 locs ht hvm hw hB hz1 hk1 hS => ?_)
  obtain ⟨hP1, hK1, hD1⟩ := hB
  rw [ht] at hP1
  have hK1 := va_K.moved hvm.symm hK1
  obtain ⟨hP, hD⟩ := va_join (wr := [(lg0, .inr (10, [.long 0, .long 0]))]) (w1 := []) hP hD [0] [1] rfl rfl (by decide) (by decide) hk1 hFc hP1 hD1
  generalize H1 = H at hP hS ⊢
  have hP : va_P (dC, dI) vwCl [(lg0, .inr (10, [.long 0, .long 0]))] H := hP
  have hD : va_D A [(lg0, .inr (10, [.long 0, .long 0]))] := hD
  refine W.widen (k := 0) (n := 0) (Nat.le_of_ble_eq_true rfl) (Nat.le_of_ble_eq_true rfl) ?_
  have hP9 := hP.sub (ws' := []) [] rfl
  have hD9 := hD.sub (ws' := []) [] (by decide) rfl
  have hK9 := hK.sub (tys' := []) [] rfl
  refine W.widen (k := 0) (n := 0) (Nat.le_of_ble_eq_true rfl) (Nat.le_of_ble_eq_true rfl) ?_
  exact W.vret hx hb hr (fun t ht hW => ⟨⟨(), rfl, trivial, by rw [ht]; exact hP9, va_K.moved hW.alike hK9, hD9⟩, hS.F ht⟩) hS.2.2 dX8_startAnew_81
def ow_c_X6_addTask : List Cond := [.fieldLink RX6 48 "DeadlineShare$State" "count" "I", .fieldLink RX6 11 "DeadlineShare$State" "tasks" "[LDeadlineShare$Task;", .methodLink RX6 65 yX8_startAnew, .instanceMethod yX8_startAnew, .selects RX8 yX8_startAnew yX8_startAnew, .initialized RX8]
def wq_c_X6_addTask : List Cond := .code yX6_addTask cX6_addTask 3 (some .int) :: (ow_c_X6_addTask ++ (u_ws RX6 TX6 10 ++ (wq_c_X8_startAnew ++ ([] : List Cond))))
theorem tb_c_X6_addTask : ∀ w ∈ wq_c_X6_addTask, q_g w := by
  unfold wq_c_X6_addTask ow_c_X6_addTask
  exact q_cons tw_267 (q_app (q_cons tw_135 (q_cons tw_66 (q_cons tw_266 (q_cons tw_265 (q_cons tw_264 (q_cons tw_53 q_nil)))))) (q_app tu_X6 (q_app tb_c_X8_startAnew q_nil)))
set_option maxHeartbeats 4000000 in
set_option maxRecDepth 100000 in
theorem c_X6_addTask (l : Launch) (dC : Nat → ClassId) (dI : Nat → Nat → Nat) (h0 : Nat) (wt : Int32) (sl : Int32) (te : Nat) (nt : Nat) (nl : Nat) (ns : Nat) (np : Nat) (ct : ClassId) (fn : Nat → Option Nat) (t0 : Nat) (sc0 : Nat) (lg0 : Nat) (sp0 : Nat) (sz : Nat) (hfn : fn 0 = some t0) : Met l yX6_addTask wq_c_X6_addTask ({ frames := 2, cells := 0, slots := 0, locals := 44 } : Room) (va_Pc [.ref h0, .int wt, .int sl] (fun U => U.heap.size = sz ∧ va_P (dC, dI) vwCl [(h0, .inr (6, [.ref te, .ref nt, .ref nl, .ref ns, .ref np, .int 0, .int 0, .long 0, .int (-1), .int (-1)])), (nt, .inl (ct, 12, .inr (.inr (.inr (.inr fn))))), (t0, .inr (8, [.int 0, .ref sc0, .int 0, .int 0, .int 0, .long 0, .int 0, .ref lg0, .int 0, .int 0, .int 0, .int 0, .int 0, .int 0, .int 0, .int 0, .int 0, .int 0])), (sc0, .inr (5, [.ref sp0, .int 0, .int 0, .int 0, .int 0])), (lg0, .inr (10, [.long 0, .long 0]))] U.heap ∧ va_K (dC, dI) vwCl [(ct, .object "DeadlineShare$Task")] U ∧ va_D (fun _ => True) [(h0, .inr (6, [.ref te, .ref nt, .ref nl, .ref ns, .ref np, .int 0, .int 0, .long 0, .int (-1), .int (-1)])), (nt, .inl (ct, 12, .inr (.inr (.inr (.inr fn))))), (t0, .inr (8, [.int 0, .ref sc0, .int 0, .int 0, .int 0, .long 0, .int 0, .ref lg0, .int 0, .int 0, .int 0, .int 0, .int 0, .int 0, .int 0, .int 0, .int 0, .int 0])), (sc0, .inr (5, [.ref sp0, .int 0, .int 0, .int 0, .int 0])), (lg0, .inr (10, [.long 0, .long 0]))])) (va_Qi (fun (r : Int32) (_ : Unit) => r = 0) (fun (_ : Unit) t => va_P (dC, dI) vwCl [] t.heap ∧ va_K (dC, dI) vwCl [] t ∧ va_D (va_A [(h0, .inr (6, [.ref te, .ref nt, .ref nl, .ref ns, .ref np, .int 0, .int 0, .long 0, .int (-1), .int (-1)])), (nt, .inl (ct, 12, .inr (.inr (.inr (.inr fn))))), (t0, .inr (8, [.int 0, .ref sc0, .int 0, .int 0, .int 0, .long 0, .int 0, .ref lg0, .int 0, .int 0, .int 0, .int 0, .int 0, .int 0, .int 0, .int 0, .int 0, .int 0])), (sc0, .inr (5, [.ref sp0, .int 0, .int 0, .int 0, .int 0])), (lg0, .inr (10, [.long 0, .long 0]))] sz) []) (va_A [(h0, .inr (6, [.ref te, .ref nt, .ref nl, .ref ns, .ref np, .int 0, .int 0, .long 0, .int (-1), .int (-1)])), (nt, .inl (ct, 12, .inr (.inr (.inr (.inr fn))))), (t0, .inr (8, [.int 0, .ref sc0, .int 0, .int 0, .int 0, .long 0, .int 0, .ref lg0, .int 0, .int 0, .int 0, .int 0, .int 0, .int 0, .int 0, .int 0, .int 0, .int 0])), (sc0, .inr (5, [.ref sp0, .int 0, .int 0, .int 0, .int 0])), (lg0, .inr (10, [.long 0, .long 0]))] sz)) 0 0 (va_A [(h0, .inr (6, [.ref te, .ref nt, .ref nl, .ref ns, .ref np, .int 0, .int 0, .long 0, .int (-1), .int (-1)])), (nt, .inl (ct, 12, .inr (.inr (.inr (.inr fn))))), (t0, .inr (8, [.int 0, .ref sc0, .int 0, .int 0, .int 0, .long 0, .int 0, .ref lg0, .int 0, .int 0, .int 0, .int 0, .int 0, .int 0, .int 0, .int 0, .int 0, .int 0])), (sc0, .inr (5, [.ref sp0, .int 0, .int 0, .int 0, .int 0])), (lg0, .inr (10, [.long 0, .long 0]))] sz) := by
  refine Met.ofW (cc := cX6_addTask) (maxL := 3) (ret := (some .int)) (by decide) rfl ?_
  intro p e s m args below meth c s₁ B hml hv
  obtain ⟨rfl, hsz, hP, hK, hD0⟩ := hv
  have hx := B.exec
  have hb := B.bytes
  have hr := B.returns
  have hts := atoms_spec (ws := wq_c_X6_addTask) B.pre
  have hown : s.vm.findClass RX6 = some m.cls := findClass_of_methodNamed B.named
  have hlocks := B.notSynchronized
  subst hsz
  have hD := hD0.self (sz := s.heap.size)
  obtain ⟨A, hAe⟩ : ∃ A, A = va_A [(h0, .inr (6, [.ref te, .ref nt, .ref nl, .ref ns, .ref np, .int 0, .int 0, .long 0, .int (-1), .int (-1)])), (nt, .inl (ct, 12, .inr (.inr (.inr (.inr fn))))), (t0, .inr (8, [.int 0, .ref sc0, .int 0, .int 0, .int 0, .long 0, .int 0, .ref lg0, .int 0, .int 0, .int 0, .int 0, .int 0, .int 0, .int 0, .int 0, .int 0, .int 0])), (sc0, .inr (5, [.ref sp0, .int 0, .int 0, .int 0, .int 0])), (lg0, .inr (10, [.long 0, .long 0]))] s.heap.size := ⟨_, rfl⟩
  rw [← hAe] at hD ⊢
  have hA : ∀ q : Nat, s.heap.size ≤ q → A q := fun q h => by rw [hAe]; exact Or.inr h
  have hS : va_S A s.heap s.heap [] := va_S.rf
  have hP : va_P (dC, dI) vwCl [(h0, .inr (6, [.ref te, .ref nt, .ref nl, .ref ns, .ref np, .int 0, .int 0, .long 0, .int (-1), .int (-1)])), (nt, .inl (ct, 12, .inr (.inr (.inr (.inr fn))))), (t0, .inr (8, [.int 0, .ref sc0, .int 0, .int 0, .int 0, .long 0, .int 0, .ref lg0, .int 0, .int 0, .int 0, .int 0, .int 0, .int 0, .int 0, .int 0, .int 0, .int 0])), (sc0, .inr (5, [.ref sp0, .int 0, .int 0, .int 0, .int 0])), (lg0, .inr (10, [.long 0, .long 0]))] s.heap := hP
  have hl := lv_entry ([.ref h0, .int wt, .int sl]) (n := 3) (Nat.le_of_ble_eq_true rfl)
  rw [lg_entry_eq]
  generalize (lg_sl ([.ref h0, .int wt, .int sl]) ++ List.replicate (3 - (lg_sl ([.ref h0, .int wt, .int sl])).length) Slot.unset).toArray = ls at hl ⊢
  have hl : lv_has ls 3 [(0, .ref h0), (1, .int wt), (2, .int sl)] := hl
  refine lv_aload_n hx hb dX6_addTask_0 rfl (lv_at hl 0 rfl) ?_
  refine va_get (D := (dC, dI)) (ci := 6) (v := .int 0) (C := RX6) (T := TX6) (N := 10) hx hb hts (fun _ h0_ => List.mem_cons_of_mem _ (List.mem_append_right _ (List.mem_append_left _ h0_))) hown hK hP 0 rfl rfl 5 (by decide) (hts (.fieldLink RX6 48 "DeadlineShare$State" "count" "I") (List.mem_cons_of_mem _ (List.mem_append_left _ (List.mem_of_getElem? (i := 0) rfl)))) (fun _ h9 => h9) rfl dX6_addTask_1 ?_
  refine lv_bipush (v := 12) hx hb dX6_addTask_4 (by decide) ?_
  refine lv_icmp_lt (tgt := 11) hx hb dX6_addTask_6 (by decide) (fun _ => ?_) (fun c => absurd (by decide) c)
  refine lv_aload_n hx hb dX6_addTask_11 rfl (lv_at hl 0 rfl) ?_
  refine va_get (D := (dC, dI)) (ci := 6) (v := .ref nt) (C := RX6) (T := TX6) (N := 10) hx hb hts (fun _ h0_ => List.mem_cons_of_mem _ (List.mem_append_right _ (List.mem_append_left _ h0_))) hown hK hP 0 rfl rfl 1 (by decide) (hts (.fieldLink RX6 11 "DeadlineShare$State" "tasks" "[LDeadlineShare$Task;") (List.mem_cons_of_mem _ (List.mem_append_left _ (List.mem_of_getElem? (i := 1) rfl)))) (fun _ h9 => h9) rfl dX6_addTask_12 ?_
  refine lv_aload_n hx hb dX6_addTask_15 rfl (lv_at hl 0 rfl) ?_
  refine va_get (D := (dC, dI)) (ci := 6) (v := .int 0) (C := RX6) (T := TX6) (N := 10) hx hb hts (fun _ h0_ => List.mem_cons_of_mem _ (List.mem_append_right _ (List.mem_append_left _ h0_))) hown hK hP 0 rfl rfl 5 (by decide) (hts (.fieldLink RX6 48 "DeadlineShare$State" "count" "I") (List.mem_cons_of_mem _ (List.mem_append_left _ (List.mem_of_getElem? (i := 0) rfl)))) (fun _ h9 => h9) rfl dX6_addTask_16 ?_
  refine va_aldq hx hb hK hP 1 0 rfl rfl (by unfold vp_in; decide) dX6_addTask_19 ?_
  rw [show va_rf (fn (Int32.toNatClampNeg 0)) = .ref t0 from congrArg va_rf ((congrArg fn (show Int32.toNatClampNeg 0 = 0 by decide)).trans hfn)]
  refine lv_iload_n hx hb dX6_addTask_20 rfl (lv_at hl 1 rfl) ?_
  refine lv_iload_n hx hb dX6_addTask_21 rfl (lv_at hl 2 rfl) ?_
  have hPc := hP.sub (ws' := [(t0, .inr (8, [.int 0, .ref sc0, .int 0, .int 0, .int 0, .long 0, .int 0, .ref lg0, .int 0, .int 0, .int 0, .int 0, .int 0, .int 0, .int 0, .int 0, .int 0, .int 0])), (sc0, .inr (5, [.ref sp0, .int 0, .int 0, .int 0, .int 0])), (lg0, .inr (10, [.long 0, .long 0]))]) [2, 3, 4] rfl
  have hDc := hD.sub (ws' := [(t0, .inr (8, [.int 0, .ref sc0, .int 0, .int 0, .int 0, .long 0, .int 0, .ref lg0, .int 0, .int 0, .int 0, .int 0, .int 0, .int 0, .int 0, .int 0, .int 0, .int 0])), (sc0, .inr (5, [.ref sp0, .int 0, .int 0, .int 0, .int 0])), (lg0, .inr (10, [.long 0, .long 0]))]) [2, 3, 4] (by decide) rfl
  have hKc := hK.sub (tys' := []) [] rfl
  have hFc := va_free (wc := [(t0, .inr (8, [.int 0, .ref sc0, .int 0, .int 0, .int 0, .long 0, .int 0, .ref lg0, .int 0, .int 0, .int 0, .int 0, .int 0, .int 0, .int 0, .int 0, .int 0, .int 0])), (sc0, .inr (5, [.ref sp0, .int 0, .int 0, .int 0, .int 0])), (lg0, .inr (10, [.long 0, .long 0]))]) hD hS hA [2, 3, 4] rfl
  refine va_callv (va_runV (As := [.int wt, .int sl]) (rest := []) ⟨hx, hb, hml, hown, hts⟩ (c_X8_startAnew l dC dI t0 wt sl sc0 lg0 sp0 s.heap.size) (cwV 2 hts (gi_V (fun w_ h0_ => ⟨List.mem_cons_of_mem _ (List.mem_append_right _ (List.mem_append_right _ (List.mem_append_left _ h0_))), (tb_c_X8_startAnew w_ h0_).2⟩) (List.mem_cons_of_mem _ (List.mem_append_left _ (List.mem_of_getElem? (i := 2) rfl))) (List.mem_cons_of_mem _ (List.mem_append_left _ (List.mem_of_getElem? (i := 3) rfl))) (List.mem_cons_of_mem _ (List.mem_append_left _ (List.mem_of_getElem? (i := 4) rfl))) (List.mem_cons_of_mem _ (List.mem_append_left _ (List.mem_of_getElem? (i := 5) rfl)))) rfl rfl rfl (by decide +kernel) ⟨Nat.le_of_ble_eq_true rfl, Nat.le_of_ble_eq_true rfl⟩) ⟨fun a U g mk q => by obtain ⟨q0, q1, qP, qK, qD⟩ := q; exact ⟨q0, q1, qP, va_K.moved (u := U) (U := U.calling g mk a) (Vm.Alike.refl U.vm) qK, qD⟩, va_recv hKc hPc (ci := 8) (q0 := 0) rfl rfl, fun U hU hW => ⟨rfl, by rw [hU], by rw [hU]; exact hPc, va_K.moved hW.alike hKc, hDc.weaken (fun _ _ _ _ => trivial)⟩⟩ rfl rfl hl.1 rfl (lv_room (Nat.le_of_ble_eq_true rfl)) dX6_addTask_22 ⟨Nat.le_of_ble_eq_true rfl, Nat.le_of_ble_eq_true rfl⟩) hS (fun q _ h => hFc q h) hFc (fun u t H1 locs ht hvm hw hB hz1 hk1 hS => ?_)
  obtain ⟨hP1, hK1, hD1⟩ := hB
  rw [ht] at hP1
  have hK1 := va_K.moved hvm.symm hK1
  obtain ⟨hP, hD⟩ := va_join (wr := [(h0, .inr (6, [.ref te, .ref nt, .ref nl, .ref ns, .ref np, .int 0, .int 0, .long 0, .int (-1), .int (-1)])), (nt, .inl (ct, 12, .inr (.inr (.inr (.inr fn)))))]) (w1 := []) hP hD [2, 3, 4] [0, 1] rfl rfl (by decide) (by decide) hk1 hFc hP1 hD1
  generalize H1 = H at hP hS ⊢
  have hP : va_P (dC, dI) vwCl [(h0, .inr (6, [.ref te, .ref nt, .ref nl, .ref ns, .ref np, .int 0, .int 0, .long 0, .int (-1), .int (-1)])), (nt, .inl (ct, 12, .inr (.inr (.inr (.inr fn)))))] H := hP
  have hD : va_D A [(h0, .inr (6, [.ref te, .ref nt, .ref nl, .ref ns, .ref np, .int 0, .int 0, .long 0, .int (-1), .int (-1)])), (nt, .inl (ct, 12, .inr (.inr (.inr (.inr fn)))))] := hD
  refine W.widen (k := 0) (n := 0) (Nat.le_of_ble_eq_true rfl) (Nat.le_of_ble_eq_true rfl) ?_
  refine lv_aload_n hx hb dX6_addTask_25 rfl (lv_at hl 0 rfl) ?_
  refine lv_dup hx hb dX6_addTask_26 rfl ?_
  refine va_get (D := (dC, dI)) (ci := 6) (v := .int 0) (C := RX6) (T := TX6) (N := 10) hx hb hts (fun _ h0_ => List.mem_cons_of_mem _ (List.mem_append_right _ (List.mem_append_left _ h0_))) hown hK hP 0 rfl rfl 5 (by decide) (hts (.fieldLink RX6 48 "DeadlineShare$State" "count" "I") (List.mem_cons_of_mem _ (List.mem_append_left _ (List.mem_of_getElem? (i := 0) rfl)))) (fun _ h9 => h9) rfl dX6_addTask_27 ?_
  refine lv_iconst (v := 1) hx hb dX6_addTask_30 (by decide) ?_
  refine lv_iadd hx hb dX6_addTask_31 ?_
  refine k_topi (y := 1) (by decide) ?_
  refine va_put (D := (dC, dI)) (ci := 6) (v := .int 1) (ty := .int) (C := RX6) (T := TX6) (N := 10) hx hb hts (fun _ h0_ => List.mem_cons_of_mem _ (List.mem_append_right _ (List.mem_append_left _ h0_))) tyX6 tyX6_ok nmX6 hown hK hP hD hS 0 rfl rfl 5 (by decide) (hts (.fieldLink RX6 48 "DeadlineShare$State" "count" "I") (List.mem_cons_of_mem _ (List.mem_append_left _ (List.mem_of_getElem? (i := 0) rfl)))) (fun _ h9 => h9) rfl (by decide +kernel) rfl rfl (Nat.le_of_ble_eq_true rfl) dX6_addTask_32 (fun H locs hP hD hS => ?_)
  have hP : va_P (dC, dI) vwCl [(h0, .inr (6, [.ref te, .ref nt, .ref nl, .ref ns, .ref np, .int 1, .int 0, .long 0, .int (-1), .int (-1)])), (nt, .inl (ct, 12, .inr (.inr (.inr (.inr fn)))))] H := hP
  have hD : va_D A [(h0, .inr (6, [.ref te, .ref nt, .ref nl, .ref ns, .ref np, .int 1, .int 0, .long 0, .int (-1), .int (-1)])), (nt, .inl (ct, 12, .inr (.inr (.inr (.inr fn)))))] := hD
  refine lv_aload_n hx hb dX6_addTask_35 rfl (lv_at hl 0 rfl) ?_
  refine va_get (D := (dC, dI)) (ci := 6) (v := .int 1) (C := RX6) (T := TX6) (N := 10) hx hb hts (fun _ h0_ => List.mem_cons_of_mem _ (List.mem_append_right _ (List.mem_append_left _ h0_))) hown hK hP 0 rfl rfl 5 (by decide) (hts (.fieldLink RX6 48 "DeadlineShare$State" "count" "I") (List.mem_cons_of_mem _ (List.mem_append_left _ (List.mem_of_getElem? (i := 0) rfl)))) (fun _ h9 => h9) rfl dX6_addTask_36 ?_
  refine lv_iconst (v := 1) hx hb dX6_addTask_39 (by decide) ?_
  refine lv_isub hx hb dX6_addTask_40 ?_
  refine k_topi (y := 0) (by decide) ?_
  have hP9 := hP.sub (ws' := []) [] rfl
  have hD9 := hD.sub (ws' := []) [] (by decide) rfl
  have hK9 := hK.sub (tys' := []) [] rfl
  refine W.widen (k := 0) (n := 0) (Nat.le_of_ble_eq_true rfl) (Nat.le_of_ble_eq_true rfl) ?_
  exact W.iret (v := 0) hx hb hr (fun t ht hW => ⟨⟨0, (), rfl, rfl, by rw [ht]; exact hP9, va_K.moved hW.alike hK9, hD9⟩, hS.F ht⟩) hS.2.2 dX6_addTask_41
