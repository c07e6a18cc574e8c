theorem tu_X9 : ∀ w ∈ u_ws RX9 TX9 3, q_g w := by
  intro w h
  unfold u_ws at h
  obtain ⟨j, hj, rfl⟩ := List.mem_map.mp h
  have hj := List.mem_range.mp hj
  match j, hj with
  | 0, _ => exact ⟨(List.mem_append_right _ (List.mem_of_getElem? (i := 43) (by decide +kernel))), good_of_word (by decide +kernel)⟩
  | 1, _ => exact ⟨(List.mem_append_right _ (List.mem_of_getElem? (i := 45) (by decide +kernel))), good_of_word (by decide +kernel)⟩
  | 2, _ => exact ⟨(List.mem_append_right _ (List.mem_of_getElem? (i := 47) (by decide +kernel))), good_of_word (by decide +kernel)⟩
  | (j9 + 3), h9 => exact absurd h9 (by omega)
theorem tu_X0 : ∀ w ∈ u_ws RX0 TX0 3, q_g w := by
  intro w h
  unfold u_ws at h
  obtain ⟨j, hj, rfl⟩ := List.mem_map.mp h
  have hj := List.mem_range.mp hj
  match j, hj with
  | 0, _ => exact ⟨(List.mem_append_right _ (List.mem_of_getElem? (i := 275) (by decide +kernel))), good_of_word (by decide +kernel)⟩
  | 1, _ => exact ⟨(List.mem_append_right _ (List.mem_of_getElem? (i := 277) (by decide +kernel))), good_of_word (by decide +kernel)⟩
  | 2, _ => exact ⟨(List.mem_append_right _ (List.mem_of_getElem? (i := 279) (by decide +kernel))), good_of_word (by decide +kernel)⟩
  | (j9 + 3), h9 => exact absurd h9 (by omega)
theorem tw_0 : q_g (.fieldLink RX0 24 "DeadlineShare$Chooser" "drawn" "J") := ⟨(List.mem_append_right _ (List.mem_of_getElem? (i := 274) (by decide +kernel))), good_of_word (by decide +kernel)⟩
theorem tw_1 : q_g (.fieldLink RX0 19 "DeadlineShare$Terms" "seed" "I") := ⟨(List.mem_append_right _ (List.mem_of_getElem? (i := 41) (by decide +kernel))), good_of_word (by decide +kernel)⟩
theorem tw_2 : q_g (.fieldLink RX0 9 "DeadlineShare$Chooser" "terms" "LDeadlineShare$Terms;") := ⟨(List.mem_append_right _ (List.mem_of_getElem? (i := 272) (by decide +kernel))), good_of_word (by decide +kernel)⟩
theorem tw_3 : q_g (.fieldLink RX0 15 "DeadlineShare$Chooser" "way" "I") := ⟨(List.mem_append_right _ (List.mem_of_getElem? (i := 273) (by decide +kernel))), good_of_word (by decide +kernel)⟩
theorem tw_4 : q_g (.code yX0_start cX0_start 2 none) := ⟨(List.mem_append_right _ (List.mem_of_getElem? (i := 1054) (by decide +kernel))), good_of_word (by decide +kernel)⟩
def ow_c_X0_start : List Cond := [.fieldLink RX0 15 "DeadlineShare$Chooser" "way" "I", .fieldLink RX0 9 "DeadlineShare$Chooser" "terms" "LDeadlineShare$Terms;", .fieldLink RX0 19 "DeadlineShare$Terms" "seed" "I", .fieldLink RX0 24 "DeadlineShare$Chooser" "drawn" "J"]
def wq_c_X0_start : List Cond := .code yX0_start cX0_start 2 none :: (ow_c_X0_start ++ (u_ws RX0 TX0 3 ++ (u_ws RX9 TX9 3 ++ ([] : List Cond))))
theorem tb_c_X0_start : ∀ w ∈ wq_c_X0_start, q_g w := by
  unfold wq_c_X0_start ow_c_X0_start
  exact q_cons tw_4 (q_app (q_cons tw_3 (q_cons tw_2 (q_cons tw_1 (q_cons tw_0 q_nil)))) (q_app tu_X0 (q_app tu_X9 q_nil)))
set_option maxHeartbeats 4000000 in
set_option maxRecDepth 100000 in
theorem c_X0_start (l : Launch) (dC : Nat → ClassId) (dI : Nat → Nat → Nat) (g : kG) (A : Nat → Prop) (hG : kWf g) (f : Nat → va_E) (h0 : Nat) (p1 : Int32) (i_h0 : ik g 0 h0) : Met l yX0_start wq_c_X0_start ({ frames := 0, cells := 0, slots := 0, locals := 0 } : Room) (va_Pc [.ref h0, .int p1] (fun U => kIn dC dI g A f U)) (va_Qv (fun (_ : Unit) => True) (fun (_ : Unit) t => ∃ f1 : Nat → va_E, Iv dC dI g A f1 t.heap ∧ Kp g [0] f f1) A) 0 0 A := by
  refine Met.ofW (cc := cX0_start) (maxL := 2) (ret := none) (by decide) rfl ?_
  intro p e s m args below meth c s₁ B hml hv
  obtain ⟨rfl, hI, hK, hE⟩ := hv
  have hx := B.exec
  have hb := B.bytes
  have hr := B.returns
  have hts := atoms_spec (ws := wq_c_X0_start) B.pre
  have hown : s.vm.findClass RX0 = some m.cls := findClass_of_methodNamed B.named
  have hlocks := B.notSynchronized
  have hS : va_S A s.heap s.heap [] := va_S.rf
  have hk0 : Kp g [0] f f := Kp.rf
  have hl := lv_entry ([.ref h0, .int p1]) (n := 2) (Nat.le_of_ble_eq_true rfl)
  rw [lg_entry_eq]
  generalize (lg_sl ([.ref h0, .int p1]) ++ List.replicate (2 - (lg_sl ([.ref h0, .int p1])).length) Slot.unset).toArray = ls at hl ⊢
  have hl : lv_has ls 2 [(0, .ref h0), (1, .int p1)] := hl
  refine lv_aload_n hx hb dX0_start_0 rfl (lv_at hl 0 rfl) ?_
  refine lv_iload_n hx hb dX0_start_1 rfl (lv_at hl 1 rfl) ?_
  obtain ⟨x_2, x_3, k_1⟩ := op_0 hI i_h0
  refine k_put (ci := 0) (v := .int p1) (ty := .int) (C := RX0) (T := TX0) (N := 3) hx hb hts (fun _ h0_ => List.mem_cons_of_mem _ (List.mem_append_right _ (List.mem_append_left _ h0_))) tyX0 tyX0_ok nmX0 hown hK hI hS i_h0.1 k_1 rfl 1 (by decide) (hts (.fieldLink RX0 15 "DeadlineShare$Chooser" "way" "I") (List.mem_cons_of_mem _ (List.mem_append_left _ (List.mem_of_getElem? (i := 0) rfl)))) (fun _ h9 => h9) rfl (by decide +kernel) rfl rfl (Nat.le_of_ble_eq_true rfl) rfl (cl_0 i_h0) dX0_start_2 (fun f_4 H locs e_5 hI hS => ?_)
  have k_7 : f_4 h0 = .inr (0, [.ref (gr g h0 0), .int p1, .long x_3]) := by rw [e_5]; exact va_up_self _ _ _
  have kp_6 := Kp.put hk0 i_h0 (by decide) e_5
  refine lv_aload_n hx hb dX0_start_5 rfl (lv_at hl 0 rfl) ?_
  refine lv_aload_n hx hb dX0_start_6 rfl (lv_at hl 0 rfl) ?_
  refine k_get (ci := 0) (v := .ref (gr g h0 0)) (C := RX0) (T := TX0) (N := 3) hx hb hts (fun _ h0_ => List.mem_cons_of_mem _ (List.mem_append_right _ (List.mem_append_left _ h0_))) hown hK hI i_h0.1 k_7 rfl 0 (by decide) (hts (.fieldLink RX0 9 "DeadlineShare$Chooser" "terms" "LDeadlineShare$Terms;") (List.mem_cons_of_mem _ (List.mem_append_left _ (List.mem_of_getElem? (i := 1) rfl)))) (fun _ h9 => h9) rfl dX0_start_7 ?_
  have i_9 := kw_0_0 hG i_h0
  obtain ⟨x_11, x_12, x_13, k_10⟩ := op_9 hI i_9
  refine k_get (ci := 9) (v := .int x_13) (C := RX9) (T := TX9) (N := 3) hx hb hts (fun _ h0_ => List.mem_cons_of_mem _ (List.mem_append_right _ (List.mem_append_right _ (List.mem_append_left _ h0_)))) hown hK hI i_9.1 k_10 rfl 2 (by decide) (hts (.fieldLink RX0 19 "DeadlineShare$Terms" "seed" "I") (List.mem_cons_of_mem _ (List.mem_append_left _ (List.mem_of_getElem? (i := 2) rfl)))) (fun _ h9 => h9) rfl dX0_start_10 ?_
  refine lv_i2l (v := x_13.toInt64) hx hb dX0_start_13 rfl ?_
  have t_14 := Int32.toInt_toInt64 x_13
  refine k_put (ci := 0) (v := .long x_13.toInt64) (ty := .long) (C := RX0) (T := TX0) (N := 3) hx hb hts (fun _ h0_ => List.mem_cons_of_mem _ (List.mem_append_right _ (List.mem_append_left _ h0_))) tyX0 tyX0_ok nmX0 hown hK hI hS i_h0.1 k_7 rfl 2 (by decide) (hts (.fieldLink RX0 24 "DeadlineShare$Chooser" "drawn" "J") (List.mem_cons_of_mem _ (List.mem_append_left _ (List.mem_of_getElem? (i := 3) rfl)))) (fun _ h9 => h9) rfl (by decide +kernel) rfl rfl (Nat.le_of_ble_eq_true rfl) rfl (cl_0 i_h0) dX0_start_14 (fun f_15 H locs e_16 hI hS => ?_)
  have k_18 : f_15 h0 = .inr (0, [.ref (gr g h0 0), .int p1, .long x_13.toInt64]) := by rw [e_16]; exact va_up_self _ _ _
  have k_19 : f_15 (gr g h0 0) = .inr (9, [.int x_11, .int x_12, .int x_13]) := by rw [e_16, va_up_ne _ _ (ik_ne i_9 i_h0 (by decide))]; exact k_10
  have kp_17 := Kp.put kp_6 i_h0 (by decide) e_16
  exact W.vret hx hb hr (fun t ht hW => ⟨⟨(), rfl, trivial, ⟨f_15, k_ret ht hI, kp_17⟩⟩, hS.F ht⟩) hS.2.2 dX0_start_17
theorem tu_X8 : ∀ w ∈ u_ws RX8 TX8 18, q_g w := by
  intro w h
  unfold u_ws at h
  obtain ⟨j, hj, rfl⟩ := List.mem_map.mp h
  have hj := List.mem_range.mp hj
  match j, hj with
  | 0, _ => exact ⟨(List.mem_append_right _ (List.mem_of_getElem? (i := 192) (by decide +kernel))), good_of_word (by decide +kernel)⟩
  | 1, _ => exact ⟨(List.mem_append_right _ (List.mem_of_getElem? (i := 194) (by decide +kernel))), good_of_word (by decide +kernel)⟩
  | 2, _ => exact ⟨(List.mem_append_right _ (List.mem_of_getElem? (i := 196) (by decide +kernel))), good_of_word (by decide +kernel)⟩
  | 3, _ => exact ⟨(List.mem_append_right _ (List.mem_of_getElem? (i := 198) (by decide +kernel))), good_of_word (by decide +kernel)⟩
  | 4, _ => exact ⟨(List.mem_append_right _ (List.mem_of_getElem? (i := 200) (by decide +kernel))), good_of_word (by decide +kernel)⟩
  | 5, _ => exact ⟨(List.mem_append_right _ (List.mem_of_getElem? (i := 202) (by decide +kernel))), good_of_word (by decide +kernel)⟩
  | 6, _ => exact ⟨(List.mem_append_right _ (List.mem_of_getElem? (i := 204) (by decide +kernel))), good_of_word (by decide +kernel)⟩
  | 7, _ => exact ⟨(List.mem_append_right _ (List.mem_of_getElem? (i := 206) (by decide +kernel))), good_of_word (by decide +kernel)⟩
  | 8, _ => exact ⟨(List.mem_append_right _ (List.mem_of_getElem? (i := 208) (by decide +kernel))), good_of_word (by decide +kernel)⟩
  | 9, _ => exact ⟨(List.mem_append_right _ (List.mem_of_getElem? (i := 210) (by decide +kernel))), good_of_word (by decide +kernel)⟩
  | 10, _ => exact ⟨(List.mem_append_right _ (List.mem_of_getElem? (i := 212) (by decide +kernel))), good_of_word (by decide +kernel)⟩
  | 11, _ => exact ⟨(List.mem_append_right _ (List.mem_of_getElem? (i := 214) (by decide +kernel))), good_of_word (by decide +kernel)⟩
  | 12, _ => exact ⟨(List.mem_append_right _ (List.mem_of_getElem? (i := 216) (by decide +kernel))), good_of_word (by decide +kernel)⟩
  | 13, _ => exact ⟨(List.mem_append_right _ (List.mem_of_getElem? (i := 218) (by decide +kernel))), good_of_word (by decide +kernel)⟩
  | 14, _ => exact ⟨(List.mem_append_right _ (List.mem_of_getElem? (i := 220) (by decide +kernel))), good_of_word (by decide +kernel)⟩
  | 15, _ => exact ⟨(List.mem_append_right _ (List.mem_of_getElem? (i := 222) (by decide +kernel))), good_of_word (by decide +kernel)⟩
  | 16, _ => exact ⟨(List.mem_append_right _ (List.mem_of_getElem? (i := 224) (by decide +kernel))), good_of_word (by decide +kernel)⟩
  | 17, _ => exact ⟨(List.mem_append_right _ (List.mem_of_getElem? (i := 226) (by decide +kernel))), good_of_word (by decide +kernel)⟩
  | (j9 + 18), h9 => exact absurd h9 (by omega)
theorem tw_5 : q_g (.fieldLink RX8 38 "DeadlineShare$Task" "state" "I") := ⟨(List.mem_append_right _ (List.mem_of_getElem? (i := 160) (by decide +kernel))), good_of_word (by decide +kernel)⟩
theorem tw_6 : q_g (.code yX8_isOn cX8_isOn 1 (some .boolean)) := ⟨(List.mem_append_right _ (List.mem_of_getElem? (i := 553) (by decide +kernel))), good_of_word (by decide +kernel)⟩
def ow_c_X8_isOn : List Cond := [.fieldLink RX8 38 "DeadlineShare$Task" "state" "I"]
def wq_c_X8_isOn : List Cond := .code yX8_isOn cX8_isOn 1 (some .boolean) :: (ow_c_X8_isOn ++ (u_ws RX8 TX8 18 ++ ([] : List Cond)))
theorem tb_c_X8_isOn : ∀ w ∈ wq_c_X8_isOn, q_g w := by
  unfold wq_c_X8_isOn ow_c_X8_isOn
  exact q_cons tw_6 (q_app (q_cons tw_5 q_nil) (q_app tu_X8 q_nil))
set_option maxHeartbeats 4000000 in
set_option maxRecDepth 100000 in
theorem c_X8_isOn (l : Launch) (dC : Nat → ClassId) (dI : Nat → Nat → Nat) (g : kG) (A : Nat → Prop) (hG : kWf g) (f : Nat → va_E) (h0 : Nat) (i_h0 : ik g 8 h0) : Met l yX8_isOn wq_c_X8_isOn ({ frames := 0, cells := 0, slots := 0, locals := 0 } : Room) (va_Pc [.ref h0] (fun U => kIn dC dI g A f U)) (va_Qi (fun (r : Int32) (_ : Unit) => True) (fun (_ : Unit) t => Iv dC dI g A f t.heap) A) 0 0 A := by
  refine Met.ofW (cc := cX8_isOn) (maxL := 1) (ret := (some .boolean)) (by decide) rfl ?_
  intro p e s m args below meth c s₁ B hml hv
  obtain ⟨rfl, hI, hK, hE⟩ := hv
  have hx := B.exec
  have hb := B.bytes
  have hr := B.returns
  have hts := atoms_spec (ws := wq_c_X8_isOn) B.pre
  have hown : s.vm.findClass RX8 = some m.cls := findClass_of_methodNamed B.named
  have hlocks := B.notSynchronized
  have hS : va_S A s.heap s.heap [] := va_S.rf
  have hl := lv_entry ([.ref h0]) (n := 1) (Nat.le_of_ble_eq_true rfl)
  rw [lg_entry_eq]
  generalize (lg_sl ([.ref h0]) ++ List.replicate (1 - (lg_sl ([.ref h0])).length) Slot.unset).toArray = ls at hl ⊢
  have hl : lv_has ls 1 [(0, .ref h0)] := hl
  refine lv_aload_n hx hb dX8_isOn_0 rfl (lv_at hl 0 rfl) ?_
  obtain ⟨x_2, x_3, x_4, x_5, x_6, x_7, x_8, x_9, x_10, x_11, x_12, x_13, x_14, x_15, x_16, x_17, k_1⟩ := op_8 hI i_h0
  refine k_get (ci := 8) (v := .int x_5) (C := RX8) (T := TX8) (N := 18) hx hb hts (fun _ h0_ => List.mem_cons_of_mem _ (List.mem_append_right _ (List.mem_append_left _ h0_))) hown hK hI i_h0.1 k_1 rfl 4 (by decide) (hts (.fieldLink RX8 38 "DeadlineShare$Task" "state" "I") (List.mem_cons_of_mem _ (List.mem_append_left _ (List.mem_of_getElem? (i := 0) rfl)))) (fun _ h9 => h9) rfl dX8_isOn_1 ?_
  refine lv_iconst (v := 1) hx hb dX8_isOn_4 (by decide) ?_
  refine lv_icmp_ne (tgt := 12) hx hb dX8_isOn_5 (by decide) (fun c_18 => ?_) (fun c_18 => ?_)
  · have c_18 := kn_eq rfl (by decide : Int32.toInt 1 = 1) c_18
    refine lv_iconst (v := 0) hx hb dX8_isOn_12 (by decide) ?_
    exact W.zret (v := 0) hx hb hr rfl (fun t ht hW => ⟨⟨0, (), rfl, trivial, k_ret ht hI⟩, hS.F ht⟩) hS.2.2 dX8_isOn_13
  · have c_18 := kc_eq rfl (by decide : Int32.toInt 1 = 1) c_18
    refine lv_iconst (v := 1) hx hb dX8_isOn_8 (by decide) ?_
    refine lv_goto (tgt := 13) hx hb dX8_isOn_9 (by decide) ?_
    exact W.zret (v := 1) hx hb hr rfl (fun t ht hW => ⟨⟨1, (), rfl, trivial, k_ret ht hI⟩, hS.F ht⟩) hS.2.2 dX8_isOn_13
theorem tu_X6 : ∀ w ∈ u_ws RX6 TX6 10, q_g w := by
  intro w h
  unfold u_ws at h
  obtain ⟨j, hj, rfl⟩ := List.mem_map.mp h
  have hj := List.mem_range.mp hj
  match j, hj with
  | 0, _ => exact ⟨(List.mem_append_right _ (List.mem_of_getElem? (i := 245) (by decide +kernel))), good_of_word (by decide +kernel)⟩
  | 1, _ => exact ⟨(List.mem_append_right _ (List.mem_of_getElem? (i := 247) (by decide +kernel))), good_of_word (by decide +kernel)⟩
  | 2, _ => exact ⟨(List.mem_append_right _ (List.mem_of_getElem? (i := 249) (by decide +kernel))), good_of_word (by decide +kernel)⟩
  | 3, _ => exact ⟨(List.mem_append_right _ (List.mem_of_getElem? (i := 251) (by decide +kernel))), good_of_word (by decide +kernel)⟩
  | 4, _ => exact ⟨(List.mem_append_right _ (List.mem_of_getElem? (i := 253) (by decide +kernel))), good_of_word (by decide +kernel)⟩
  | 5, _ => exact ⟨(List.mem_append_right _ (List.mem_of_getElem? (i := 255) (by decide +kernel))), good_of_word (by decide +kernel)⟩
  | 6, _ => exact ⟨(List.mem_append_right _ (List.mem_of_getElem? (i := 257) (by decide +kernel))), good_of_word (by decide +kernel)⟩
  | 7, _ => exact ⟨(List.mem_append_right _ (List.mem_of_getElem? (i := 259) (by decide +kernel))), good_of_word (by decide +kernel)⟩
  | 8, _ => exact ⟨(List.mem_append_right _ (List.mem_of_getElem? (i := 261) (by decide +kernel))), good_of_word (by decide +kernel)⟩
  | 9, _ => exact ⟨(List.mem_append_right _ (List.mem_of_getElem? (i := 263) (by decide +kernel))), good_of_word (by decide +kernel)⟩
  | (j9 + 10), h9 => exact absurd h9 (by omega)
theorem tw_7 : q_g (.fieldLink RX6 79 "DeadlineShare$Task" "v" "J") := ⟨(List.mem_append_right _ (List.mem_of_getElem? (i := 164) (by decide +kernel))), good_of_word (by decide +kernel)⟩
theorem tw_8 : q_g (.initialized RX8) := ⟨(List.mem_append_right _ (List.mem_of_getElem? (i := 9) (by decide +kernel))), good_of_word (by decide +kernel)⟩
theorem tw_9 : q_g (.selects RX8 yX8_isOn yX8_isOn) := ⟨(List.mem_append_right _ (List.mem_of_getElem? (i := 552) (by decide +kernel))), good_of_word (by decide +kernel)⟩
theorem tw_10 : q_g (.instanceMethod yX8_isOn) := ⟨(List.mem_append_right _ (List.mem_of_getElem? (i := 551) (by decide +kernel))), good_of_word (by decide +kernel)⟩
theorem tw_11 : q_g (.methodLink RX6 111 yX8_isOn) := ⟨(List.mem_append_right _ (List.mem_of_getElem? (i := 571) (by decide +kernel))), good_of_word (by decide +kernel)⟩
theorem tw_12 : q_g (.fieldLink RX6 11 "DeadlineShare$State" "tasks" "[LDeadlineShare$Task;") := ⟨(List.mem_append_right _ (List.mem_of_getElem? (i := 230) (by decide +kernel))), good_of_word (by decide +kernel)⟩
theorem tw_13 : q_g (.fieldLink RX6 48 "DeadlineShare$State" "count" "I") := ⟨(List.mem_append_right _ (List.mem_of_getElem? (i := 236) (by decide +kernel))), good_of_word (by decide +kernel)⟩
theorem tw_14 : q_g (.code yX6_leastV cX6_leastV 5 (some .int)) := ⟨(List.mem_append_right _ (List.mem_of_getElem? (i := 804) (by decide +kernel))), good_of_word (by decide +kernel)⟩
def ow_c_X6_leastV : List Cond := [.fieldLink RX6 48 "DeadlineShare$State" "count" "I", .fieldLink RX6 11 "DeadlineShare$State" "tasks" "[LDeadlineShare$Task;", .methodLink RX6 111 yX8_isOn, .instanceMethod yX8_isOn, .selects RX8 yX8_isOn yX8_isOn, .initialized RX8, .fieldLink RX6 79 "DeadlineShare$Task" "v" "J"]
def wq_c_X6_leastV : List Cond := .code yX6_leastV cX6_leastV 5 (some .int) :: (ow_c_X6_leastV ++ (u_ws RX6 TX6 10 ++ (wq_c_X8_isOn ++ (u_ws RX8 TX8 18 ++ ([] : List Cond)))))
theorem tb_c_X6_leastV : ∀ w ∈ wq_c_X6_leastV, q_g w := by
  unfold wq_c_X6_leastV ow_c_X6_leastV
  exact q_cons tw_14 (q_app (q_cons tw_13 (q_cons tw_12 (q_cons tw_11 (q_cons tw_10 (q_cons tw_9 (q_cons tw_8 (q_cons tw_7 q_nil))))))) (q_app tu_X6 (q_app tb_c_X8_isOn (q_app tu_X8 q_nil))))
set_option maxHeartbeats 4000000 in
set_option maxRecDepth 100000 in
theorem c_X6_leastV (l : Launch) (dC : Nat → ClassId) (dI : Nat → Nat → Nat) (g : kG) (A : Nat → Prop) (hG : kWf g) (f : Nat → va_E) (h0 : Nat) (i_h0 : ik g 6 h0) : Met l yX6_leastV wq_c_X6_leastV ({ frames := 1, cells := 0, slots := 0, locals := 20 } : Room) (va_Pc [.ref h0] (fun U => kIn dC dI g A f U)) (va_Qi (fun (r : Int32) (_ : Unit) => True) (fun (_ : Unit) t => Iv dC dI g A f t.heap) A) 0 0 A := by
  refine Met.ofW (cc := cX6_leastV) (maxL := 5) (ret := (some .int)) (by decide) rfl ?_
  intro p e s m args below meth c s₁ B hml hv
  obtain ⟨rfl, hI, hK, hE⟩ := hv
  have hx := B.exec
  have hb := B.bytes
  have hr := B.returns
  have hts := atoms_spec (ws := wq_c_X6_leastV) B.pre
  have hown : s.vm.findClass RX6 = some m.cls := findClass_of_methodNamed B.named
  have hlocks := B.notSynchronized
  have hS : va_S A s.heap s.heap [] := va_S.rf
  have hl := lv_entry ([.ref h0]) (n := 5) (Nat.le_of_ble_eq_true rfl)
  rw [lg_entry_eq]
  generalize (lg_sl ([.ref h0]) ++ List.replicate (5 - (lg_sl ([.ref h0])).length) Slot.unset).toArray = ls at hl ⊢
  have hl : lv_has ls 5 [(0, .ref h0)] := hl
  refine lv_iconst (v := (-1)) hx hb dX6_leastV_0 (by decide) ?_
  refine lv_istore_n (lv' := [(1, .int (-1)), (0, .ref h0)]) hx hb dX6_leastV_1 rfl hl (by decide) rfl (fun ls hl => ?_)
  refine lv_lconst (v := 0) hx hb dX6_leastV_2 (by decide) ?_
  refine lv_lstore_n (lv' := [(2, .long 0), (1, .int (-1)), (0, .ref h0)]) hx hb dX6_leastV_3 rfl hl (by decide) rfl (fun ls hl => ?_)
  refine lv_iconst (v := 0) hx hb dX6_leastV_4 (by decide) ?_
  refine lv_istore (lv' := [(4, .int 0), (2, .long 0), (1, .int (-1)), (0, .ref h0)]) hx hb dX6_leastV_5 hl (by decide) rfl (fun ls hl => ?_)
  have K_7 : ∀ (nn : Nat) (y_1 : Int32) (y_2 : Int64) (y_3 : Int32) (H : Heap) (locs : List Loc) (ls : Array Slot), (12 - y_1.toInt).toNat < nn → Iv dC dI g A f H → va_S A s.heap H locs → (0 ≤ y_1.toInt) → lv_has ls 5 [(4, .int y_1), (2, .long y_2), (1, .int y_3), (0, .ref h0)] → W p l e (headSpec wq_c_X6_leastV ({ frames := 1, cells := 0, slots := 0, locals := 20 } : Room)).room s m ([.ref h0].toArray) below meth c H locs 0 0 (MQ below (va_Qi (fun (r : Int32) (_ : Unit) => True) (fun (_ : Unit) t => Iv dC dI g A f t.heap) A) ([.ref h0].toArray) s 0 0 A) (F0 m 7 ls []) := by
    intro nn
    induction nn with
    | zero => intro y_1 y_2 y_3 H locs ls m_5; exact absurd m_5 (Nat.not_lt_zero _)
    | succ nn ih =>
      intro y_1 y_2 y_3 H locs ls m_5 hI hS t_4 hl
      have g_6 := Int32.toInt_lt y_1
      have g_7 := Int32.le_toInt y_1
      refine lv_iload hx hb dX6_leastV_7 (lv_at hl 0 rfl) ?_
      refine lv_aload_n hx hb dX6_leastV_9 rfl (lv_at hl 3 rfl) ?_
      obtain ⟨x_9, x_10, x_11, x_12, x_13, k_8, b_14, b_15⟩ := op_6 hI i_h0
      refine k_get (ci := 6) (v := .int x_9) (C := RX6) (T := TX6) (N := 10) hx hb hts (fun _ h0_ => List.mem_cons_of_mem _ (List.mem_append_right _ (List.mem_append_left _ h0_))) hown hK hI i_h0.1 k_8 rfl 5 (by decide) (hts (.fieldLink RX6 48 "DeadlineShare$State" "count" "I") (List.mem_cons_of_mem _ (List.mem_append_left _ (List.mem_of_getElem? (i := 0) rfl)))) (fun _ h9 => h9) rfl dX6_leastV_10 ?_
      refine lv_icmp_ge (tgt := 69) hx hb dX6_leastV_13 (by decide) (fun c_16 => ?_) (fun c_16 => ?_)
      · have c_16 := kc_le rfl rfl c_16
        refine lv_iload_n hx hb dX6_leastV_69 rfl (lv_at hl 2 rfl) ?_
        exact W.iret (v := y_3) hx hb hr (fun t ht hW => ⟨⟨y_3, (), rfl, trivial, k_ret ht hI⟩, hS.F ht⟩) hS.2.2 dX6_leastV_70
      · have c_16 := kn_le rfl rfl c_16
        refine lv_aload_n hx hb dX6_leastV_16 rfl (lv_at hl 3 rfl) ?_
        refine k_get (ci := 6) (v := .ref (gr g h0 1)) (C := RX6) (T := TX6) (N := 10) hx hb hts (fun _ h0_ => List.mem_cons_of_mem _ (List.mem_append_right _ (List.mem_append_left _ h0_))) hown hK hI i_h0.1 k_8 rfl 1 (by decide) (hts (.fieldLink RX6 11 "DeadlineShare$State" "tasks" "[LDeadlineShare$Task;") (List.mem_cons_of_mem _ (List.mem_append_left _ (List.mem_of_getElem? (i := 1) rfl)))) (fun _ h9 => h9) rfl dX6_leastV_17 ?_
        have i_18 := kw_6_1 hG i_h0
        refine lv_iload hx hb dX6_leastV_20 (lv_at hl 0 rfl) ?_
        obtain ⟨q_20, k_19, b_21⟩ := op_20 hI i_18
        refine k_aald hx hb hK hI i_18.1 4 k_19 rfl (vp_in_iff.mpr (by omega)) b_21 (fun _ hj => kw_20 hG i_18 hj) dX6_leastV_22 (fun a_22 i_23 => ?_)
        obtain ⟨x_25, x_26, x_27, x_28, x_29, x_30, x_31, x_32, x_33, x_34, x_35, x_36, x_37, x_38, x_39, x_40, k_24⟩ := op_8 hI i_23
        refine va_calli (va_runV (As := []) (rest := []) ⟨hx, hb, hml, hown, hts⟩ (c_X8_isOn l dC dI g A hG f a_22 i_23) (cwV 0 hts (gi_V (fun w_ h0_ => ⟨List.mem_cons_of_mem _ (List.mem_append_right _ (List.mem_append_right _ (List.mem_append_left _ h0_))), (tb_c_X8_isOn w_ h0_).2⟩) (List.mem_cons_of_mem _ (List.mem_append_left _ (List.mem_of_getElem? (i := 2) rfl))) (List.mem_cons_of_mem _ (List.mem_append_left _ (List.mem_of_getElem? (i := 3) rfl))) (List.mem_cons_of_mem _ (List.mem_append_left _ (List.mem_of_getElem? (i := 4) rfl))) (List.mem_cons_of_mem _ (List.mem_append_left _ (List.mem_of_getElem? (i := 5) rfl)))) rfl rfl rfl (by decide +kernel) ⟨Nat.le_of_ble_eq_true rfl, Nat.le_of_ble_eq_true rfl⟩) ⟨fun a U g mk q => ⟨q.1, q.2.calling rfl rfl⟩, k_recv hK hI i_23.1 k_24 (ci := 8) rfl, fun U hU hW => ⟨rfl, kIn.of hI hK hE hS hU hW⟩⟩ rfl rfl hl.1 rfl (lv_room (Nat.le_of_ble_eq_true rfl)) dX6_leastV_23 ⟨Nat.le_of_ble_eq_true rfl, Nat.le_of_ble_eq_true rfl⟩) hS (fun q _ h => h) (fun q h => h) (fun r_42 u t H1 locs ht hvm w_41 hB hz1 hk1 hS => ?_)
        have hI : Iv dC dI g A f t.heap := hB
        rw [ht] at hI
        generalize H1 = H at hI hS ⊢
        refine W.widen (k := 0) (n := 0) (Nat.le_of_ble_eq_true rfl) (Nat.le_of_ble_eq_true rfl) ?_
        have J_63 : ∀ (y_43 : Int64) (y_44 : Int32) (H : Heap) (locs : List Loc) (ls : Array Slot), Iv dC dI g A f H → va_S A s.heap H locs → lv_has ls 5 [(4, .int y_1), (2, .long y_43), (1, .int y_44), (0, .ref h0)] → W p l e (headSpec wq_c_X6_leastV ({ frames := 1, cells := 0, slots := 0, locals := 20 } : Room)).room s m ([.ref h0].toArray) below meth c H locs 0 0 (MQ below (va_Qi (fun (r : Int32) (_ : Unit) => True) (fun (_ : Unit) t => Iv dC dI g A f t.heap) A) ([.ref h0].toArray) s 0 0 A) (F0 m 63 ls []) := by
          intro y_43 y_44 H locs ls hI hS  hl
          obtain ⟨v_45, ev_45⟩ : ∃ y : Int32, y = y_1 + Int32.ofInt 1 := ⟨_, rfl⟩
          refine lv_iinc (v := v_45) (lv' := [(4, .int v_45), (2, .long y_43), (1, .int y_44), (0, .ref h0)]) hx hb dX6_leastV_63 hl (k := 0) rfl ev_45.symm (by decide) rfl (fun ls hl => ?_)
          have tv_45 := k_inc y_1
          rw [← ev_45] at tv_45
          refine lv_goto (tgt := 7) hx hb dX6_leastV_66 (by decide) ?_
          exact ih v_45 y_43 y_44 _ _ _ (by omega) hI hS (by first | omega | decide) (lv_sub hl [0, 1, 2, 3] rfl)
        refine lv_if_eq (tgt := 63) hx hb dX6_leastV_26 (by decide) (fun c_46 => ?_) (fun c_46 => ?_)
        · have c_46 := kc_eq rfl (by decide : Int32.toInt 0 = 0) c_46
          exact J_63 y_2 y_3 _ _ _ hI hS  (lv_sub hl [0, 1, 2, 3] rfl)
        · have c_46 := kn_eq rfl (by decide : Int32.toInt 0 = 0) c_46
          refine lv_iload_n hx hb dX6_leastV_29 rfl (lv_at hl 2 rfl) ?_
          refine lv_iconst (v := (-1)) hx hb dX6_leastV_30 (by decide) ?_
          have J_49 : ∀ (H : Heap) (locs : List Loc) (ls : Array Slot), Iv dC dI g A f H → va_S A s.heap H locs → lv_has ls 5 [(4, .int y_1), (2, .long y_2), (1, .int y_3), (0, .ref h0)] → W p l e (headSpec wq_c_X6_leastV ({ frames := 1, cells := 0, slots := 0, locals := 20 } : Room)).room s m ([.ref h0].toArray) below meth c H locs 0 0 (MQ below (va_Qi (fun (r : Int32) (_ : Unit) => True) (fun (_ : Unit) t => Iv dC dI g A f t.heap) A) ([.ref h0].toArray) s 0 0 A) (F0 m 49 ls []) := by
            intro H locs ls hI hS  hl
            refine lv_iload hx hb dX6_leastV_49 (lv_at hl 0 rfl) ?_
            refine lv_istore_n (lv' := [(1, .int y_1), (4, .int y_1), (2, .long y_2), (0, .ref h0)]) hx hb dX6_leastV_51 rfl hl (by decide) rfl (fun ls hl => ?_)
            refine lv_aload_n hx hb dX6_leastV_52 rfl (lv_at hl 3 rfl) ?_
            refine k_get (ci := 6) (v := .ref (gr g h0 1)) (C := RX6) (T := TX6) (N := 10) hx hb hts (fun _ h0_ => List.mem_cons_of_mem _ (List.mem_append_right _ (List.mem_append_left _ h0_))) hown hK hI i_h0.1 k_8 rfl 1 (by decide) (hts (.fieldLink RX6 11 "DeadlineShare$State" "tasks" "[LDeadlineShare$Task;") (List.mem_cons_of_mem _ (List.mem_append_left _ (List.mem_of_getElem? (i := 1) rfl)))) (fun _ h9 => h9) rfl dX6_leastV_53 ?_
            refine lv_iload hx hb dX6_leastV_56 (lv_at hl 1 rfl) ?_
            refine k_aald hx hb hK hI i_18.1 4 k_19 rfl (vp_in_iff.mpr (by omega)) b_21 (fun _ hj => kw_20 hG i_18 hj) dX6_leastV_58 (fun a_49 i_50 => ?_)
            obtain ⟨x_52, x_53, x_54, x_55, x_56, x_57, x_58, x_59, x_60, x_61, x_62, x_63, x_64, x_65, x_66, x_67, k_51⟩ := op_8 hI i_50
            refine k_get (ci := 8) (v := .long x_56) (C := RX8) (T := TX8) (N := 18) hx hb hts (fun _ h0_ => List.mem_cons_of_mem _ (List.mem_append_right _ (List.mem_append_right _ (List.mem_append_right _ (List.mem_append_left _ h0_))))) hown hK hI i_50.1 k_51 rfl 5 (by decide) (hts (.fieldLink RX6 79 "DeadlineShare$Task" "v" "J") (List.mem_cons_of_mem _ (List.mem_append_left _ (List.mem_of_getElem? (i := 6) rfl)))) (fun _ h9 => h9) rfl dX6_leastV_59 ?_
            refine lv_lstore_n (lv' := [(2, .long x_56), (1, .int y_1), (4, .int y_1), (0, .ref h0)]) hx hb dX6_leastV_62 rfl hl (by decide) rfl (fun ls hl => ?_)
            exact J_63 x_56 y_1 _ _ _ hI hS  (lv_sub hl [2, 0, 1, 3] rfl)
          refine lv_icmp_eq (tgt := 49) hx hb dX6_leastV_31 (by decide) (fun c_68 => ?_) (fun c_68 => ?_)
          · have c_68 := kc_eq rfl (by decide : Int32.toInt (-1) = (-1)) c_68
            exact J_49  _ _ _ hI hS  (lv_sub hl [0, 1, 2, 3] rfl)
          · have c_68 := kn_eq rfl (by decide : Int32.toInt (-1) = (-1)) c_68
            refine lv_aload_n hx hb dX6_leastV_34 rfl (lv_at hl 3 rfl) ?_
            refine k_get (ci := 6) (v := .ref (gr g h0 1)) (C := RX6) (T := TX6) (N := 10) hx hb hts (fun _ h0_ => List.mem_cons_of_mem _ (List.mem_append_right _ (List.mem_append_left _ h0_))) hown hK hI i_h0.1 k_8 rfl 1 (by decide) (hts (.fieldLink RX6 11 "DeadlineShare$State" "tasks" "[LDeadlineShare$Task;") (List.mem_cons_of_mem _ (List.mem_append_left _ (List.mem_of_getElem? (i := 1) rfl)))) (fun _ h9 => h9) rfl dX6_leastV_35 ?_
            refine lv_iload hx hb dX6_leastV_38 (lv_at hl 0 rfl) ?_
            refine k_aald hx hb hK hI i_18.1 4 k_19 rfl (vp_in_iff.mpr (by omega)) b_21 (fun _ hj => kw_20 hG i_18 hj) dX6_leastV_40 (fun a_71 i_72 => ?_)
            obtain ⟨x_74, x_75, x_76, x_77, x_78, x_79, x_80, x_81, x_82, x_83, x_84, x_85, x_86, x_87, x_88, x_89, k_73⟩ := op_8 hI i_72
            refine k_get (ci := 8) (v := .long x_78) (C := RX8) (T := TX8) (N := 18) hx hb hts (fun _ h0_ => List.mem_cons_of_mem _ (List.mem_append_right _ (List.mem_append_right _ (List.mem_append_right _ (List.mem_append_left _ h0_))))) hown hK hI i_72.1 k_73 rfl 5 (by decide) (hts (.fieldLink RX6 79 "DeadlineShare$Task" "v" "J") (List.mem_cons_of_mem _ (List.mem_append_left _ (List.mem_of_getElem? (i := 6) rfl)))) (fun _ h9 => h9) rfl dX6_leastV_41 ?_
            refine lv_lload_n hx hb dX6_leastV_44 rfl (lv_at hl 1 rfl) ?_
            refine W.lcmp hx hb dX6_leastV_45 ?_
            refine lv_if_ge (tgt := 63) hx hb dX6_leastV_46 (by decide) (fun c_90 => ?_) (fun c_90 => ?_)
            · have c_90 := lc_le rfl rfl ((lg_cmp_ge _ _).mp c_90)
              exact J_63 y_2 y_3 _ _ _ hI hS  (lv_sub hl [0, 1, 2, 3] rfl)
            · have c_90 := ln_le rfl rfl (fun h9 => c_90 ((lg_cmp_ge _ _).mpr h9))
              exact J_49  _ _ _ hI hS  (lv_sub hl [0, 1, 2, 3] rfl)
  exact K_7 _ 0 0 (-1) _ _ _ (Nat.lt_succ_self _) hI hS (by first | omega | decide | (simp only [show Int32.toInt 0 = 0 from by decide, show Int64.toInt 0 = 0 from by decide, show Int32.toInt (-1) = (-1) from by decide]; omega)) (lv_sub hl [0, 1, 2, 3] rfl)
theorem tu_X10 : ∀ w ∈ u_ws RX10 TX10 2, q_g w := by
  intro w h
  unfold u_ws at h
  obtain ⟨j, hj, rfl⟩ := List.mem_map.mp h
  have hj := List.mem_range.mp hj
  match j, hj with
  | 0, _ => exact ⟨(List.mem_append_right _ (List.mem_of_getElem? (i := 135) (by decide +kernel))), good_of_word (by decide +kernel)⟩
  | 1, _ => exact ⟨(List.mem_append_right _ (List.mem_of_getElem? (i := 137) (by decide +kernel))), good_of_word (by decide +kernel)⟩
  | (j9 + 2), h9 => exact absurd h9 (by omega)
theorem tw_15 : q_g (.fieldLink RX10 15 "DeadlineShare$Wide" "low" "J") := ⟨(List.mem_append_right _ (List.mem_of_getElem? (i := 134) (by decide +kernel))), good_of_word (by decide +kernel)⟩
theorem tw_16 : q_g (.constantLong RX10 13 (4294967295)) := ⟨(List.mem_append_right _ (List.mem_of_getElem? (i := 470) (by decide +kernel))), good_of_word (by decide +kernel)⟩
theorem tw_17 : q_g (.fieldLink RX10 9 "DeadlineShare$Wide" "high" "J") := ⟨(List.mem_append_right _ (List.mem_of_getElem? (i := 133) (by decide +kernel))), good_of_word (by decide +kernel)⟩
theorem tw_18 : q_g (.code yX10_set cX10_set 3 none) := ⟨(List.mem_append_right _ (List.mem_of_getElem? (i := 469) (by decide +kernel))), good_of_word (by decide +kernel)⟩
def ow_c_X10_set : List Cond := [.fieldLink RX10 9 "DeadlineShare$Wide" "high" "J", .constantLong RX10 13 (4294967295), .fieldLink RX10 15 "DeadlineShare$Wide" "low" "J"]
def wq_c_X10_set : List Cond := .code yX10_set cX10_set 3 none :: (ow_c_X10_set ++ (u_ws RX10 TX10 2 ++ ([] : List Cond)))
theorem tb_c_X10_set : ∀ w ∈ wq_c_X10_set, q_g w := by
  unfold wq_c_X10_set ow_c_X10_set
  exact q_cons tw_18 (q_app (q_cons tw_17 (q_cons tw_16 (q_cons tw_15 q_nil))) (q_app tu_X10 q_nil))
set_option maxHeartbeats 4000000 in
set_option maxRecDepth 100000 in
theorem c_X10_set (l : Launch) (dC : Nat → ClassId) (dI : Nat → Nat → Nat) (g : kG) (A : Nat → Prop) (hG : kWf g) (f : Nat → va_E) (h0 : Nat) (p1 : Int64) (i_h0 : ik g 10 h0) : Met l yX10_set wq_c_X10_set ({ frames := 0, cells := 0, slots := 0, locals := 0 } : Room) (va_Pc [.ref h0, .long p1] (fun U => kIn dC dI g A f U)) (va_Qv (fun (_ : Unit) => True) (fun (_ : Unit) t => ∃ f1 : Nat → va_E, Iv dC dI g A f1 t.heap ∧ Kp g [10] f f1) A) 0 0 A := by
  refine Met.ofW (cc := cX10_set) (maxL := 3) (ret := none) (by decide) rfl ?_
  intro p e s m args below meth c s₁ B hml hv
  obtain ⟨rfl, hI, hK, hE⟩ := hv
  have hx := B.exec
  have hb := B.bytes
  have hr := B.returns
  have hts := atoms_spec (ws := wq_c_X10_set) B.pre
  have hown : s.vm.findClass RX10 = some m.cls := findClass_of_methodNamed B.named
  have hlocks := B.notSynchronized
  have hS : va_S A s.heap s.heap [] := va_S.rf
  have hk0 : Kp g [10] f f := Kp.rf
  have hl := lv_entry ([.ref h0, .long p1]) (n := 3) (Nat.le_of_ble_eq_true rfl)
  rw [lg_entry_eq]
  generalize (lg_sl ([.ref h0, .long p1]) ++ List.replicate (3 - (lg_sl ([.ref h0, .long p1])).length) Slot.unset).toArray = ls at hl ⊢
  have hl : lv_has ls 3 [(0, .ref h0), (1, .long p1)] := hl
  refine lv_aload_n hx hb dX10_set_0 rfl (lv_at hl 0 rfl) ?_
  refine lv_lload_n hx hb dX10_set_1 rfl (lv_at hl 1 rfl) ?_
  refine lv_bipush (v := 32) hx hb dX10_set_2 (by decide) ?_
  refine lv_lshr hx hb dX10_set_4 rfl ?_
  refine lv_topl (fun v_1 ev_1 => ?_)
  obtain ⟨x_3, x_4, k_2⟩ := op_10 hI i_h0
  refine k_put (ci := 10) (v := .long v_1) (ty := .long) (C := RX10) (T := TX10) (N := 2) hx hb hts (fun _ h0_ => List.mem_cons_of_mem _ (List.mem_append_right _ (List.mem_append_left _ h0_))) tyX10 tyX10_ok nmX10 hown hK hI hS i_h0.1 k_2 rfl 0 (by decide) (hts (.fieldLink RX10 9 "DeadlineShare$Wide" "high" "J") (List.mem_cons_of_mem _ (List.mem_append_left _ (List.mem_of_getElem? (i := 0) rfl)))) (fun _ h9 => h9) rfl (by decide +kernel) rfl rfl (Nat.le_of_ble_eq_true rfl) rfl (cl_10 i_h0) dX10_set_5 (fun f_5 H locs e_6 hI hS => ?_)
  have k_8 : f_5 h0 = .inr (10, [.long v_1, .long x_4]) := by rw [e_6]; exact va_up_self _ _ _
  have kp_7 := Kp.put hk0 i_h0 (by decide) e_6
  refine lv_aload_n hx hb dX10_set_8 rfl (lv_at hl 0 rfl) ?_
  refine lv_lload_n hx hb dX10_set_9 rfl (lv_at hl 1 rfl) ?_
  refine lv_ldc2 hx hb hown (hts (.constantLong RX10 13 (4294967295)) (List.mem_cons_of_mem _ (List.mem_append_left _ (List.mem_of_getElem? (i := 1) rfl)))) dX10_set_10 ?_
  refine lv_land hx hb dX10_set_13 ?_
  refine lv_topl (fun v_9 ev_9 => ?_)
  refine k_put (ci := 10) (v := .long v_9) (ty := .long) (C := RX10) (T := TX10) (N := 2) hx hb hts (fun _ h0_ => List.mem_cons_of_mem _ (List.mem_append_right _ (List.mem_append_left _ h0_))) tyX10 tyX10_ok nmX10 hown hK hI hS i_h0.1 k_8 rfl 1 (by decide) (hts (.fieldLink RX10 15 "DeadlineShare$Wide" "low" "J") (List.mem_cons_of_mem _ (List.mem_append_left _ (List.mem_of_getElem? (i := 2) rfl)))) (fun _ h9 => h9) rfl (by decide +kernel) rfl rfl (Nat.le_of_ble_eq_true rfl) rfl (cl_10 i_h0) dX10_set_14 (fun f_10 H locs e_11 hI hS => ?_)
  have k_13 : f_10 h0 = .inr (10, [.long v_1, .long v_9]) := by rw [e_11]; exact va_up_self _ _ _
  have kp_12 := Kp.put kp_7 i_h0 (by decide) e_11
  exact W.vret hx hb hr (fun t ht hW => ⟨⟨(), rfl, trivial, ⟨f_10, k_ret ht hI, kp_12⟩⟩, hS.F ht⟩) hS.2.2 dX10_set_17
theorem tw_19 : q_g (.code yX10_addTimes cX10_addTimes 7 none) := ⟨(List.mem_append_right _ (List.mem_of_getElem? (i := 507) (by decide +kernel))), good_of_word (by decide +kernel)⟩
def ow_c_X10_addTimes : List Cond := [.fieldLink RX10 15 "DeadlineShare$Wide" "low" "J", .constantLong RX10 13 (4294967295), .fieldLink RX10 9 "DeadlineShare$Wide" "high" "J"]
def wq_c_X10_addTimes : List Cond := .code yX10_addTimes cX10_addTimes 7 none :: (ow_c_X10_addTimes ++ (u_ws RX10 TX10 2 ++ ([] : List Cond)))
theorem tb_c_X10_addTimes : ∀ w ∈ wq_c_X10_addTimes, q_g w := by
  unfold wq_c_X10_addTimes ow_c_X10_addTimes
  exact q_cons tw_19 (q_app (q_cons tw_15 (q_cons tw_16 (q_cons tw_17 q_nil))) (q_app tu_X10 q_nil))
set_option maxHeartbeats 4000000 in
set_option maxRecDepth 100000 in
theorem c_X10_addTimes (l : Launch) (dC : Nat → ClassId) (dI : Nat → Nat → Nat) (g : kG) (A : Nat → Prop) (hG : kWf g) (f : Nat → va_E) (h0 : Nat) (p1 : Int64) (p2 : Int64) (i_h0 : ik g 10 h0) : Met l yX10_addTimes wq_c_X10_addTimes ({ frames := 0, cells := 0, slots := 0, locals := 0 } : Room) (va_Pc [.ref h0, .long p1, .long p2] (fun U => kIn dC dI g A f U)) (va_Qv (fun (_ : Unit) => True) (fun (_ : Unit) t => ∃ f1 : Nat → va_E, Iv dC dI g A f1 t.heap ∧ Kp g [10] f f1) A) 0 0 A := by
  refine Met.ofW (cc := cX10_addTimes) (maxL := 7) (ret := none) (by decide) rfl ?_
  intro p e s m args below meth c s₁ B hml hv
  obtain ⟨rfl, hI, hK, hE⟩ := hv
  have hx := B.exec
  have hb := B.bytes
  have hr := B.returns
  have hts := atoms_spec (ws := wq_c_X10_addTimes) B.pre
  have hown : s.vm.findClass RX10 = some m.cls := findClass_of_methodNamed B.named
  have hlocks := B.notSynchronized
  have hS : va_S A s.heap s.heap [] := va_S.rf
  have hk0 : Kp g [10] f f := Kp.rf
  have hl := lv_entry ([.ref h0, .long p1, .long p2]) (n := 7) (Nat.le_of_ble_eq_true rfl)
  rw [lg_entry_eq]
  generalize (lg_sl ([.ref h0, .long p1, .long p2]) ++ List.replicate (7 - (lg_sl ([.ref h0, .long p1, .long p2])).length) Slot.unset).toArray = ls at hl ⊢
  have hl : lv_has ls 7 [(0, .ref h0), (1, .long p1), (3, .long p2)] := hl
  refine lv_aload_n hx hb dX10_addTimes_0 rfl (lv_at hl 0 rfl) ?_
  obtain ⟨x_2, x_3, k_1⟩ := op_10 hI i_h0
  refine k_get (ci := 10) (v := .long x_3) (C := RX10) (T := TX10) (N := 2) hx hb hts (fun _ h0_ => List.mem_cons_of_mem _ (List.mem_append_right _ (List.mem_append_left _ h0_))) hown hK hI i_h0.1 k_1 rfl 1 (by decide) (hts (.fieldLink RX10 15 "DeadlineShare$Wide" "low" "J") (List.mem_cons_of_mem _ (List.mem_append_left _ (List.mem_of_getElem? (i := 0) rfl)))) (fun _ h9 => h9) rfl dX10_addTimes_1 ?_
  refine lv_lload_n hx hb dX10_addTimes_4 rfl (lv_at hl 1 rfl) ?_
  refine lv_lload_n hx hb dX10_addTimes_5 rfl (lv_at hl 2 rfl) ?_
  refine lv_ldc2 hx hb hown (hts (.constantLong RX10 13 (4294967295)) (List.mem_cons_of_mem _ (List.mem_append_left _ (List.mem_of_getElem? (i := 1) rfl)))) dX10_addTimes_6 ?_
  refine lv_land hx hb dX10_addTimes_9 ?_
  refine lv_topl (fun v_4 ev_4 => ?_)
  refine lv_lmul hx hb dX10_addTimes_10 ?_
  refine lv_topl (fun v_5 ev_5 => ?_)
  refine lv_ladd hx hb dX10_addTimes_11 ?_
  refine lv_topl (fun v_6 ev_6 => ?_)
  refine lv_lstore (lv' := [(5, .long v_6), (0, .ref h0), (1, .long p1), (3, .long p2)]) hx hb dX10_addTimes_12 hl (by decide) rfl (fun ls hl => ?_)
  refine lv_aload_n hx hb dX10_addTimes_14 rfl (lv_at hl 1 rfl) ?_
  refine lv_dup hx hb dX10_addTimes_15 rfl ?_
  refine k_get (ci := 10) (v := .long x_2) (C := RX10) (T := TX10) (N := 2) hx hb hts (fun _ h0_ => List.mem_cons_of_mem _ (List.mem_append_right _ (List.mem_append_left _ h0_))) hown hK hI i_h0.1 k_1 rfl 0 (by decide) (hts (.fieldLink RX10 9 "DeadlineShare$Wide" "high" "J") (List.mem_cons_of_mem _ (List.mem_append_left _ (List.mem_of_getElem? (i := 2) rfl)))) (fun _ h9 => h9) rfl dX10_addTimes_16 ?_
  refine lv_lload_n hx hb dX10_addTimes_19 rfl (lv_at hl 2 rfl) ?_
  refine lv_lload_n hx hb dX10_addTimes_20 rfl (lv_at hl 3 rfl) ?_
  refine lv_bipush (v := 32) hx hb dX10_addTimes_21 (by decide) ?_
  refine lv_lshr hx hb dX10_addTimes_23 rfl ?_
  refine lv_topl (fun v_7 ev_7 => ?_)
  refine lv_lmul hx hb dX10_addTimes_24 ?_
  refine lv_topl (fun v_8 ev_8 => ?_)
  refine lv_lload hx hb dX10_addTimes_25 (lv_at hl 0 rfl) ?_
  refine lv_bipush (v := 32) hx hb dX10_addTimes_27 (by decide) ?_
  refine lv_lshr hx hb dX10_addTimes_29 rfl ?_
  refine lv_topl (fun v_9 ev_9 => ?_)
  refine lv_ladd hx hb dX10_addTimes_30 ?_
  refine lv_topl (fun v_10 ev_10 => ?_)
  refine lv_ladd hx hb dX10_addTimes_31 ?_
  refine lv_topl (fun v_11 ev_11 => ?_)
  refine k_put (ci := 10) (v := .long v_11) (ty := .long) (C := RX10) (T := TX10) (N := 2) hx hb hts (fun _ h0_ => List.mem_cons_of_mem _ (List.mem_append_right _ (List.mem_append_left _ h0_))) tyX10 tyX10_ok nmX10 hown hK hI hS i_h0.1 k_1 rfl 0 (by decide) (hts (.fieldLink RX10 9 "DeadlineShare$Wide" "high" "J") (List.mem_cons_of_mem _ (List.mem_append_left _ (List.mem_of_getElem? (i := 2) rfl)))) (fun _ h9 => h9) rfl (by decide +kernel) rfl rfl (Nat.le_of_ble_eq_true rfl) rfl (cl_10 i_h0) dX10_addTimes_32 (fun f_12 H locs e_13 hI hS => ?_)
  have k_15 : f_12 h0 = .inr (10, [.long v_11, .long x_3]) := by rw [e_13]; exact va_up_self _ _ _
  have kp_14 := Kp.put hk0 i_h0 (by decide) e_13
  refine lv_aload_n hx hb dX10_addTimes_35 rfl (lv_at hl 1 rfl) ?_
  refine lv_lload hx hb dX10_addTimes_36 (lv_at hl 0 rfl) ?_
  refine lv_ldc2 hx hb hown (hts (.constantLong RX10 13 (4294967295)) (List.mem_cons_of_mem _ (List.mem_append_left _ (List.mem_of_getElem? (i := 1) rfl)))) dX10_addTimes_38 ?_
  refine lv_land hx hb dX10_addTimes_41 ?_
  refine lv_topl (fun v_16 ev_16 => ?_)
  refine k_put (ci := 10) (v := .long v_16) (ty := .long) (C := RX10) (T := TX10) (N := 2) hx hb hts (fun _ h0_ => List.mem_cons_of_mem _ (List.mem_append_right _ (List.mem_append_left _ h0_))) tyX10 tyX10_ok nmX10 hown hK hI hS i_h0.1 k_15 rfl 1 (by decide) (hts (.fieldLink RX10 15 "DeadlineShare$Wide" "low" "J") (List.mem_cons_of_mem _ (List.mem_append_left _ (List.mem_of_getElem? (i := 0) rfl)))) (fun _ h9 => h9) rfl (by decide +kernel) rfl rfl (Nat.le_of_ble_eq_true rfl) rfl (cl_10 i_h0) dX10_addTimes_42 (fun f_17 H locs e_18 hI hS => ?_)
  have k_20 : f_17 h0 = .inr (10, [.long v_11, .long v_16]) := by rw [e_18]; exact va_up_self _ _ _
  have kp_19 := Kp.put kp_14 i_h0 (by decide) e_18
  exact W.vret hx hb hr (fun t ht hW => ⟨⟨(), rfl, trivial, ⟨f_17, k_ret ht hI, kp_19⟩⟩, hS.F ht⟩) hS.2.2 dX10_addTimes_45
theorem tw_20 : q_g (.selects RX10 yX10_addTimes yX10_addTimes) := ⟨(List.mem_append_right _ (List.mem_of_getElem? (i := 506) (by decide +kernel))), good_of_word (by decide +kernel)⟩
theorem tw_21 : q_g (.instanceMethod yX10_addTimes) := ⟨(List.mem_append_right _ (List.mem_of_getElem? (i := 505) (by decide +kernel))), good_of_word (by decide +kernel)⟩
theorem tw_22 : q_g (.methodLink RX6 82 yX10_addTimes) := ⟨(List.mem_append_right _ (List.mem_of_getElem? (i := 504) (by decide +kernel))), good_of_word (by decide +kernel)⟩
theorem tw_23 : q_g (.fieldLink RX6 72 "DeadlineShare$Task" "weight" "I") := ⟨(List.mem_append_right _ (List.mem_of_getElem? (i := 155) (by decide +kernel))), good_of_word (by decide +kernel)⟩
theorem tw_24 : q_g (.fieldLink RX6 69 "DeadlineShare$Task" "state" "I") := ⟨(List.mem_append_right _ (List.mem_of_getElem? (i := 161) (by decide +kernel))), good_of_word (by decide +kernel)⟩
theorem tw_25 : q_g (.fieldLink RX6 61 "DeadlineShare$State" "rest" "J") := ⟨(List.mem_append_right _ (List.mem_of_getElem? (i := 240) (by decide +kernel))), good_of_word (by decide +kernel)⟩
theorem tw_26 : q_g (.initialized RX10) := ⟨(List.mem_append_right _ (List.mem_of_getElem? (i := 8) (by decide +kernel))), good_of_word (by decide +kernel)⟩
theorem tw_27 : q_g (.selects RX10 yX10_set yX10_set) := ⟨(List.mem_append_right _ (List.mem_of_getElem? (i := 468) (by decide +kernel))), good_of_word (by decide +kernel)⟩
theorem tw_28 : q_g (.instanceMethod yX10_set) := ⟨(List.mem_append_right _ (List.mem_of_getElem? (i := 467) (by decide +kernel))), good_of_word (by decide +kernel)⟩
theorem tw_29 : q_g (.methodLink RX6 75 yX10_set) := ⟨(List.mem_append_right _ (List.mem_of_getElem? (i := 503) (by decide +kernel))), good_of_word (by decide +kernel)⟩
theorem tw_30 : q_g (.fieldLink RX6 27 "DeadlineShare$State" "sum" "LDeadlineShare$Wide;") := ⟨(List.mem_append_right _ (List.mem_of_getElem? (i := 234) (by decide +kernel))), good_of_word (by decide +kernel)⟩
theorem tw_31 : q_g (.code yX6_sumUp cX6_sumUp 3 (some .int)) := ⟨(List.mem_append_right _ (List.mem_of_getElem? (i := 502) (by decide +kernel))), good_of_word (by decide +kernel)⟩
def ow_c_X6_sumUp : List Cond := [.fieldLink RX6 27 "DeadlineShare$State" "sum" "LDeadlineShare$Wide;", .methodLink RX6 75 yX10_set, .instanceMethod yX10_set, .selects RX10 yX10_set yX10_set, .initialized RX10, .fieldLink RX6 48 "DeadlineShare$State" "count" "I", .fieldLink RX6 61 "DeadlineShare$State" "rest" "J", .fieldLink RX6 11 "DeadlineShare$State" "tasks" "[LDeadlineShare$Task;", .fieldLink RX6 69 "DeadlineShare$Task" "state" "I", .fieldLink RX6 72 "DeadlineShare$Task" "weight" "I", .fieldLink RX6 79 "DeadlineShare$Task" "v" "J", .methodLink RX6 82 yX10_addTimes, .instanceMethod yX10_addTimes, .selects RX10 yX10_addTimes yX10_addTimes]
def wq_c_X6_sumUp : List Cond := .code yX6_sumUp cX6_sumUp 3 (some .int) :: (ow_c_X6_sumUp ++ (u_ws RX6 TX6 10 ++ (wq_c_X10_set ++ (u_ws RX8 TX8 18 ++ (wq_c_X10_addTimes ++ ([] : List Cond))))))
theorem tb_c_X6_sumUp : ∀ w ∈ wq_c_X6_sumUp, q_g w := by
  unfold wq_c_X6_sumUp ow_c_X6_sumUp
  exact q_cons tw_31 (q_app (q_cons tw_30 (q_cons tw_29 (q_cons tw_28 (q_cons tw_27 (q_cons tw_26 (q_cons tw_13 (q_cons tw_25 (q_cons tw_12 (q_cons tw_24 (q_cons tw_23 (q_cons tw_7 (q_cons tw_22 (q_cons tw_21 (q_cons tw_20 q_nil)))))))))))))) (q_app tu_X6 (q_app tb_c_X10_set (q_app tu_X8 (q_app tb_c_X10_addTimes q_nil)))))
set_option maxHeartbeats 4000000 in
set_option maxRecDepth 100000 in
theorem c_X6_sumUp (l : Launch) (dC : Nat → ClassId) (dI : Nat → Nat → Nat) (g : kG) (A : Nat → Prop) (hG : kWf g) (f : Nat → va_E) (h0 : Nat) (i_h0 : ik g 6 h0) : Met l yX6_sumUp wq_c_X6_sumUp ({ frames := 1, cells := 0, slots := 0, locals := 26 } : Room) (va_Pc [.ref h0] (fun U => kIn dC dI g A f U)) (va_Qi (fun (r : Int32) (_ : Unit) => True) (fun (_ : Unit) t => ∃ f1 : Nat → va_E, Iv dC dI g A f1 t.heap ∧ Kp g [10] f f1) A) 0 0 A := by
  refine Met.ofW (cc := cX6_sumUp) (maxL := 3) (ret := (some .int)) (by decide) rfl ?_
  intro p e s m args below meth c s₁ B hml hv
  obtain ⟨rfl, hI, hK, hE⟩ := hv
  have hx := B.exec
  have hb := B.bytes
  have hr := B.returns
  have hts := atoms_spec (ws := wq_c_X6_sumUp) B.pre
  have hown : s.vm.findClass RX6 = some m.cls := findClass_of_methodNamed B.named
  have hlocks := B.notSynchronized
  have hS : va_S A s.heap s.heap [] := va_S.rf
  have hk0 : Kp g [10] f f := Kp.rf
  have hl := lv_entry ([.ref h0]) (n := 3) (Nat.le_of_ble_eq_true rfl)
  rw [lg_entry_eq]
  generalize (lg_sl ([.ref h0]) ++ List.replicate (3 - (lg_sl ([.ref h0])).length) Slot.unset).toArray = ls at hl ⊢
  have hl : lv_has ls 3 [(0, .ref h0)] := hl
  refine lv_iconst (v := 0) hx hb dX6_sumUp_0 (by decide) ?_
  refine lv_istore_n (lv' := [(1, .int 0), (0, .ref h0)]) hx hb dX6_sumUp_1 rfl hl (by decide) rfl (fun ls hl => ?_)
  refine lv_aload_n hx hb dX6_sumUp_2 rfl (lv_at hl 1 rfl) ?_
  obtain ⟨x_2, x_3, x_4, x_5, x_6, k_1, b_7, b_8⟩ := op_6 hI i_h0
  refine k_get (ci := 6) (v := .ref (gr g h0 3)) (C := RX6) (T := TX6) (N := 10) hx hb hts (fun _ h0_ => List.mem_cons_of_mem _ (List.mem_append_right _ (List.mem_append_left _ h0_))) hown hK hI i_h0.1 k_1 rfl 3 (by decide) (hts (.fieldLink RX6 27 "DeadlineShare$State" "sum" "LDeadlineShare$Wide;") (List.mem_cons_of_mem _ (List.mem_append_left _ (List.mem_of_getElem? (i := 0) rfl)))) (fun _ h9 => h9) rfl dX6_sumUp_3 ?_
  have i_10 := kw_6_3 hG i_h0
  refine lv_lconst (v := 0) hx hb dX6_sumUp_6 (by decide) ?_
  obtain ⟨x_12, x_13, k_11⟩ := op_10 hI i_10
  refine va_callv (va_runV (As := [.long 0]) (rest := []) ⟨hx, hb, hml, hown, hts⟩ (c_X10_set l dC dI g A hG f (gr g h0 3) 0 i_10) (cwV 1 hts (gi_V (fun w_ h0_ => ⟨List.mem_cons_of_mem _ (List.mem_append_right _ (List.mem_append_right _ (List.mem_append_left _ h0_))), (tb_c_X10_set w_ h0_).2⟩) (List.mem_cons_of_mem _ (List.mem_append_left _ (List.mem_of_getElem? (i := 1) rfl))) (List.mem_cons_of_mem _ (List.mem_append_left _ (List.mem_of_getElem? (i := 2) rfl))) (List.mem_cons_of_mem _ (List.mem_append_left _ (List.mem_of_getElem? (i := 3) rfl))) (List.mem_cons_of_mem _ (List.mem_append_left _ (List.mem_of_getElem? (i := 4) rfl)))) rfl rfl rfl (by decide +kernel) ⟨Nat.le_of_ble_eq_true rfl, Nat.le_of_ble_eq_true rfl⟩) ⟨fun a U g mk q => ⟨q.1, q.2.calling rfl rfl⟩, k_recv hK hI i_10.1 k_11 (ci := 10) rfl, fun U hU hW => ⟨rfl, kIn.of hI hK hE hS hU hW⟩⟩ rfl rfl hl.1 rfl (lv_room (Nat.le_of_ble_eq_true rfl)) dX6_sumUp_7 ⟨Nat.le_of_ble_eq_true rfl, Nat.le_of_ble_eq_true rfl⟩) hS (fun q _ h => h) (fun q h => h) (fun u t H1 locs ht hvm _ hB hz1 hk1 hS => ?_)
  obtain ⟨f_14, hI, kc_16⟩ := hB
  rw [ht] at hI
  have k_17 : f_14 h0 = .inr (6, [.ref (gr g h0 0), .ref (gr g h0 1), .ref (gr g h0 2), .ref (gr g h0 3), .ref (gr g h0 4), .int x_2, .int x_3, .long x_4, .int x_5, .int x_6]) := Kp.at kc_16 i_h0 (by decide) k_1
  have kp_18 := Kp.call hk0 kc_16 (by decide)
  generalize H1 = H at hI hS ⊢
  refine W.widen (k := 0) (n := 0) (Nat.le_of_ble_eq_true rfl) (Nat.le_of_ble_eq_true rfl) ?_
  refine lv_iconst (v := 0) hx hb dX6_sumUp_10 (by decide) ?_
  refine lv_istore_n (lv' := [(2, .int 0), (1, .int 0), (0, .ref h0)]) hx hb dX6_sumUp_11 rfl hl (by decide) rfl (fun ls hl => ?_)
  have K_12 : ∀ (nn : Nat) (y_19 : Int32) (y_20 : Int32) (f_21 : Nat → va_E) (H : Heap) (locs : List Loc) (ls : Array Slot), (12 - y_19.toInt).toNat < nn → Iv dC dI g A f_21 H → va_S A s.heap H locs → f_21 h0 = .inr (6, [.ref (gr g h0 0), .ref (gr g h0 1), .ref (gr g h0 2), .ref (gr g h0 3), .ref (gr g h0 4), .int x_2, .int x_3, .long x_4, .int x_5, .int x_6]) → Kp g [10] f f_21 → (0 ≤ y_19.toInt) → lv_has ls 3 [(2, .int y_19), (1, .int y_20), (0, .ref h0)] → W p l e (headSpec wq_c_X6_sumUp ({ frames := 1, cells := 0, slots := 0, locals := 26 } : Room)).room s m ([.ref h0].toArray) below meth c H locs 0 0 (MQ below (va_Qi (fun (r : Int32) (_ : Unit) => True) (fun (_ : Unit) t => ∃ f1 : Nat → va_E, Iv dC dI g A f1 t.heap ∧ Kp g [10] f f1) A) ([.ref h0].toArray) s 0 0 A) (F0 m 12 ls []) := by
    intro nn
    induction nn with
    | zero => intro y_19 y_20 f_21 H locs ls m_25; exact absurd m_25 (Nat.not_lt_zero _)
    | succ nn ih =>
      intro y_19 y_20 f_21 H locs ls m_25 hI hS k_22 kp_23 t_24 hl
      have g_26 := Int32.toInt_lt y_19
      have g_27 := Int32.le_toInt y_19
      refine lv_iload_n hx hb dX6_sumUp_12 rfl (lv_at hl 0 rfl) ?_
      refine lv_aload_n hx hb dX6_sumUp_13 rfl (lv_at hl 2 rfl) ?_
      refine k_get (ci := 6) (v := .int x_2) (C := RX6) (T := TX6) (N := 10) hx hb hts (fun _ h0_ => List.mem_cons_of_mem _ (List.mem_append_right _ (List.mem_append_left _ h0_))) hown hK hI i_h0.1 k_22 rfl 5 (by decide) (hts (.fieldLink RX6 48 "DeadlineShare$State" "count" "I") (List.mem_cons_of_mem _ (List.mem_append_left _ (List.mem_of_getElem? (i := 5) rfl)))) (fun _ h9 => h9) rfl dX6_sumUp_14 ?_
      refine lv_icmp_ge (tgt := 77) hx hb dX6_sumUp_17 (by decide) (fun c_28 => ?_) (fun c_28 => ?_)
      · have c_28 := kc_le rfl rfl c_28
        refine lv_iload_n hx hb dX6_sumUp_77 rfl (lv_at hl 1 rfl) ?_
        refine lv_if_le (tgt := 83) hx hb dX6_sumUp_78 (by decide) (fun c_29 => ?_) (fun c_29 => ?_)
        · have c_29 := kc_le rfl (by decide : Int32.toInt 0 = 0) c_29
          refine lv_aload_n hx hb dX6_sumUp_83 rfl (lv_at hl 2 rfl) ?_
          refine k_get (ci := 6) (v := .ref (gr g h0 3)) (C := RX6) (T := TX6) (N := 10) hx hb hts (fun _ h0_ => List.mem_cons_of_mem _ (List.mem_append_right _ (List.mem_append_left _ h0_))) hown hK hI i_h0.1 k_22 rfl 3 (by decide) (hts (.fieldLink RX6 27 "DeadlineShare$State" "sum" "LDeadlineShare$Wide;") (List.mem_cons_of_mem _ (List.mem_append_left _ (List.mem_of_getElem? (i := 0) rfl)))) (fun _ h9 => h9) rfl dX6_sumUp_84 ?_
          refine lv_aload_n hx hb dX6_sumUp_87 rfl (lv_at hl 2 rfl) ?_
          refine k_get (ci := 6) (v := .long x_4) (C := RX6) (T := TX6) (N := 10) hx hb hts (fun _ h0_ => List.mem_cons_of_mem _ (List.mem_append_right _ (List.mem_append_left _ h0_))) hown hK hI i_h0.1 k_22 rfl 7 (by decide) (hts (.fieldLink RX6 61 "DeadlineShare$State" "rest" "J") (List.mem_cons_of_mem _ (List.mem_append_left _ (List.mem_of_getElem? (i := 6) rfl)))) (fun _ h9 => h9) rfl dX6_sumUp_88 ?_
          obtain ⟨x_33, x_34, k_32⟩ := op_10 hI i_10
          refine va_callv (va_runV (As := [.long x_4]) (rest := []) ⟨hx, hb, hml, hown, hts⟩ (c_X10_set l dC dI g A hG f_21 (gr g h0 3) x_4 i_10) (cwV 1 hts (gi_V (fun w_ h0_ => ⟨List.mem_cons_of_mem _ (List.mem_append_right _ (List.mem_append_right _ (List.mem_append_left _ h0_))), (tb_c_X10_set w_ h0_).2⟩) (List.mem_cons_of_mem _ (List.mem_append_left _ (List.mem_of_getElem? (i := 1) rfl))) (List.mem_cons_of_mem _ (List.mem_append_left _ (List.mem_of_getElem? (i := 2) rfl))) (List.mem_cons_of_mem _ (List.mem_append_left _ (List.mem_of_getElem? (i := 3) rfl))) (List.mem_cons_of_mem _ (List.mem_append_left _ (List.mem_of_getElem? (i := 4) rfl)))) rfl rfl rfl (by decide +kernel) ⟨Nat.le_of_ble_eq_true rfl, Nat.le_of_ble_eq_true rfl⟩) ⟨fun a U g mk q => ⟨q.1, q.2.calling rfl rfl⟩, k_recv hK hI i_10.1 k_32 (ci := 10) rfl, fun U hU hW => ⟨rfl, kIn.of hI hK hE hS hU hW⟩⟩ rfl rfl hl.1 rfl (lv_room (Nat.le_of_ble_eq_true rfl)) dX6_sumUp_91 ⟨Nat.le_of_ble_eq_true rfl, Nat.le_of_ble_eq_true rfl⟩) hS (fun q _ h => h) (fun q h => h) (fun u t H1 locs ht hvm _ hB hz1 hk1 hS => ?_)
          obtain ⟨f_35, hI, kc_37⟩ := hB
          rw [ht] at hI
          have k_38 : f_35 h0 = .inr (6, [.ref (gr g h0 0), .ref (gr g h0 1), .ref (gr g h0 2), .ref (gr g h0 3), .ref (gr g h0 4), .int x_2, .int x_3, .long x_4, .int x_5, .int x_6]) := Kp.at kc_37 i_h0 (by decide) k_22
          have kp_39 := Kp.call kp_23 kc_37 (by decide)
          generalize H1 = H at hI hS ⊢
          refine W.widen (k := 0) (n := 0) (Nat.le_of_ble_eq_true rfl) (Nat.le_of_ble_eq_true rfl) ?_
          refine lv_iconst (v := 1) hx hb dX6_sumUp_94 (by decide) ?_
          exact W.iret (v := 1) hx hb hr (fun t ht hW => ⟨⟨1, (), rfl, trivial, ⟨f_35, k_ret ht hI, kp_39⟩⟩, hS.F ht⟩) hS.2.2 dX6_sumUp_95
        · have c_29 := kn_le rfl (by decide : Int32.toInt 0 = 0) c_29
          refine lv_iload_n hx hb dX6_sumUp_81 rfl (lv_at hl 1 rfl) ?_
          exact W.iret (v := y_20) hx hb hr (fun t ht hW => ⟨⟨y_20, (), rfl, trivial, ⟨f_21, k_ret ht hI, kp_23⟩⟩, hS.F ht⟩) hS.2.2 dX6_sumUp_82
      · have c_28 := kn_le rfl rfl c_28
        refine lv_aload_n hx hb dX6_sumUp_20 rfl (lv_at hl 2 rfl) ?_
        refine k_get (ci := 6) (v := .ref (gr g h0 1)) (C := RX6) (T := TX6) (N := 10) hx hb hts (fun _ h0_ => List.mem_cons_of_mem _ (List.mem_append_right _ (List.mem_append_left _ h0_))) hown hK hI i_h0.1 k_22 rfl 1 (by decide) (hts (.fieldLink RX6 11 "DeadlineShare$State" "tasks" "[LDeadlineShare$Task;") (List.mem_cons_of_mem _ (List.mem_append_left _ (List.mem_of_getElem? (i := 7) rfl)))) (fun _ h9 => h9) rfl dX6_sumUp_21 ?_
        have i_41 := kw_6_1 hG i_h0
        refine lv_iload_n hx hb dX6_sumUp_24 rfl (lv_at hl 0 rfl) ?_
        obtain ⟨q_43, k_42, b_44⟩ := op_20 hI i_41
        refine k_aald hx hb hK hI i_41.1 4 k_42 rfl (vp_in_iff.mpr (by omega)) b_44 (fun _ hj => kw_20 hG i_41 hj) dX6_sumUp_25 (fun a_45 i_46 => ?_)
        obtain ⟨x_48, x_49, x_50, x_51, x_52, x_53, x_54, x_55, x_56, x_57, x_58, x_59, x_60, x_61, x_62, x_63, k_47⟩ := op_8 hI i_46
        refine k_get (ci := 8) (v := .int x_51) (C := RX8) (T := TX8) (N := 18) hx hb hts (fun _ h0_ => List.mem_cons_of_mem _ (List.mem_append_right _ (List.mem_append_right _ (List.mem_append_right _ (List.mem_append_left _ h0_))))) hown hK hI i_46.1 k_47 rfl 4 (by decide) (hts (.fieldLink RX6 69 "DeadlineShare$Task" "state" "I") (List.mem_cons_of_mem _ (List.mem_append_left _ (List.mem_of_getElem? (i := 8) rfl)))) (fun _ h9 => h9) rfl dX6_sumUp_26 ?_
        refine lv_iconst (v := 1) hx hb dX6_sumUp_29 (by decide) ?_
        have J_71 : ∀ (y_64 : Int32) (f_65 : Nat → va_E) (H : Heap) (locs : List Loc) (ls : Array Slot), Iv dC dI g A f_65 H → va_S A s.heap H locs → f_65 h0 = .inr (6, [.ref (gr g h0 0), .ref (gr g h0 1), .ref (gr g h0 2), .ref (gr g h0 3), .ref (gr g h0 4), .int x_2, .int x_3, .long x_4, .int x_5, .int x_6]) → f_65 (gr g h0 1) = .inl (gc g 4, 12, .inr (.inr (.inr (.inr q_43)))) → f_65 a_45 = .inr (8, [.int x_48, .ref (gr g a_45 1), .int x_49, .int x_50, .int x_51, .long x_52, .int x_53, .ref (gr g a_45 7), .int x_54, .int x_55, .int x_56, .int x_57, .int x_58, .int x_59, .int x_60, .int x_61, .int x_62, .int x_63]) → Kp g [10] f f_65 → lv_has ls 3 [(2, .int y_19), (1, .int y_64), (0, .ref h0)] → W p l e (headSpec wq_c_X6_sumUp ({ frames := 1, cells := 0, slots := 0, locals := 26 } : Room)).room s m ([.ref h0].toArray) below meth c H locs 0 0 (MQ below (va_Qi (fun (r : Int32) (_ : Unit) => True) (fun (_ : Unit) t => ∃ f1 : Nat → va_E, Iv dC dI g A f1 t.heap ∧ Kp g [10] f f1) A) ([.ref h0].toArray) s 0 0 A) (F0 m 71 ls []) := by
          intro y_64 f_65 H locs ls hI hS k_66 k_67 k_68 kp_69 hl
          obtain ⟨v_70, ev_70⟩ : ∃ y : Int32, y = y_19 + Int32.ofInt 1 := ⟨_, rfl⟩
          refine lv_iinc (v := v_70) (lv' := [(2, .int v_70), (1, .int y_64), (0, .ref h0)]) hx hb dX6_sumUp_71 hl (k := 0) rfl ev_70.symm (by decide) rfl (fun ls hl => ?_)
          have tv_70 := k_inc y_19
          rw [← ev_70] at tv_70
          refine lv_goto (tgt := 12) hx hb dX6_sumUp_74 (by decide) ?_
          exact ih v_70 y_64 f_65 _ _ _ (by omega) hI hS k_66 kp_69 (by first | omega | decide) (lv_sub hl [0, 1, 2] rfl)
        refine lv_icmp_ne (tgt := 71) hx hb dX6_sumUp_30 (by decide) (fun c_71 => ?_) (fun c_71 => ?_)
        · have c_71 := kn_eq rfl (by decide : Int32.toInt 1 = 1) c_71
          exact J_71 y_20 f_21 _ _ _ hI hS k_22 k_42 k_47 kp_23 (lv_sub hl [0, 1, 2] rfl)
        · have c_71 := kc_eq rfl (by decide : Int32.toInt 1 = 1) c_71
          refine lv_aload_n hx hb dX6_sumUp_33 rfl (lv_at hl 2 rfl) ?_
          refine k_get (ci := 6) (v := .ref (gr g h0 3)) (C := RX6) (T := TX6) (N := 10) hx hb hts (fun _ h0_ => List.mem_cons_of_mem _ (List.mem_append_right _ (List.mem_append_left _ h0_))) hown hK hI i_h0.1 k_22 rfl 3 (by decide) (hts (.fieldLink RX6 27 "DeadlineShare$State" "sum" "LDeadlineShare$Wide;") (List.mem_cons_of_mem _ (List.mem_append_left _ (List.mem_of_getElem? (i := 0) rfl)))) (fun _ h9 => h9) rfl dX6_sumUp_34 ?_
          refine lv_aload_n hx hb dX6_sumUp_37 rfl (lv_at hl 2 rfl) ?_
          refine k_get (ci := 6) (v := .ref (gr g h0 1)) (C := RX6) (T := TX6) (N := 10) hx hb hts (fun _ h0_ => List.mem_cons_of_mem _ (List.mem_append_right _ (List.mem_append_left _ h0_))) hown hK hI i_h0.1 k_22 rfl 1 (by decide) (hts (.fieldLink RX6 11 "DeadlineShare$State" "tasks" "[LDeadlineShare$Task;") (List.mem_cons_of_mem _ (List.mem_append_left _ (List.mem_of_getElem? (i := 7) rfl)))) (fun _ h9 => h9) rfl dX6_sumUp_38 ?_
          refine lv_iload_n hx hb dX6_sumUp_41 rfl (lv_at hl 0 rfl) ?_
          refine k_aald hx hb hK hI i_41.1 4 k_42 rfl (vp_in_iff.mpr (by omega)) b_44 (fun _ hj => kw_20 hG i_41 hj) dX6_sumUp_42 (fun a_76 i_77 => ?_)
          obtain ⟨x_79, x_80, x_81, x_82, x_83, x_84, x_85, x_86, x_87, x_88, x_89, x_90, x_91, x_92, x_93, x_94, k_78⟩ := op_8 hI i_77
          refine k_get (ci := 8) (v := .int x_80) (C := RX8) (T := TX8) (N := 18) hx hb hts (fun _ h0_ => List.mem_cons_of_mem _ (List.mem_append_right _ (List.mem_append_right _ (List.mem_append_right _ (List.mem_append_left _ h0_))))) hown hK hI i_77.1 k_78 rfl 2 (by decide) (hts (.fieldLink RX6 72 "DeadlineShare$Task" "weight" "I") (List.mem_cons_of_mem _ (List.mem_append_left _ (List.mem_of_getElem? (i := 9) rfl)))) (fun _ h9 => h9) rfl dX6_sumUp_43 ?_
          refine lv_i2l (v := x_80.toInt64) hx hb dX6_sumUp_46 rfl ?_
          have t_95 := Int32.toInt_toInt64 x_80
          refine lv_aload_n hx hb dX6_sumUp_47 rfl (lv_at hl 2 rfl) ?_
          refine k_get (ci := 6) (v := .ref (gr g h0 1)) (C := RX6) (T := TX6) (N := 10) hx hb hts (fun _ h0_ => List.mem_cons_of_mem _ (List.mem_append_right _ (List.mem_append_left _ h0_))) hown hK hI i_h0.1 k_22 rfl 1 (by decide) (hts (.fieldLink RX6 11 "DeadlineShare$State" "tasks" "[LDeadlineShare$Task;") (List.mem_cons_of_mem _ (List.mem_append_left _ (List.mem_of_getElem? (i := 7) rfl)))) (fun _ h9 => h9) rfl dX6_sumUp_48 ?_
          refine lv_iload_n hx hb dX6_sumUp_51 rfl (lv_at hl 0 rfl) ?_
          refine k_aald hx hb hK hI i_41.1 4 k_42 rfl (vp_in_iff.mpr (by omega)) b_44 (fun _ hj => kw_20 hG i_41 hj) dX6_sumUp_52 (fun a_98 i_99 => ?_)
          obtain ⟨x_101, x_102, x_103, x_104, x_105, x_106, x_107, x_108, x_109, x_110, x_111, x_112, x_113, x_114, x_115, x_116, k_100⟩ := op_8 hI i_99
          refine k_get (ci := 8) (v := .long x_105) (C := RX8) (T := TX8) (N := 18) hx hb hts (fun _ h0_ => List.mem_cons_of_mem _ (List.mem_append_right _ (List.mem_append_right _ (List.mem_append_right _ (List.mem_append_left _ h0_))))) hown hK hI i_99.1 k_100 rfl 5 (by decide) (hts (.fieldLink RX6 79 "DeadlineShare$Task" "v" "J") (List.mem_cons_of_mem _ (List.mem_append_left _ (List.mem_of_getElem? (i := 10) rfl)))) (fun _ h9 => h9) rfl dX6_sumUp_53 ?_
          obtain ⟨x_118, x_119, k_117⟩ := op_10 hI i_10
          refine va_callv (va_runV (As := [.long x_80.toInt64, .long x_105]) (rest := []) ⟨hx, hb, hml, hown, hts⟩ (c_X10_addTimes l dC dI g A hG f_21 (gr g h0 3) x_80.toInt64 x_105 i_10) (cwV 2 hts (gi_V (fun w_ h0_ => ⟨List.mem_cons_of_mem _ (List.mem_append_right _ (List.mem_append_right _ (List.mem_append_right _ (List.mem_append_right _ (List.mem_append_left _ h0_))))), (tb_c_X10_addTimes w_ h0_).2⟩) (List.mem_cons_of_mem _ (List.mem_append_left _ (List.mem_of_getElem? (i := 11) rfl))) (List.mem_cons_of_mem _ (List.mem_append_left _ (List.mem_of_getElem? (i := 12) rfl))) (List.mem_cons_of_mem _ (List.mem_append_left _ (List.mem_of_getElem? (i := 13) rfl))) (List.mem_cons_of_mem _ (List.mem_append_left _ (List.mem_of_getElem? (i := 4) rfl)))) rfl rfl rfl (by decide +kernel) ⟨Nat.le_of_ble_eq_true rfl, Nat.le_of_ble_eq_true rfl⟩) ⟨fun a U g mk q => ⟨q.1, q.2.calling rfl rfl⟩, k_recv hK hI i_10.1 k_117 (ci := 10) rfl, fun U hU hW => ⟨rfl, kIn.of hI hK hE hS hU hW⟩⟩ rfl rfl hl.1 rfl (lv_room (Nat.le_of_ble_eq_true rfl)) dX6_sumUp_56 ⟨Nat.le_of_ble_eq_true rfl, Nat.le_of_ble_eq_true rfl⟩) hS (fun q _ h => h) (fun q h => h) (fun u t H1 locs ht hvm _ hB hz1 hk1 hS => ?_)
          obtain ⟨f_120, hI, kc_122⟩ := hB
          rw [ht] at hI
          have k_123 : f_120 h0 = .inr (6, [.ref (gr g h0 0), .ref (gr g h0 1), .ref (gr g h0 2), .ref (gr g h0 3), .ref (gr g h0 4), .int x_2, .int x_3, .long x_4, .int x_5, .int x_6]) := Kp.at kc_122 i_h0 (by decide) k_22
          have k_124 : f_120 (gr g h0 1) = .inl (gc g 4, 12, .inr (.inr (.inr (.inr q_43)))) := Kp.at kc_122 i_41 (by decide) k_42
          have k_125 : f_120 a_45 = .inr (8, [.int x_48, .ref (gr g a_45 1), .int x_49, .int x_50, .int x_51, .long x_52, .int x_53, .ref (gr g a_45 7), .int x_54, .int x_55, .int x_56, .int x_57, .int x_58, .int x_59, .int x_60, .int x_61, .int x_62, .int x_63]) := Kp.at kc_122 i_46 (by decide) k_47
          have k_126 : f_120 a_76 = .inr (8, [.int x_79, .ref (gr g a_76 1), .int x_80, .int x_81, .int x_82, .long x_83, .int x_84, .ref (gr g a_76 7), .int x_85, .int x_86, .int x_87, .int x_88, .int x_89, .int x_90, .int x_91, .int x_92, .int x_93, .int x_94]) := Kp.at kc_122 i_77 (by decide) k_78
          have k_127 : f_120 a_98 = .inr (8, [.int x_101, .ref (gr g a_98 1), .int x_102, .int x_103, .int x_104, .long x_105, .int x_106, .ref (gr g a_98 7), .int x_107, .int x_108, .int x_109, .int x_110, .int x_111, .int x_112, .int x_113, .int x_114, .int x_115, .int x_116]) := Kp.at kc_122 i_99 (by decide) k_100
          have kp_128 := Kp.call kp_23 kc_122 (by decide)
          generalize H1 = H at hI hS ⊢
          refine W.widen (k := 0) (n := 0) (Nat.le_of_ble_eq_true rfl) (Nat.le_of_ble_eq_true rfl) ?_
          refine lv_iload_n hx hb dX6_sumUp_59 rfl (lv_at hl 1 rfl) ?_
          refine lv_aload_n hx hb dX6_sumUp_60 rfl (lv_at hl 2 rfl) ?_
          refine k_get (ci := 6) (v := .ref (gr g h0 1)) (C := RX6) (T := TX6) (N := 10) hx hb hts (fun _ h0_ => List.mem_cons_of_mem _ (List.mem_append_right _ (List.mem_append_left _ h0_))) hown hK hI i_h0.1 k_123 rfl 1 (by decide) (hts (.fieldLink RX6 11 "DeadlineShare$State" "tasks" "[LDeadlineShare$Task;") (List.mem_cons_of_mem _ (List.mem_append_left _ (List.mem_of_getElem? (i := 7) rfl)))) (fun _ h9 => h9) rfl dX6_sumUp_61 ?_
          refine lv_iload_n hx hb dX6_sumUp_64 rfl (lv_at hl 0 rfl) ?_
          refine k_aald hx hb hK hI i_41.1 4 k_124 rfl (vp_in_iff.mpr (by omega)) b_44 (fun _ hj => kw_20 hG i_41 hj) dX6_sumUp_65 (fun a_131 i_132 => ?_)
          obtain ⟨x_134, x_135, x_136, x_137, x_138, x_139, x_140, x_141, x_142, x_143, x_144, x_145, x_146, x_147, x_148, x_149, k_133⟩ := op_8 hI i_132
          refine k_get (ci := 8) (v := .int x_135) (C := RX8) (T := TX8) (N := 18) hx hb hts (fun _ h0_ => List.mem_cons_of_mem _ (List.mem_append_right _ (List.mem_append_right _ (List.mem_append_right _ (List.mem_append_left _ h0_))))) hown hK hI i_132.1 k_133 rfl 2 (by decide) (hts (.fieldLink RX6 72 "DeadlineShare$Task" "weight" "I") (List.mem_cons_of_mem _ (List.mem_append_left _ (List.mem_of_getElem? (i := 9) rfl)))) (fun _ h9 => h9) rfl dX6_sumUp_66 ?_
          refine lv_iadd hx hb dX6_sumUp_69 ?_
          refine lv_topi (fun v_150 ev_150 => ?_)
          have tv_150 := k_ad y_20 x_135
          rw [← ev_150] at tv_150
          refine lv_istore_n (lv' := [(1, .int v_150), (2, .int y_19), (0, .ref h0)]) hx hb dX6_sumUp_70 rfl hl (by decide) rfl (fun ls hl => ?_)
          exact J_71 v_150 f_120 _ _ _ hI hS k_123 k_124 k_125 kp_128 (lv_sub hl [1, 0, 2] rfl)
  exact K_12 _ 0 0 f_14 _ _ _ (Nat.lt_succ_self _) hI hS k_17 kp_18 (by first | omega | decide | (simp only [show Int32.toInt 0 = 0 from by decide, show Int32.toInt 0 = 0 from by decide]; omega)) (lv_sub hl [0, 1, 2] rfl)
theorem tw_32 : q_g (.code yJ9_floorMod_f86c9 cJ9_floorMod_f86c9 6 (some .long)) := ⟨(List.mem_append_right _ (List.mem_of_getElem? (i := 537) (by decide +kernel))), good_of_word (by decide +kernel)⟩
def ow_c_J9_floorMod_f86c9 : List Cond := []
def wq_c_J9_floorMod_f86c9 : List Cond := .code yJ9_floorMod_f86c9 cJ9_floorMod_f86c9 6 (some .long) :: (ow_c_J9_floorMod_f86c9 ++ ([] : List Cond))
theorem tb_c_J9_floorMod_f86c9 : ∀ w ∈ wq_c_J9_floorMod_f86c9, q_g w := by
  unfold wq_c_J9_floorMod_f86c9 ow_c_J9_floorMod_f86c9
  exact q_cons tw_32 (q_app q_nil q_nil)
set_option maxHeartbeats 4000000 in
set_option maxRecDepth 100000 in
theorem c_J9_floorMod_f86c9 (l : Launch) (dC : Nat → ClassId) (dI : Nat → Nat → Nat) (g : kG) (A : Nat → Prop) (hG : kWf g) (f : Nat → va_E) (p1 : Int64) (p2 : Int64) (hy : p2.toInt ≠ 0) : Met l yJ9_floorMod_f86c9 wq_c_J9_floorMod_f86c9 ({ frames := 0, cells := 0, slots := 0, locals := 0 } : Room) (va_Pc [.long p1, .long p2] (fun U => kIn dC dI g A f U)) (va_Ql (fun (r : Int64) (_ : Unit) => True) (fun (_ : Unit) t => Iv dC dI g A f t.heap) A) 0 0 A := by
  refine va_MetF (cc := cJ9_floorMod_f86c9) (maxL := 6) (ret := (some .long)) (by decide +kernel) rfl ?_
  intro p e s m args below meth c s₁ B hml hv
  obtain ⟨rfl, hI, hK, hE⟩ := hv
  have hx := B.exec
  have hb := B.bytes
  have hr := B.returns
  have hts := atoms_spec (ws := wq_c_J9_floorMod_f86c9) B.pre
  have hown : s.vm.findClass RJ9 = some m.cls := findClass_of_methodNamed B.named
  have hlocks := B.notSynchronized
  have hS : va_S A s.heap s.heap [] := va_S.rf
  have hl := lv_entry ([.long p1, .long p2]) (n := 6) (Nat.le_of_ble_eq_true rfl)
  rw [lg_entry_eq]
  generalize (lg_sl ([.long p1, .long p2]) ++ List.replicate (6 - (lg_sl ([.long p1, .long p2])).length) Slot.unset).toArray = ls at hl ⊢
  have hl : lv_has ls 6 [(0, .long p1), (2, .long p2)] := hl
  refine lv_lload_n hx hb dJ9_floorMod_f86c9_0 rfl (lv_at hl 0 rfl) ?_
  refine lv_lload_n hx hb dJ9_floorMod_f86c9_1 rfl (lv_at hl 1 rfl) ?_
  refine lv_lrem hx hb dJ9_floorMod_f86c9_2 (k_ne0L (by omega)) ?_
  refine lv_topl (fun v_1 ev_1 => ?_)
  refine lv_lstore (lv' := [(4, .long v_1), (0, .long p1), (2, .long p2)]) hx hb dJ9_floorMod_f86c9_3 hl (by decide) rfl (fun ls hl => ?_)
  refine lv_lload_n hx hb dJ9_floorMod_f86c9_5 rfl (lv_at hl 1 rfl) ?_
  refine lv_lload_n hx hb dJ9_floorMod_f86c9_6 rfl (lv_at hl 2 rfl) ?_
  refine lv_lxor hx hb dJ9_floorMod_f86c9_7 ?_
  refine lv_topl (fun v_2 ev_2 => ?_)
  refine lv_lconst (v := 0) hx hb dJ9_floorMod_f86c9_8 (by decide) ?_
  refine W.lcmp hx hb dJ9_floorMod_f86c9_9 ?_
  refine lv_if_ge (tgt := 25) hx hb dJ9_floorMod_f86c9_10 (by decide) (fun c_3 => ?_) (fun c_3 => ?_)
  · have c_3 := lc_le (by decide : Int64.toInt 0 = 0) rfl ((lg_cmp_ge _ _).mp c_3)
    refine lv_lload hx hb dJ9_floorMod_f86c9_25 (lv_at hl 0 rfl) ?_
    exact W.lret (v := v_1) hx hb hr (fun t ht hW => ⟨⟨v_1, (), rfl, trivial, k_ret ht hI⟩, hS.F ht⟩) hS.2.2 dJ9_floorMod_f86c9_27
  · have c_3 := ln_le (by decide : Int64.toInt 0 = 0) rfl (fun h9 => c_3 ((lg_cmp_ge _ _).mpr h9))
    refine lv_lload hx hb dJ9_floorMod_f86c9_13 (lv_at hl 0 rfl) ?_
    refine lv_lconst (v := 0) hx hb dJ9_floorMod_f86c9_15 (by decide) ?_
    refine W.lcmp hx hb dJ9_floorMod_f86c9_16 ?_
    refine lv_if_eq (tgt := 25) hx hb dJ9_floorMod_f86c9_17 (by decide) (fun c_4 => ?_) (fun c_4 => ?_)
    · have c_4 := lc_eq rfl (by decide : Int64.toInt 0 = 0) ((lg_cmp_eq _ _).mp c_4)
      refine lv_lload hx hb dJ9_floorMod_f86c9_25 (lv_at hl 0 rfl) ?_
      exact W.lret (v := v_1) hx hb hr (fun t ht hW => ⟨⟨v_1, (), rfl, trivial, k_ret ht hI⟩, hS.F ht⟩) hS.2.2 dJ9_floorMod_f86c9_27
    · have c_4 := ln_eq rfl (by decide : Int64.toInt 0 = 0) (fun h9 => c_4 ((lg_cmp_eq _ _).mpr h9))
      refine lv_lload hx hb dJ9_floorMod_f86c9_20 (lv_at hl 0 rfl) ?_
      refine lv_lload_n hx hb dJ9_floorMod_f86c9_22 rfl (lv_at hl 2 rfl) ?_
      refine lv_ladd hx hb dJ9_floorMod_f86c9_23 ?_
      refine lv_topl (fun v_5 ev_5 => ?_)
      exact W.lret (v := v_5) hx hb hr (fun t ht hW => ⟨⟨v_5, (), rfl, trivial, k_ret ht hI⟩, hS.F ht⟩) hS.2.2 dJ9_floorMod_f86c9_24
theorem tw_33 : q_g (.code yJ9_floorDiv_f86c9 cJ9_floorDiv_f86c9 6 (some .long)) := ⟨(List.mem_append_right _ (List.mem_of_getElem? (i := 540) (by decide +kernel))), good_of_word (by decide +kernel)⟩
def ow_c_J9_floorDiv_f86c9 : List Cond := []
def wq_c_J9_floorDiv_f86c9 : List Cond := .code yJ9_floorDiv_f86c9 cJ9_floorDiv_f86c9 6 (some .long) :: (ow_c_J9_floorDiv_f86c9 ++ ([] : List Cond))
theorem tb_c_J9_floorDiv_f86c9 : ∀ w ∈ wq_c_J9_floorDiv_f86c9, q_g w := by
  unfold wq_c_J9_floorDiv_f86c9 ow_c_J9_floorDiv_f86c9
  exact q_cons tw_33 (q_app q_nil q_nil)
set_option maxHeartbeats 4000000 in
set_option maxRecDepth 100000 in
theorem c_J9_floorDiv_f86c9 (l : Launch) (dC : Nat → ClassId) (dI : Nat → Nat → Nat) (g : kG) (A : Nat → Prop) (hG : kWf g) (f : Nat → va_E) (p1 : Int64) (p2 : Int64) (hy : p2.toInt ≠ 0) : Met l yJ9_floorDiv_f86c9 wq_c_J9_floorDiv_f86c9 ({ frames := 0, cells := 0, slots := 0, locals := 0 } : Room) (va_Pc [.long p1, .long p2] (fun U => kIn dC dI g A f U)) (va_Ql (fun (r : Int64) (_ : Unit) => True) (fun (_ : Unit) t => Iv dC dI g A f t.heap) A) 0 0 A := by
  refine va_MetF (cc := cJ9_floorDiv_f86c9) (maxL := 6) (ret := (some .long)) (by decide +kernel) rfl ?_
  intro p e s m args below meth c s₁ B hml hv
  obtain ⟨rfl, hI, hK, hE⟩ := hv
  have hx := B.exec
  have hb := B.bytes
  have hr := B.returns
  have hts := atoms_spec (ws := wq_c_J9_floorDiv_f86c9) B.pre
  have hown : s.vm.findClass RJ9 = some m.cls := findClass_of_methodNamed B.named
  have hlocks := B.notSynchronized
  have hS : va_S A s.heap s.heap [] := va_S.rf
  have hl := lv_entry ([.long p1, .long p2]) (n := 6) (Nat.le_of_ble_eq_true rfl)
  rw [lg_entry_eq]
  generalize (lg_sl ([.long p1, .long p2]) ++ List.replicate (6 - (lg_sl ([.long p1, .long p2])).length) Slot.unset).toArray = ls at hl ⊢
  have hl : lv_has ls 6 [(0, .long p1), (2, .long p2)] := hl
  refine lv_lload_n hx hb dJ9_floorDiv_f86c9_0 rfl (lv_at hl 0 rfl) ?_
  refine lv_lload_n hx hb dJ9_floorDiv_f86c9_1 rfl (lv_at hl 1 rfl) ?_
  refine lv_ldiv hx hb dJ9_floorDiv_f86c9_2 (k_ne0L (by omega)) ?_
  refine lv_topl (fun v_1 ev_1 => ?_)
  refine lv_lstore (lv' := [(4, .long v_1), (0, .long p1), (2, .long p2)]) hx hb dJ9_floorDiv_f86c9_3 hl (by decide) rfl (fun ls hl => ?_)
  refine lv_lload_n hx hb dJ9_floorDiv_f86c9_5 rfl (lv_at hl 1 rfl) ?_
  refine lv_lload_n hx hb dJ9_floorDiv_f86c9_6 rfl (lv_at hl 2 rfl) ?_
  refine lv_lxor hx hb dJ9_floorDiv_f86c9_7 ?_
  refine lv_topl (fun v_2 ev_2 => ?_)
  refine lv_lconst (v := 0) hx hb dJ9_floorDiv_f86c9_8 (by decide) ?_
  refine W.lcmp hx hb dJ9_floorDiv_f86c9_9 ?_
  refine lv_if_ge (tgt := 27) hx hb dJ9_floorDiv_f86c9_10 (by decide) (fun c_3 => ?_) (fun c_3 => ?_)
  · have c_3 := lc_le (by decide : Int64.toInt 0 = 0) rfl ((lg_cmp_ge _ _).mp c_3)
    refine lv_lload hx hb dJ9_floorDiv_f86c9_27 (lv_at hl 0 rfl) ?_
    exact W.lret (v := v_1) hx hb hr (fun t ht hW => ⟨⟨v_1, (), rfl, trivial, k_ret ht hI⟩, hS.F ht⟩) hS.2.2 dJ9_floorDiv_f86c9_29
  · have c_3 := ln_le (by decide : Int64.toInt 0 = 0) rfl (fun h9 => c_3 ((lg_cmp_ge _ _).mpr h9))
    refine lv_lload hx hb dJ9_floorDiv_f86c9_13 (lv_at hl 0 rfl) ?_
    refine lv_lload_n hx hb dJ9_floorDiv_f86c9_15 rfl (lv_at hl 2 rfl) ?_
    refine lv_lmul hx hb dJ9_floorDiv_f86c9_16 ?_
    refine lv_topl (fun v_4 ev_4 => ?_)
    refine lv_lload_n hx hb dJ9_floorDiv_f86c9_17 rfl (lv_at hl 1 rfl) ?_
    refine W.lcmp hx hb dJ9_floorDiv_f86c9_18 ?_
    refine lv_if_eq (tgt := 27) hx hb dJ9_floorDiv_f86c9_19 (by decide) (fun c_5 => ?_) (fun c_5 => ?_)
    · have c_5 := lc_eq rfl rfl ((lg_cmp_eq _ _).mp c_5)
      refine lv_lload hx hb dJ9_floorDiv_f86c9_27 (lv_at hl 0 rfl) ?_
      exact W.lret (v := v_1) hx hb hr (fun t ht hW => ⟨⟨v_1, (), rfl, trivial, k_ret ht hI⟩, hS.F ht⟩) hS.2.2 dJ9_floorDiv_f86c9_29
    · have c_5 := ln_eq rfl rfl (fun h9 => c_5 ((lg_cmp_eq _ _).mpr h9))
      refine lv_lload hx hb dJ9_floorDiv_f86c9_22 (lv_at hl 0 rfl) ?_
      refine lv_lconst (v := 1) hx hb dJ9_floorDiv_f86c9_24 (by decide) ?_
      refine lv_lsub hx hb dJ9_floorDiv_f86c9_25 ?_
      refine lv_topl (fun v_6 ev_6 => ?_)
      exact W.lret (v := v_6) hx hb hr (fun t ht hW => ⟨⟨v_6, (), rfl, trivial, k_ret ht hI⟩, hS.F ht⟩) hS.2.2 dJ9_floorDiv_f86c9_26
theorem tw_34 : q_g (.static yJ9_floorDiv_f86c9) := ⟨(List.mem_append_right _ (List.mem_of_getElem? (i := 539) (by decide +kernel))), good_of_word (by decide +kernel)⟩
theorem tw_35 : q_g (.methodLink RX10 24 yJ9_floorDiv_f86c9) := ⟨(List.mem_append_right _ (List.mem_of_getElem? (i := 538) (by decide +kernel))), good_of_word (by decide +kernel)⟩
theorem tw_36 : q_g (.initialized RJ9) := ⟨(List.mem_append_right _ (List.mem_of_getElem? (i := 15) (by decide +kernel))), good_of_word (by decide +kernel)⟩
theorem tw_37 : q_g (.static yJ9_floorMod_f86c9) := ⟨(List.mem_append_right _ (List.mem_of_getElem? (i := 536) (by decide +kernel))), good_of_word (by decide +kernel)⟩
theorem tw_38 : q_g (.methodLink RX10 18 yJ9_floorMod_f86c9) := ⟨(List.mem_append_right _ (List.mem_of_getElem? (i := 535) (by decide +kernel))), good_of_word (by decide +kernel)⟩
theorem tw_39 : q_g (.code yX10_divide cX10_divide 3 none) := ⟨(List.mem_append_right _ (List.mem_of_getElem? (i := 534) (by decide +kernel))), good_of_word (by decide +kernel)⟩
def ow_c_X10_divide : List Cond := [.fieldLink RX10 9 "DeadlineShare$Wide" "high" "J", .methodLink RX10 18 yJ9_floorMod_f86c9, .static yJ9_floorMod_f86c9, .initialized RJ9, .fieldLink RX10 15 "DeadlineShare$Wide" "low" "J", .methodLink RX10 24 yJ9_floorDiv_f86c9, .static yJ9_floorDiv_f86c9]
def wq_c_X10_divide : List Cond := .code yX10_divide cX10_divide 3 none :: (ow_c_X10_divide ++ (u_ws RX10 TX10 2 ++ (wq_c_J9_floorMod_f86c9 ++ (wq_c_J9_floorDiv_f86c9 ++ ([] : List Cond)))))
theorem tb_c_X10_divide : ∀ w ∈ wq_c_X10_divide, q_g w := by
  unfold wq_c_X10_divide ow_c_X10_divide
  exact q_cons tw_39 (q_app (q_cons tw_17 (q_cons tw_38 (q_cons tw_37 (q_cons tw_36 (q_cons tw_15 (q_cons tw_35 (q_cons tw_34 q_nil))))))) (q_app tu_X10 (q_app tb_c_J9_floorMod_f86c9 (q_app tb_c_J9_floorDiv_f86c9 q_nil))))
set_option maxHeartbeats 4000000 in
set_option maxRecDepth 100000 in
theorem c_X10_divide (l : Launch) (dC : Nat → ClassId) (dI : Nat → Nat → Nat) (g : kG) (A : Nat → Prop) (hG : kWf g) (f : Nat → va_E) (h0 : Nat) (p1 : Int64) (i_h0 : ik g 10 h0) : Met l yX10_divide wq_c_X10_divide ({ frames := 1, cells := 0, slots := 0, locals := 25 } : Room) (va_Pc [.ref h0, .long p1] (fun U => kIn dC dI g A f U)) (va_Qv (fun (_ : Unit) => True) (fun (_ : Unit) t => ∃ f1 : Nat → va_E, Iv dC dI g A f1 t.heap ∧ Kp g [10] f f1) A) 0 0 A := by
  refine Met.ofW (cc := cX10_divide) (maxL := 3) (ret := none) (by decide) rfl ?_
  intro p e s m args below meth c s₁ B hml hv
  obtain ⟨rfl, hI, hK, hE⟩ := hv
  have hx := B.exec
  have hb := B.bytes
  have hr := B.returns
  have hts := atoms_spec (ws := wq_c_X10_divide) B.pre
  have hown : s.vm.findClass RX10 = some m.cls := findClass_of_methodNamed B.named
  have hlocks := B.notSynchronized
  have hS : va_S A s.heap s.heap [] := va_S.rf
  have hk0 : Kp g [10] f f := Kp.rf
  have hl := lv_entry ([.ref h0, .long p1]) (n := 3) (Nat.le_of_ble_eq_true rfl)
  rw [lg_entry_eq]
  generalize (lg_sl ([.ref h0, .long p1]) ++ List.replicate (3 - (lg_sl ([.ref h0, .long p1])).length) Slot.unset).toArray = ls at hl ⊢
  have hl : lv_has ls 3 [(0, .ref h0), (1, .long p1)] := hl
  refine lv_lload_n hx hb dX10_divide_0 rfl (lv_at hl 1 rfl) ?_
  refine lv_lconst (v := 0) hx hb dX10_divide_1 (by decide) ?_
  refine W.lcmp hx hb dX10_divide_2 ?_
  refine lv_if_le (tgt := 40) hx hb dX10_divide_3 (by decide) (fun c_1 => ?_) (fun c_1 => ?_)
  · have c_1 := lc_le rfl (by decide : Int64.toInt 0 = 0) ((lg_cmp_le _ _).mp c_1)
    exact W.vret hx hb hr (fun t ht hW => ⟨⟨(), rfl, trivial, ⟨f, k_ret ht hI, hk0⟩⟩, hS.F ht⟩) hS.2.2 dX10_divide_40
  · have c_1 := ln_le rfl (by decide : Int64.toInt 0 = 0) (fun h9 => c_1 ((lg_cmp_le _ _).mpr h9))
    refine lv_aload_n hx hb dX10_divide_6 rfl (lv_at hl 0 rfl) ?_
    refine lv_aload_n hx hb dX10_divide_7 rfl (lv_at hl 0 rfl) ?_
    obtain ⟨x_3, x_4, k_2⟩ := op_10 hI i_h0
    refine k_get (ci := 10) (v := .long x_3) (C := RX10) (T := TX10) (N := 2) hx hb hts (fun _ h0_ => List.mem_cons_of_mem _ (List.mem_append_right _ (List.mem_append_left _ h0_))) hown hK hI i_h0.1 k_2 rfl 0 (by decide) (hts (.fieldLink RX10 9 "DeadlineShare$Wide" "high" "J") (List.mem_cons_of_mem _ (List.mem_append_left _ (List.mem_of_getElem? (i := 0) rfl)))) (fun _ h9 => h9) rfl dX10_divide_8 ?_
    refine lv_lload_n hx hb dX10_divide_11 rfl (lv_at hl 1 rfl) ?_
    refine va_calll (va_runS (As := [.long x_3, .long p1]) (rest := [.ref h0]) ⟨hx, hb, hml, hown, hts⟩ (c_J9_floorMod_f86c9 l dC dI g A hG f x_3 p1 (by omega)) (va_cwS 2 hts (gi_S (fun w_ h0_ => ⟨List.mem_cons_of_mem _ (List.mem_append_right _ (List.mem_append_right _ (List.mem_append_left _ h0_))), (tb_c_J9_floorMod_f86c9 w_ h0_).2⟩) (List.mem_cons_of_mem _ (List.mem_append_left _ (List.mem_of_getElem? (i := 1) rfl))) (List.mem_cons_of_mem _ (List.mem_append_left _ (List.mem_of_getElem? (i := 2) rfl))) (List.mem_cons_of_mem _ (List.mem_append_left _ (List.mem_of_getElem? (i := 3) rfl)))) rfl rfl rfl (by decide +kernel) ⟨Nat.le_of_ble_eq_true rfl, Nat.le_of_ble_eq_true rfl⟩) ⟨fun a U g mk q => ⟨q.1, q.2.calling rfl rfl⟩, fun U hU hW => ⟨rfl, kIn.of hI hK hE hS hU hW⟩⟩ rfl rfl hl.1 rfl (lv_room (Nat.le_of_ble_eq_true rfl)) dX10_divide_12 ⟨Nat.le_of_ble_eq_true rfl, Nat.le_of_ble_eq_true rfl⟩) hS (fun q _ h => h) (fun q h => h) (fun r_6 u t H1 locs ht hvm w_5 hB hz1 hk1 hS => ?_)
    have hI : Iv dC dI g A f t.heap := hB
    rw [ht] at hI
    generalize H1 = H at hI hS ⊢
    refine W.widen (k := 0) (n := 0) (Nat.le_of_ble_eq_true rfl) (Nat.le_of_ble_eq_true rfl) ?_
    refine lv_bipush (v := 32) hx hb dX10_divide_15 (by decide) ?_
    refine lv_lshl hx hb dX10_divide_17 rfl ?_
    refine lv_topl (fun v_7 ev_7 => ?_)
    refine lv_aload_n hx hb dX10_divide_18 rfl (lv_at hl 0 rfl) ?_
    refine k_get (ci := 10) (v := .long x_4) (C := RX10) (T := TX10) (N := 2) hx hb hts (fun _ h0_ => List.mem_cons_of_mem _ (List.mem_append_right _ (List.mem_append_left _ h0_))) hown hK hI i_h0.1 k_2 rfl 1 (by decide) (hts (.fieldLink RX10 15 "DeadlineShare$Wide" "low" "J") (List.mem_cons_of_mem _ (List.mem_append_left _ (List.mem_of_getElem? (i := 4) rfl)))) (fun _ h9 => h9) rfl dX10_divide_19 ?_
    refine lv_lor hx hb dX10_divide_22 ?_
    refine lv_topl (fun v_8 ev_8 => ?_)
    refine lv_lload_n hx hb dX10_divide_23 rfl (lv_at hl 1 rfl) ?_
    refine lv_ldiv hx hb dX10_divide_24 (k_ne0L (by omega)) ?_
    refine lv_topl (fun v_9 ev_9 => ?_)
    refine k_put (ci := 10) (v := .long v_9) (ty := .long) (C := RX10) (T := TX10) (N := 2) hx hb hts (fun _ h0_ => List.mem_cons_of_mem _ (List.mem_append_right _ (List.mem_append_left _ h0_))) tyX10 tyX10_ok nmX10 hown hK hI hS i_h0.1 k_2 rfl 1 (by decide) (hts (.fieldLink RX10 15 "DeadlineShare$Wide" "low" "J") (List.mem_cons_of_mem _ (List.mem_append_left _ (List.mem_of_getElem? (i := 4) rfl)))) (fun _ h9 => h9) rfl (by decide +kernel) rfl rfl (Nat.le_of_ble_eq_true rfl) rfl (cl_10 i_h0) dX10_divide_25 (fun f_10 H locs e_11 hI hS => ?_)
    have k_13 : f_10 h0 = .inr (10, [.long x_3, .long v_9]) := by rw [e_11]; exact va_up_self _ _ _
    have kp_12 := Kp.put hk0 i_h0 (by decide) e_11
    refine lv_aload_n hx hb dX10_divide_28 rfl (lv_at hl 0 rfl) ?_
    refine lv_aload_n hx hb dX10_divide_29 rfl (lv_at hl 0 rfl) ?_
    refine k_get (ci := 10) (v := .long x_3) (C := RX10) (T := TX10) (N := 2) hx hb hts (fun _ h0_ => List.mem_cons_of_mem _ (List.mem_append_right _ (List.mem_append_left _ h0_))) hown hK hI i_h0.1 k_13 rfl 0 (by decide) (hts (.fieldLink RX10 9 "DeadlineShare$Wide" "high" "J") (List.mem_cons_of_mem _ (List.mem_append_left _ (List.mem_of_getElem? (i := 0) rfl)))) (fun _ h9 => h9) rfl dX10_divide_30 ?_
    refine lv_lload_n hx hb dX10_divide_33 rfl (lv_at hl 1 rfl) ?_
    refine va_calll (va_runS (As := [.long x_3, .long p1]) (rest := [.ref h0]) ⟨hx, hb, hml, hown, hts⟩ (c_J9_floorDiv_f86c9 l dC dI g A hG f_10 x_3 p1 (by omega)) (va_cwS 2 hts (gi_S (fun w_ h0_ => ⟨List.mem_cons_of_mem _ (List.mem_append_right _ (List.mem_append_right _ (List.mem_append_right _ (List.mem_append_left _ h0_)))), (tb_c_J9_floorDiv_f86c9 w_ h0_).2⟩) (List.mem_cons_of_mem _ (List.mem_append_left _ (List.mem_of_getElem? (i := 5) rfl))) (List.mem_cons_of_mem _ (List.mem_append_left _ (List.mem_of_getElem? (i := 6) rfl))) (List.mem_cons_of_mem _ (List.mem_append_left _ (List.mem_of_getElem? (i := 3) rfl)))) rfl rfl rfl (by decide +kernel) ⟨Nat.le_of_ble_eq_true rfl, Nat.le_of_ble_eq_true rfl⟩) ⟨fun a U g mk q => ⟨q.1, q.2.calling rfl rfl⟩, fun U hU hW => ⟨rfl, kIn.of hI hK hE hS hU hW⟩⟩ rfl rfl hl.1 rfl (lv_room (Nat.le_of_ble_eq_true rfl)) dX10_divide_34 ⟨Nat.le_of_ble_eq_true rfl, Nat.le_of_ble_eq_true rfl⟩) hS (fun q _ h => h) (fun q h => h) (fun r_15 u t H1 locs ht hvm w_14 hB hz1 hk1 hS => ?_)
    have hI : Iv dC dI g A f_10 t.heap := hB
    rw [ht] at hI
    generalize H1 = H at hI hS ⊢
    refine W.widen (k := 0) (n := 0) (Nat.le_of_ble_eq_true rfl) (Nat.le_of_ble_eq_true rfl) ?_
    refine k_put (ci := 10) (v := .long r_15) (ty := .long) (C := RX10) (T := TX10) (N := 2) hx hb hts (fun _ h0_ => List.mem_cons_of_mem _ (List.mem_append_right _ (List.mem_append_left _ h0_))) tyX10 tyX10_ok nmX10 hown hK hI hS i_h0.1 k_13 rfl 0 (by decide) (hts (.fieldLink RX10 9 "DeadlineShare$Wide" "high" "J") (List.mem_cons_of_mem _ (List.mem_append_left _ (List.mem_of_getElem? (i := 0) rfl)))) (fun _ h9 => h9) rfl (by decide +kernel) rfl rfl (Nat.le_of_ble_eq_true rfl) rfl (cl_10 i_h0) dX10_divide_37 (fun f_16 H locs e_17 hI hS => ?_)
    have k_19 : f_16 h0 = .inr (10, [.long r_15, .long v_9]) := by rw [e_17]; exact va_up_self _ _ _
    have kp_18 := Kp.put kp_12 i_h0 (by decide) e_17
    exact W.vret hx hb hr (fun t ht hW => ⟨⟨(), rfl, trivial, ⟨f_16, k_ret ht hI, kp_18⟩⟩, hS.F ht⟩) hS.2.2 dX10_divide_40
theorem tw_40 : q_g (.code yX10_asLong cX10_asLong 1 (some .long)) := ⟨(List.mem_append_right _ (List.mem_of_getElem? (i := 544) (by decide +kernel))), good_of_word (by decide +kernel)⟩
def ow_c_X10_asLong : List Cond := [.fieldLink RX10 9 "DeadlineShare$Wide" "high" "J", .fieldLink RX10 15 "DeadlineShare$Wide" "low" "J"]
def wq_c_X10_asLong : List Cond := .code yX10_asLong cX10_asLong 1 (some .long) :: (ow_c_X10_asLong ++ (u_ws RX10 TX10 2 ++ ([] : List Cond)))
theorem tb_c_X10_asLong : ∀ w ∈ wq_c_X10_asLong, q_g w := by
  unfold wq_c_X10_asLong ow_c_X10_asLong
  exact q_cons tw_40 (q_app (q_cons tw_17 (q_cons tw_15 q_nil)) (q_app tu_X10 q_nil))
set_option maxHeartbeats 4000000 in
set_option maxRecDepth 100000 in
theorem c_X10_asLong (l : Launch) (dC : Nat → ClassId) (dI : Nat → Nat → Nat) (g : kG) (A : Nat → Prop) (hG : kWf g) (f : Nat → va_E) (h0 : Nat) (i_h0 : ik g 10 h0) : Met l yX10_asLong wq_c_X10_asLong ({ frames := 0, cells := 0, slots := 0, locals := 0 } : Room) (va_Pc [.ref h0] (fun U => kIn dC dI g A f U)) (va_Ql (fun (r : Int64) (_ : Unit) => True) (fun (_ : Unit) t => Iv dC dI g A f t.heap) A) 0 0 A := by
  refine Met.ofW (cc := cX10_asLong) (maxL := 1) (ret := (some .long)) (by decide) rfl ?_
  intro p e s m args below meth c s₁ B hml hv
  obtain ⟨rfl, hI, hK, hE⟩ := hv
  have hx := B.exec
  have hb := B.bytes
  have hr := B.returns
  have hts := atoms_spec (ws := wq_c_X10_asLong) B.pre
  have hown : s.vm.findClass RX10 = some m.cls := findClass_of_methodNamed B.named
  have hlocks := B.notSynchronized
  have hS : va_S A s.heap s.heap [] := va_S.rf
  have hl := lv_entry ([.ref h0]) (n := 1) (Nat.le_of_ble_eq_true rfl)
  rw [lg_entry_eq]
  generalize (lg_sl ([.ref h0]) ++ List.replicate (1 - (lg_sl ([.ref h0])).length) Slot.unset).toArray = ls at hl ⊢
  have hl : lv_has ls 1 [(0, .ref h0)] := hl
  refine lv_aload_n hx hb dX10_asLong_0 rfl (lv_at hl 0 rfl) ?_
  obtain ⟨x_2, x_3, k_1⟩ := op_10 hI i_h0
  refine k_get (ci := 10) (v := .long x_2) (C := RX10) (T := TX10) (N := 2) hx hb hts (fun _ h0_ => List.mem_cons_of_mem _ (List.mem_append_right _ (List.mem_append_left _ h0_))) hown hK hI i_h0.1 k_1 rfl 0 (by decide) (hts (.fieldLink RX10 9 "DeadlineShare$Wide" "high" "J") (List.mem_cons_of_mem _ (List.mem_append_left _ (List.mem_of_getElem? (i := 0) rfl)))) (fun _ h9 => h9) rfl dX10_asLong_1 ?_
  refine lv_bipush (v := 32) hx hb dX10_asLong_4 (by decide) ?_
  refine lv_lshl hx hb dX10_asLong_6 rfl ?_
  refine lv_topl (fun v_4 ev_4 => ?_)
  refine lv_aload_n hx hb dX10_asLong_7 rfl (lv_at hl 0 rfl) ?_
  refine k_get (ci := 10) (v := .long x_3) (C := RX10) (T := TX10) (N := 2) hx hb hts (fun _ h0_ => List.mem_cons_of_mem _ (List.mem_append_right _ (List.mem_append_left _ h0_))) hown hK hI i_h0.1 k_1 rfl 1 (by decide) (hts (.fieldLink RX10 15 "DeadlineShare$Wide" "low" "J") (List.mem_cons_of_mem _ (List.mem_append_left _ (List.mem_of_getElem? (i := 1) rfl)))) (fun _ h9 => h9) rfl dX10_asLong_8 ?_
  refine lv_lor hx hb dX10_asLong_11 ?_
  refine lv_topl (fun v_5 ev_5 => ?_)
  exact W.lret (v := v_5) hx hb hr (fun t ht hW => ⟨⟨v_5, (), rfl, trivial, k_ret ht hI⟩, hS.F ht⟩) hS.2.2 dX10_asLong_12
theorem tw_41 : q_g (.selects RX10 yX10_asLong yX10_asLong) := ⟨(List.mem_append_right _ (List.mem_of_getElem? (i := 543) (by decide +kernel))), good_of_word (by decide +kernel)⟩
theorem tw_42 : q_g (.instanceMethod yX10_asLong) := ⟨(List.mem_append_right _ (List.mem_of_getElem? (i := 542) (by decide +kernel))), good_of_word (by decide +kernel)⟩
theorem tw_43 : q_g (.methodLink RX6 93 yX10_asLong) := ⟨(List.mem_append_right _ (List.mem_of_getElem? (i := 541) (by decide +kernel))), good_of_word (by decide +kernel)⟩
theorem tw_44 : q_g (.selects RX10 yX10_divide yX10_divide) := ⟨(List.mem_append_right _ (List.mem_of_getElem? (i := 533) (by decide +kernel))), good_of_word (by decide +kernel)⟩
theorem tw_45 : q_g (.instanceMethod yX10_divide) := ⟨(List.mem_append_right _ (List.mem_of_getElem? (i := 532) (by decide +kernel))), good_of_word (by decide +kernel)⟩
theorem tw_46 : q_g (.methodLink RX6 90 yX10_divide) := ⟨(List.mem_append_right _ (List.mem_of_getElem? (i := 531) (by decide +kernel))), good_of_word (by decide +kernel)⟩
theorem tw_47 : q_g (.initialized RX6) := ⟨(List.mem_append_right _ (List.mem_of_getElem? (i := 6) (by decide +kernel))), good_of_word (by decide +kernel)⟩
theorem tw_48 : q_g (.selects RX6 yX6_sumUp yX6_sumUp) := ⟨(List.mem_append_left _ (List.mem_of_getElem? (i := 0) (by decide +kernel))), good_of_word (by decide +kernel)⟩
theorem tw_49 : q_g (.instanceMethod yX6_sumUp) := ⟨(List.mem_append_right _ (List.mem_of_getElem? (i := 501) (by decide +kernel))), good_of_word (by decide +kernel)⟩
theorem tw_50 : q_g (.methodLink RX6 86 yX6_sumUp) := ⟨(List.mem_append_right _ (List.mem_of_getElem? (i := 499) (by decide +kernel))), good_of_word (by decide +kernel)⟩
theorem tw_51 : q_g (.code yX6_wholeV cX6_wholeV 2 (some .long)) := ⟨(List.mem_append_right _ (List.mem_of_getElem? (i := 812) (by decide +kernel))), good_of_word (by decide +kernel)⟩
def ow_c_X6_wholeV : List Cond := [.methodLink RX6 86 yX6_sumUp, .instanceMethod yX6_sumUp, .selects RX6 yX6_sumUp yX6_sumUp, .initialized RX6, .fieldLink RX6 27 "DeadlineShare$State" "sum" "LDeadlineShare$Wide;", .methodLink RX6 90 yX10_divide, .instanceMethod yX10_divide, .selects RX10 yX10_divide yX10_divide, .initialized RX10, .methodLink RX6 93 yX10_asLong, .instanceMethod yX10_asLong, .selects RX10 yX10_asLong yX10_asLong]
def wq_c_X6_wholeV : List Cond := .code yX6_wholeV cX6_wholeV 2 (some .long) :: (ow_c_X6_wholeV ++ (wq_c_X6_sumUp ++ (u_ws RX6 TX6 10 ++ (wq_c_X10_divide ++ (wq_c_X10_asLong ++ ([] : List Cond))))))
theorem tb_c_X6_wholeV : ∀ w ∈ wq_c_X6_wholeV, q_g w := by
  unfold wq_c_X6_wholeV ow_c_X6_wholeV
  exact q_cons tw_51 (q_app (q_cons tw_50 (q_cons tw_49 (q_cons tw_48 (q_cons tw_47 (q_cons tw_30 (q_cons tw_46 (q_cons tw_45 (q_cons tw_44 (q_cons tw_26 (q_cons tw_43 (q_cons tw_42 (q_cons tw_41 q_nil)))))))))))) (q_app tb_c_X6_sumUp (q_app tu_X6 (q_app tb_c_X10_divide (q_app tb_c_X10_asLong q_nil)))))
set_option maxHeartbeats 4000000 in
set_option maxRecDepth 100000 in
theorem c_X6_wholeV (l : Launch) (dC : Nat → ClassId) (dI : Nat → Nat → Nat) (g : kG) (A : Nat → Prop) (hG : kWf g) (f : Nat → va_E) (h0 : Nat) (i_h0 : ik g 6 h0) : Met l yX6_wholeV wq_c_X6_wholeV ({ frames := 2, cells := 0, slots := 0, locals := 48 } : Room) (va_Pc [.ref h0] (fun U => kIn dC dI g A f U)) (va_Ql (fun (r : Int64) (_ : Unit) => True) (fun (_ : Unit) t => ∃ f1 : Nat → va_E, Iv dC dI g A f1 t.heap ∧ Kp g [10] f f1) A) 0 0 A := by
  refine Met.ofW (cc := cX6_wholeV) (maxL := 2) (ret := (some .long)) (by decide) rfl ?_
  intro p e s m args below meth c s₁ B hml hv
  obtain ⟨rfl, hI, hK, hE⟩ := hv
  have hx := B.exec
  have hb := B.bytes
  have hr := B.returns
  have hts := atoms_spec (ws := wq_c_X6_wholeV) B.pre
  have hown : s.vm.findClass RX6 = some m.cls := findClass_of_methodNamed B.named
  have hlocks := B.notSynchronized
  have hS : va_S A s.heap s.heap [] := va_S.rf
  have hk0 : Kp g [10] f f := Kp.rf
  have hl := lv_entry ([.ref h0]) (n := 2) (Nat.le_of_ble_eq_true rfl)
  rw [lg_entry_eq]
  generalize (lg_sl ([.ref h0]) ++ List.replicate (2 - (lg_sl ([.ref h0])).length) Slot.unset).toArray = ls at hl ⊢
  have hl : lv_has ls 2 [(0, .ref h0)] := hl
  refine lv_aload_n hx hb dX6_wholeV_0 rfl (lv_at hl 0 rfl) ?_
  obtain ⟨x_2, x_3, x_4, x_5, x_6, k_1, b_7, b_8⟩ := op_6 hI i_h0
  refine va_calli (va_runV (As := []) (rest := []) ⟨hx, hb, hml, hown, hts⟩ (c_X6_sumUp l dC dI g A hG f h0 i_h0) (cwV 0 hts (gi_V (fun w_ h0_ => ⟨List.mem_cons_of_mem _ (List.mem_append_right _ (List.mem_append_left _ h0_)), (tb_c_X6_sumUp w_ h0_).2⟩) (List.mem_cons_of_mem _ (List.mem_append_left _ (List.mem_of_getElem? (i := 0) rfl))) (List.mem_cons_of_mem _ (List.mem_append_left _ (List.mem_of_getElem? (i := 1) rfl))) (List.mem_cons_of_mem _ (List.mem_append_left _ (List.mem_of_getElem? (i := 2) rfl))) (List.mem_cons_of_mem _ (List.mem_append_left _ (List.mem_of_getElem? (i := 3) rfl)))) rfl rfl rfl (by decide +kernel) ⟨Nat.le_of_ble_eq_true rfl, Nat.le_of_ble_eq_true rfl⟩) ⟨fun a U g mk q => ⟨q.1, q.2.calling rfl rfl⟩, k_recv hK hI i_h0.1 k_1 (ci := 6) rfl, fun U hU hW => ⟨rfl, kIn.of hI hK hE hS hU hW⟩⟩ rfl rfl hl.1 rfl (lv_room (Nat.le_of_ble_eq_true rfl)) dX6_wholeV_1 ⟨Nat.le_of_ble_eq_true rfl, Nat.le_of_ble_eq_true rfl⟩) hS (fun q _ h => h) (fun q h => h) (fun r_11 u t H1 locs ht hvm w_10 hB hz1 hk1 hS => ?_)
  obtain ⟨f_9, hI, kc_12⟩ := hB
  rw [ht] at hI
  have k_13 : f_9 h0 = .inr (6, [.ref (gr g h0 0), .ref (gr g h0 1), .ref (gr g h0 2), .ref (gr g h0 3), .ref (gr g h0 4), .int x_2, .int x_3, .long x_4, .int x_5, .int x_6]) := Kp.at kc_12 i_h0 (by decide) k_1
  have kp_14 := Kp.call hk0 kc_12 (by decide)
  generalize H1 = H at hI hS ⊢
  refine W.widen (k := 0) (n := 0) (Nat.le_of_ble_eq_true rfl) (Nat.le_of_ble_eq_true rfl) ?_
  refine lv_istore_n (lv' := [(1, .int r_11), (0, .ref h0)]) hx hb dX6_wholeV_4 rfl hl (by decide) rfl (fun ls hl => ?_)
  refine lv_aload_n hx hb dX6_wholeV_5 rfl (lv_at hl 1 rfl) ?_
  refine k_get (ci := 6) (v := .ref (gr g h0 3)) (C := RX6) (T := TX6) (N := 10) hx hb hts (fun _ h0_ => List.mem_cons_of_mem _ (List.mem_append_right _ (List.mem_append_right _ (List.mem_append_left _ h0_)))) hown hK hI i_h0.1 k_13 rfl 3 (by decide) (hts (.fieldLink RX6 27 "DeadlineShare$State" "sum" "LDeadlineShare$Wide;") (List.mem_cons_of_mem _ (List.mem_append_left _ (List.mem_of_getElem? (i := 4) rfl)))) (fun _ h9 => h9) rfl dX6_wholeV_6 ?_
  have i_16 := kw_6_3 hG i_h0
  refine lv_iload_n hx hb dX6_wholeV_9 rfl (lv_at hl 0 rfl) ?_
  refine lv_i2l (v := r_11.toInt64) hx hb dX6_wholeV_10 rfl ?_
  have t_17 := Int32.toInt_toInt64 r_11
  obtain ⟨x_19, x_20, k_18⟩ := op_10 hI i_16
  refine va_callv (va_runV (As := [.long r_11.toInt64]) (rest := []) ⟨hx, hb, hml, hown, hts⟩ (c_X10_divide l dC dI g A hG f_9 (gr g h0 3) r_11.toInt64 i_16) (cwV 1 hts (gi_V (fun w_ h0_ => ⟨List.mem_cons_of_mem _ (List.mem_append_right _ (List.mem_append_right _ (List.mem_append_right _ (List.mem_append_left _ h0_)))), (tb_c_X10_divide w_ h0_).2⟩) (List.mem_cons_of_mem _ (List.mem_append_left _ (List.mem_of_getElem? (i := 5) rfl))) (List.mem_cons_of_mem _ (List.mem_append_left _ (List.mem_of_getElem? (i := 6) rfl))) (List.mem_cons_of_mem _ (List.mem_append_left _ (List.mem_of_getElem? (i := 7) rfl))) (List.mem_cons_of_mem _ (List.mem_append_left _ (List.mem_of_getElem? (i := 8) rfl)))) rfl rfl rfl (by decide +kernel) ⟨Nat.le_of_ble_eq_true rfl, Nat.le_of_ble_eq_true rfl⟩) ⟨fun a U g mk q => ⟨q.1, q.2.calling rfl rfl⟩, k_recv hK hI i_16.1 k_18 (ci := 10) rfl, fun U hU hW => ⟨rfl, kIn.of hI hK hE hS hU hW⟩⟩ rfl rfl hl.1 rfl (lv_room (Nat.le_of_ble_eq_true rfl)) dX6_wholeV_11 ⟨Nat.le_of_ble_eq_true rfl, Nat.le_of_ble_eq_true rfl⟩) hS (fun q _ h => h) (fun q h => h) (fun u t H1 locs ht hvm _ hB hz1 hk1 hS => ?_)
  obtain ⟨f_21, hI, kc_23⟩ := hB
  rw [ht] at hI
  have k_24 : f_21 h0 = .inr (6, [.ref (gr g h0 0), .ref (gr g h0 1), .ref (gr g h0 2), .ref (gr g h0 3), .ref (gr g h0 4), .int x_2, .int x_3, .long x_4, .int x_5, .int x_6]) := Kp.at kc_23 i_h0 (by decide) k_13
  have kp_25 := Kp.call kp_14 kc_23 (by decide)
  generalize H1 = H at hI hS ⊢
  refine W.widen (k := 0) (n := 0) (Nat.le_of_ble_eq_true rfl) (Nat.le_of_ble_eq_true rfl) ?_
  refine lv_aload_n hx hb dX6_wholeV_14 rfl (lv_at hl 1 rfl) ?_
  refine k_get (ci := 6) (v := .ref (gr g h0 3)) (C := RX6) (T := TX6) (N := 10) hx hb hts (fun _ h0_ => List.mem_cons_of_mem _ (List.mem_append_right _ (List.mem_append_right _ (List.mem_append_left _ h0_)))) hown hK hI i_h0.1 k_24 rfl 3 (by decide) (hts (.fieldLink RX6 27 "DeadlineShare$State" "sum" "LDeadlineShare$Wide;") (List.mem_cons_of_mem _ (List.mem_append_left _ (List.mem_of_getElem? (i := 4) rfl)))) (fun _ h9 => h9) rfl dX6_wholeV_15 ?_
  obtain ⟨x_29, x_30, k_28⟩ := op_10 hI i_16
  refine va_calll (va_runV (As := []) (rest := []) ⟨hx, hb, hml, hown, hts⟩ (c_X10_asLong l dC dI g A hG f_21 (gr g h0 3) i_16) (cwV 0 hts (gi_V (fun w_ h0_ => ⟨List.mem_cons_of_mem _ (List.mem_append_right _ (List.mem_append_right _ (List.mem_append_right _ (List.mem_append_right _ (List.mem_append_left _ h0_))))), (tb_c_X10_asLong w_ h0_).2⟩) (List.mem_cons_of_mem _ (List.mem_append_left _ (List.mem_of_getElem? (i := 9) rfl))) (List.mem_cons_of_mem _ (List.mem_append_left _ (List.mem_of_getElem? (i := 10) rfl))) (List.mem_cons_of_mem _ (List.mem_append_left _ (List.mem_of_getElem? (i := 11) rfl))) (List.mem_cons_of_mem _ (List.mem_append_left _ (List.mem_of_getElem? (i := 8) rfl)))) rfl rfl rfl (by decide +kernel) ⟨Nat.le_of_ble_eq_true rfl, Nat.le_of_ble_eq_true rfl⟩) ⟨fun a U g mk q => ⟨q.1, q.2.calling rfl rfl⟩, k_recv hK hI i_16.1 k_28 (ci := 10) rfl, fun U hU hW => ⟨rfl, kIn.of hI hK hE hS hU hW⟩⟩ rfl rfl hl.1 rfl (lv_room (Nat.le_of_ble_eq_true rfl)) dX6_wholeV_18 ⟨Nat.le_of_ble_eq_true rfl, Nat.le_of_ble_eq_true rfl⟩) hS (fun q _ h => h) (fun q h => h) (fun r_32 u t H1 locs ht hvm w_31 hB hz1 hk1 hS => ?_)
  have hI : Iv dC dI g A f_21 t.heap := hB
  rw [ht] at hI
  generalize H1 = H at hI hS ⊢
  refine W.widen (k := 0) (n := 0) (Nat.le_of_ble_eq_true rfl) (Nat.le_of_ble_eq_true rfl) ?_
  exact W.lret (v := r_32) hx hb hr (fun t ht hW => ⟨⟨r_32, (), rfl, trivial, ⟨f_21, k_ret ht hI, kp_25⟩⟩, hS.F ht⟩) hS.2.2 dX6_wholeV_21
theorem tw_52 : q_g (.code yX6_has cX6_has 2 (some .boolean)) := ⟨(List.mem_append_right _ (List.mem_of_getElem? (i := 482) (by decide +kernel))), good_of_word (by decide +kernel)⟩
def ow_c_X6_has : List Cond := [.fieldLink RX6 48 "DeadlineShare$State" "count" "I"]
def wq_c_X6_has : List Cond := .code yX6_has cX6_has 2 (some .boolean) :: (ow_c_X6_has ++ (u_ws RX6 TX6 10 ++ ([] : List Cond)))
theorem tb_c_X6_has : ∀ w ∈ wq_c_X6_has, q_g w := by
  unfold wq_c_X6_has ow_c_X6_has
  exact q_cons tw_52 (q_app (q_cons tw_13 q_nil) (q_app tu_X6 q_nil))
set_option maxHeartbeats 4000000 in
set_option maxRecDepth 100000 in
theorem c_X6_has (l : Launch) (dC : Nat → ClassId) (dI : Nat → Nat → Nat) (g : kG) (A : Nat → Prop) (hG : kWf g) (f : Nat → va_E) (h0 : Nat) (p1 : Int32) (i_h0 : ik g 6 h0) : Met l yX6_has wq_c_X6_has ({ frames := 0, cells := 0, slots := 0, locals := 0 } : Room) (va_Pc [.ref h0, .int p1] (fun U => kIn dC dI g A f U)) (va_Qi (fun (r : Int32) (_ : Unit) => r.toInt = 0 ∨ (0 ≤ p1.toInt ∧ p1.toInt < 12)) (fun (_ : Unit) t => Iv dC dI g A f t.heap) A) 0 0 A := by
  refine Met.ofW (cc := cX6_has) (maxL := 2) (ret := (some .boolean)) (by decide) rfl ?_
  intro p e s m args below meth c s₁ B hml hv
  obtain ⟨rfl, hI, hK, hE⟩ := hv
  have hx := B.exec
  have hb := B.bytes
  have hr := B.returns
  have hts := atoms_spec (ws := wq_c_X6_has) B.pre
  have hown : s.vm.findClass RX6 = some m.cls := findClass_of_methodNamed B.named
  have hlocks := B.notSynchronized
  have hS : va_S A s.heap s.heap [] := va_S.rf
  have hl := lv_entry ([.ref h0, .int p1]) (n := 2) (Nat.le_of_ble_eq_true rfl)
  rw [lg_entry_eq]
  generalize (lg_sl ([.ref h0, .int p1]) ++ List.replicate (2 - (lg_sl ([.ref h0, .int p1])).length) Slot.unset).toArray = ls at hl ⊢
  have hl : lv_has ls 2 [(0, .ref h0), (1, .int p1)] := hl
  refine lv_iload_n hx hb dX6_has_0 rfl (lv_at hl 1 rfl) ?_
  refine lv_if_lt (tgt := 16) hx hb dX6_has_1 (by decide) (fun c_1 => ?_) (fun c_1 => ?_)
  · have c_1 := kc_lt rfl (by decide : Int32.toInt 0 = 0) c_1
    refine lv_iconst (v := 0) hx hb dX6_has_16 (by decide) ?_
    have w_2 : (0 : Int32).toInt = 0 ∨ (0 ≤ p1.toInt ∧ p1.toInt < 12) := by rw [show Int32.toInt (0) = 0 from by decide]; omega
    exact W.zret (v := 0) hx hb hr rfl (fun t ht hW => ⟨⟨0, (), rfl, w_2, k_ret ht hI⟩, hS.F ht⟩) hS.2.2 dX6_has_17
  · have c_1 := kn_lt rfl (by decide : Int32.toInt 0 = 0) c_1
    refine lv_iload_n hx hb dX6_has_4 rfl (lv_at hl 1 rfl) ?_
    refine lv_aload_n hx hb dX6_has_5 rfl (lv_at hl 0 rfl) ?_
    obtain ⟨x_4, x_5, x_6, x_7, x_8, k_3, b_9, b_10⟩ := op_6 hI i_h0
    refine k_get (ci := 6) (v := .int x_4) (C := RX6) (T := TX6) (N := 10) hx hb hts (fun _ h0_ => List.mem_cons_of_mem _ (List.mem_append_right _ (List.mem_append_left _ h0_))) hown hK hI i_h0.1 k_3 rfl 5 (by decide) (hts (.fieldLink RX6 48 "DeadlineShare$State" "count" "I") (List.mem_cons_of_mem _ (List.mem_append_left _ (List.mem_of_getElem? (i := 0) rfl)))) (fun _ h9 => h9) rfl dX6_has_6 ?_
    refine lv_icmp_ge (tgt := 16) hx hb dX6_has_9 (by decide) (fun c_11 => ?_) (fun c_11 => ?_)
    · have c_11 := kc_le rfl rfl c_11
      refine lv_iconst (v := 0) hx hb dX6_has_16 (by decide) ?_
      have w_12 : (0 : Int32).toInt = 0 ∨ (0 ≤ p1.toInt ∧ p1.toInt < 12) := by rw [show Int32.toInt (0) = 0 from by decide]; omega
      exact W.zret (v := 0) hx hb hr rfl (fun t ht hW => ⟨⟨0, (), rfl, w_12, k_ret ht hI⟩, hS.F ht⟩) hS.2.2 dX6_has_17
    · have c_11 := kn_le rfl rfl c_11
      refine lv_iconst (v := 1) hx hb dX6_has_12 (by decide) ?_
      refine lv_goto (tgt := 17) hx hb dX6_has_13 (by decide) ?_
      have w_13 : (1 : Int32).toInt = 0 ∨ (0 ≤ p1.toInt ∧ p1.toInt < 12) := by rw [show Int32.toInt (1) = 1 from by decide]; omega
      exact W.zret (v := 1) hx hb hr rfl (fun t ht hW => ⟨⟨1, (), rfl, w_13, k_ret ht hI⟩, hS.F ht⟩) hS.2.2 dX6_has_17
theorem tw_53 : q_g (.constantLong RX11 357 (5354228880)) := ⟨(List.mem_append_right _ (List.mem_of_getElem? (i := 612) (by decide +kernel))), good_of_word (by decide +kernel)⟩
theorem tw_54 : q_g (.code yX11_unitBy cX11_unitBy 1 (some .long)) := ⟨(List.mem_append_right _ (List.mem_of_getElem? (i := 611) (by decide +kernel))), good_of_word (by decide +kernel)⟩
def ow_c_X11_unitBy : List Cond := [.constantLong RX11 357 (5354228880)]
def wq_c_X11_unitBy : List Cond := .code yX11_unitBy cX11_unitBy 1 (some .long) :: (ow_c_X11_unitBy ++ ([] : List Cond))
theorem tb_c_X11_unitBy : ∀ w ∈ wq_c_X11_unitBy, q_g w := by
  unfold wq_c_X11_unitBy ow_c_X11_unitBy
  exact q_cons tw_54 (q_app (q_cons tw_53 q_nil) q_nil)
set_option maxHeartbeats 4000000 in
set_option maxRecDepth 100000 in
theorem c_X11_unitBy (l : Launch) (dC : Nat → ClassId) (dI : Nat → Nat → Nat) (g : kG) (A : Nat → Prop) (hG : kWf g) (f : Nat → va_E) (p1 : Int32) : Met l yX11_unitBy wq_c_X11_unitBy ({ frames := 0, cells := 0, slots := 0, locals := 0 } : Room) (va_Pc [.int p1] (fun U => kIn dC dI g A f U)) (va_Ql (fun (r : Int64) (_ : Unit) => True) (fun (_ : Unit) t => Iv dC dI g A f t.heap) A) 0 0 A := by
  refine Met.ofW (cc := cX11_unitBy) (maxL := 1) (ret := (some .long)) (by decide) rfl ?_
  intro p e s m args below meth c s₁ B hml hv
  obtain ⟨rfl, hI, hK, hE⟩ := hv
  have hx := B.exec
  have hb := B.bytes
  have hr := B.returns
  have hts := atoms_spec (ws := wq_c_X11_unitBy) B.pre
  have hown : s.vm.findClass RX11 = some m.cls := findClass_of_methodNamed B.named
  have hlocks := B.notSynchronized
  have hS : va_S A s.heap s.heap [] := va_S.rf
  have hl := lv_entry ([.int p1]) (n := 1) (Nat.le_of_ble_eq_true rfl)
  rw [lg_entry_eq]
  generalize (lg_sl ([.int p1]) ++ List.replicate (1 - (lg_sl ([.int p1])).length) Slot.unset).toArray = ls at hl ⊢
  have hl : lv_has ls 1 [(0, .int p1)] := hl
  refine lv_iload_n hx hb dX11_unitBy_0 rfl (lv_at hl 0 rfl) ?_
  refine lv_if_le (tgt := 13) hx hb dX11_unitBy_1 (by decide) (fun c_1 => ?_) (fun c_1 => ?_)
  · have c_1 := kc_le rfl (by decide : Int32.toInt 0 = 0) c_1
    refine lv_lconst (v := 0) hx hb dX11_unitBy_13 (by decide) ?_
    exact W.lret (v := 0) hx hb hr (fun t ht hW => ⟨⟨0, (), rfl, trivial, k_ret ht hI⟩, hS.F ht⟩) hS.2.2 dX11_unitBy_14
  · have c_1 := kn_le rfl (by decide : Int32.toInt 0 = 0) c_1
    refine lv_ldc2 hx hb hown (hts (.constantLong RX11 357 (5354228880)) (List.mem_cons_of_mem _ (List.mem_append_left _ (List.mem_of_getElem? (i := 0) rfl)))) dX11_unitBy_4 ?_
    refine lv_iload_n hx hb dX11_unitBy_7 rfl (lv_at hl 0 rfl) ?_
    refine lv_i2l (v := p1.toInt64) hx hb dX11_unitBy_8 rfl ?_
    have t_2 := Int32.toInt_toInt64 p1
    refine lv_ldiv hx hb dX11_unitBy_9 (k_ne0L (by omega)) ?_
    refine lv_topl (fun v_3 ev_3 => ?_)
    refine lv_goto (tgt := 14) hx hb dX11_unitBy_10 (by decide) ?_
    exact W.lret (v := v_3) hx hb hr (fun t ht hW => ⟨⟨v_3, (), rfl, trivial, k_ret ht hI⟩, hS.F ht⟩) hS.2.2 dX11_unitBy_14
theorem tw_55 : q_g (.static yX11_unitBy) := ⟨(List.mem_append_right _ (List.mem_of_getElem? (i := 610) (by decide +kernel))), good_of_word (by decide +kernel)⟩
theorem tw_56 : q_g (.initialized RX11) := ⟨(List.mem_append_right _ (List.mem_of_getElem? (i := 1) (by decide +kernel))), good_of_word (by decide +kernel)⟩
theorem tw_57 : q_g (.fieldLink RX8 32 "DeadlineShare$Task" "weight" "I") := ⟨(List.mem_append_right _ (List.mem_of_getElem? (i := 154) (by decide +kernel))), good_of_word (by decide +kernel)⟩
theorem tw_58 : q_g (.fieldLink RX8 45 "DeadlineShare$Task" "left" "I") := ⟨(List.mem_append_right _ (List.mem_of_getElem? (i := 166) (by decide +kernel))), good_of_word (by decide +kernel)⟩
theorem tw_59 : q_g (.fieldLink RX8 41 "DeadlineShare$Task" "v" "J") := ⟨(List.mem_append_right _ (List.mem_of_getElem? (i := 163) (by decide +kernel))), good_of_word (by decide +kernel)⟩
theorem tw_60 : q_g (.code yX8_deadline cX8_deadline 1 (some .long)) := ⟨(List.mem_append_right _ (List.mem_of_getElem? (i := 608) (by decide +kernel))), good_of_word (by decide +kernel)⟩
def ow_c_X8_deadline : List Cond := [.fieldLink RX8 41 "DeadlineShare$Task" "v" "J", .fieldLink RX8 45 "DeadlineShare$Task" "left" "I", .fieldLink RX8 32 "DeadlineShare$Task" "weight" "I", .initialized RX11, .static yX11_unitBy]
def wq_c_X8_deadline : List Cond := .code yX8_deadline cX8_deadline 1 (some .long) :: (ow_c_X8_deadline ++ (u_ws RX8 TX8 18 ++ (wq_c_X11_unitBy ++ ([] : List Cond))))
theorem tb_c_X8_deadline : ∀ w ∈ wq_c_X8_deadline, q_g w := by
  unfold wq_c_X8_deadline ow_c_X8_deadline
  exact q_cons tw_60 (q_app (q_cons tw_59 (q_cons tw_58 (q_cons tw_57 (q_cons tw_56 (q_cons tw_55 q_nil))))) (q_app tu_X8 (q_app tb_c_X11_unitBy q_nil)))
set_option maxHeartbeats 4000000 in
set_option maxRecDepth 100000 in
theorem c_X8_deadline (l : Launch) (dC : Nat → ClassId) (dI : Nat → Nat → Nat) (g : kG) (A : Nat → Prop) (hG : kWf g) (f : Nat → va_E) (h0 : Nat) (i_h0 : ik g 8 h0) : Met l yX8_deadline wq_c_X8_deadline ({ frames := 1, cells := 0, slots := 0, locals := 20 } : Room) (va_Pc [.ref h0] (fun U => kIn dC dI g A f U)) (va_Ql (fun (r : Int64) (_ : Unit) => True) (fun (_ : Unit) t => Iv dC dI g A f t.heap) A) 0 0 A := by
  refine Met.ofW (cc := cX8_deadline) (maxL := 1) (ret := (some .long)) (by decide) rfl ?_
  intro p e s m args below meth c s₁ B hml hv
  obtain ⟨rfl, hI, hK, hE⟩ := hv
  have hx := B.exec
  have hb := B.bytes
  have hr := B.returns
  have hts := atoms_spec (ws := wq_c_X8_deadline) B.pre
  have hown : s.vm.findClass RX8 = some m.cls := findClass_of_methodNamed B.named
  have hlocks := B.notSynchronized
  have hS : va_S A s.heap s.heap [] := va_S.rf
  have hl := lv_entry ([.ref h0]) (n := 1) (Nat.le_of_ble_eq_true rfl)
  rw [lg_entry_eq]
  generalize (lg_sl ([.ref h0]) ++ List.replicate (1 - (lg_sl ([.ref h0])).length) Slot.unset).toArray = ls at hl ⊢
  have hl : lv_has ls 1 [(0, .ref h0)] := hl
  refine lv_aload_n hx hb dX8_deadline_0 rfl (lv_at hl 0 rfl) ?_
  obtain ⟨x_2, x_3, x_4, x_5, x_6, x_7, x_8, x_9, x_10, x_11, x_12, x_13, x_14, x_15, x_16, x_17, k_1⟩ := op_8 hI i_h0
  refine k_get (ci := 8) (v := .long x_6) (C := RX8) (T := TX8) (N := 18) hx hb hts (fun _ h0_ => List.mem_cons_of_mem _ (List.mem_append_right _ (List.mem_append_left _ h0_))) hown hK hI i_h0.1 k_1 rfl 5 (by decide) (hts (.fieldLink RX8 41 "DeadlineShare$Task" "v" "J") (List.mem_cons_of_mem _ (List.mem_append_left _ (List.mem_of_getElem? (i := 0) rfl)))) (fun _ h9 => h9) rfl dX8_deadline_1 ?_
  refine lv_aload_n hx hb dX8_deadline_4 rfl (lv_at hl 0 rfl) ?_
  refine k_get (ci := 8) (v := .int x_7) (C := RX8) (T := TX8) (N := 18) hx hb hts (fun _ h0_ => List.mem_cons_of_mem _ (List.mem_append_right _ (List.mem_append_left _ h0_))) hown hK hI i_h0.1 k_1 rfl 6 (by decide) (hts (.fieldLink RX8 45 "DeadlineShare$Task" "left" "I") (List.mem_cons_of_mem _ (List.mem_append_left _ (List.mem_of_getElem? (i := 1) rfl)))) (fun _ h9 => h9) rfl dX8_deadline_5 ?_
  refine lv_i2l (v := x_7.toInt64) hx hb dX8_deadline_8 rfl ?_
  have t_18 := Int32.toInt_toInt64 x_7
  refine lv_aload_n hx hb dX8_deadline_9 rfl (lv_at hl 0 rfl) ?_
  refine k_get (ci := 8) (v := .int x_3) (C := RX8) (T := TX8) (N := 18) hx hb hts (fun _ h0_ => List.mem_cons_of_mem _ (List.mem_append_right _ (List.mem_append_left _ h0_))) hown hK hI i_h0.1 k_1 rfl 2 (by decide) (hts (.fieldLink RX8 32 "DeadlineShare$Task" "weight" "I") (List.mem_cons_of_mem _ (List.mem_append_left _ (List.mem_of_getElem? (i := 2) rfl)))) (fun _ h9 => h9) rfl dX8_deadline_10 ?_
  refine va_calll (va_runSN (As := [.int x_3]) (rest := [.long x_7.toInt64, .long x_6]) ⟨hx, hb, hml, hown, hts⟩ (c_X11_unitBy l dC dI g A hG f x_3) ⟨va_cnB 1 hts (fun w_ h0_ => ⟨List.mem_cons_of_mem _ (List.mem_append_right _ (List.mem_append_right _ (List.mem_append_left _ h0_))), (tb_c_X11_unitBy w_ h0_).2⟩) rfl rfl rfl hE.1 (hts (.initialized RX11) (List.mem_cons_of_mem _ (List.mem_append_left _ (List.mem_of_getElem? (i := 3) rfl)))) (by decide +kernel) ⟨Nat.le_of_ble_eq_true rfl, Nat.le_of_ble_eq_true rfl⟩, (hts (.static yX11_unitBy) (List.mem_cons_of_mem _ (List.mem_append_left _ (List.mem_of_getElem? (i := 4) rfl)))), trivial⟩ ⟨fun a U g mk q => ⟨q.1, q.2.calling rfl rfl⟩, fun U hU hW => ⟨rfl, kIn.of hI hK hE hS hU hW⟩⟩ rfl rfl hl.1 rfl (lv_room (Nat.le_of_ble_eq_true rfl)) dX8_deadline_13 ⟨Nat.le_of_ble_eq_true rfl, Nat.le_of_ble_eq_true rfl⟩) hS (fun q _ h => h) (fun q h => h) (fun r_20 u t H1 locs ht hvm w_19 hB hz1 hk1 hS => ?_)
  have hI : Iv dC dI g A f t.heap := hB
  rw [ht] at hI
  generalize H1 = H at hI hS ⊢
  refine W.widen (k := 0) (n := 0) (Nat.le_of_ble_eq_true rfl) (Nat.le_of_ble_eq_true rfl) ?_
  refine lv_lmul hx hb dX8_deadline_16 ?_
  refine lv_topl (fun v_21 ev_21 => ?_)
  refine lv_ladd hx hb dX8_deadline_17 ?_
  refine lv_topl (fun v_22 ev_22 => ?_)
  exact W.lret (v := v_22) hx hb hr (fun t ht hW => ⟨⟨v_22, (), rfl, trivial, k_ret ht hI⟩, hS.F ht⟩) hS.2.2 dX8_deadline_18
theorem tw_61 : q_g (.fieldLink RX8 25 "DeadlineShare$Task" "number" "I") := ⟨(List.mem_append_right _ (List.mem_of_getElem? (i := 149) (by decide +kernel))), good_of_word (by decide +kernel)⟩
theorem tw_62 : q_g (.selects RX8 yX8_deadline yX8_deadline) := ⟨(List.mem_append_right _ (List.mem_of_getElem? (i := 607) (by decide +kernel))), good_of_word (by decide +kernel)⟩
theorem tw_63 : q_g (.instanceMethod yX8_deadline) := ⟨(List.mem_append_right _ (List.mem_of_getElem? (i := 606) (by decide +kernel))), good_of_word (by decide +kernel)⟩
theorem tw_64 : q_g (.methodLink RX8 115 yX8_deadline) := ⟨(List.mem_append_right _ (List.mem_of_getElem? (i := 819) (by decide +kernel))), good_of_word (by decide +kernel)⟩
theorem tw_65 : q_g (.code yX8_comesBefore cX8_comesBefore 8 (some .boolean)) := ⟨(List.mem_append_right _ (List.mem_of_getElem? (i := 818) (by decide +kernel))), good_of_word (by decide +kernel)⟩
def ow_c_X8_comesBefore : List Cond := [.methodLink RX8 115 yX8_deadline, .instanceMethod yX8_deadline, .selects RX8 yX8_deadline yX8_deadline, .initialized RX8, .fieldLink RX8 41 "DeadlineShare$Task" "v" "J", .fieldLink RX8 25 "DeadlineShare$Task" "number" "I"]
def wq_c_X8_comesBefore : List Cond := .code yX8_comesBefore cX8_comesBefore 8 (some .boolean) :: (ow_c_X8_comesBefore ++ (wq_c_X8_deadline ++ (u_ws RX8 TX8 18 ++ ([] : List Cond))))
theorem tb_c_X8_comesBefore : ∀ w ∈ wq_c_X8_comesBefore, q_g w := by
  unfold wq_c_X8_comesBefore ow_c_X8_comesBefore
  exact q_cons tw_65 (q_app (q_cons tw_64 (q_cons tw_63 (q_cons tw_62 (q_cons tw_8 (q_cons tw_59 (q_cons tw_61 q_nil)))))) (q_app tb_c_X8_deadline (q_app tu_X8 q_nil)))
set_option maxHeartbeats 4000000 in
set_option maxRecDepth 100000 in
theorem c_X8_comesBefore (l : Launch) (dC : Nat → ClassId) (dI : Nat → Nat → Nat) (g : kG) (A : Nat → Prop) (hG : kWf g) (f : Nat → va_E) (h0 : Nat) (p1 : Nat) (i_h0 : ik g 8 h0) (i_p1 : ik g 8 p1) : Met l yX8_comesBefore wq_c_X8_comesBefore ({ frames := 2, cells := 0, slots := 0, locals := 40 } : Room) (va_Pc [.ref h0, .ref p1] (fun U => kIn dC dI g A f U)) (va_Qi (fun (r : Int32) (_ : Unit) => True) (fun (_ : Unit) t => Iv dC dI g A f t.heap) A) 0 0 A := by
  refine Met.ofW (cc := cX8_comesBefore) (maxL := 8) (ret := (some .boolean)) (by decide) rfl ?_
  intro p e s m args below meth c s₁ B hml hv
  obtain ⟨rfl, hI, hK, hE⟩ := hv
  have hx := B.exec
  have hb := B.bytes
  have hr := B.returns
  have hts := atoms_spec (ws := wq_c_X8_comesBefore) B.pre
  have hown : s.vm.findClass RX8 = some m.cls := findClass_of_methodNamed B.named
  have hlocks := B.notSynchronized
  have hS : va_S A s.heap s.heap [] := va_S.rf
  have hl := lv_entry ([.ref h0, .ref p1]) (n := 8) (Nat.le_of_ble_eq_true rfl)
  rw [lg_entry_eq]
  generalize (lg_sl ([.ref h0, .ref p1]) ++ List.replicate (8 - (lg_sl ([.ref h0, .ref p1])).length) Slot.unset).toArray = ls at hl ⊢
  have hl : lv_has ls 8 [(0, .ref h0), (1, .ref p1)] := hl
  refine lv_aload_n hx hb dX8_comesBefore_0 rfl (lv_at hl 0 rfl) ?_
  obtain ⟨x_2, x_3, x_4, x_5, x_6, x_7, x_8, x_9, x_10, x_11, x_12, x_13, x_14, x_15, x_16, x_17, k_1⟩ := op_8 hI i_h0
  refine va_calll (va_runV (As := []) (rest := []) ⟨hx, hb, hml, hown, hts⟩ (c_X8_deadline l dC dI g A hG f h0 i_h0) (cwV 0 hts (gi_V (fun w_ h0_ => ⟨List.mem_cons_of_mem _ (List.mem_append_right _ (List.mem_append_left _ h0_)), (tb_c_X8_deadline w_ h0_).2⟩) (List.mem_cons_of_mem _ (List.mem_append_left _ (List.mem_of_getElem? (i := 0) rfl))) (List.mem_cons_of_mem _ (List.mem_append_left _ (List.mem_of_getElem? (i := 1) rfl))) (List.mem_cons_of_mem _ (List.mem_append_left _ (List.mem_of_getElem? (i := 2) rfl))) (List.mem_cons_of_mem _ (List.mem_append_left _ (List.mem_of_getElem? (i := 3) rfl)))) rfl rfl rfl (by decide +kernel) ⟨Nat.le_of_ble_eq_true rfl, Nat.le_of_ble_eq_true rfl⟩) ⟨fun a U g mk q => ⟨q.1, q.2.calling rfl rfl⟩, k_recv hK hI i_h0.1 k_1 (ci := 8) rfl, fun U hU hW => ⟨rfl, kIn.of hI hK hE hS hU hW⟩⟩ rfl rfl hl.1 rfl (lv_room (Nat.le_of_ble_eq_true rfl)) dX8_comesBefore_1 ⟨Nat.le_of_ble_eq_true rfl, Nat.le_of_ble_eq_true rfl⟩) hS (fun q _ h => h) (fun q h => h) (fun r_19 u t H1 locs ht hvm w_18 hB hz1 hk1 hS => ?_)
  have hI : Iv dC dI g A f t.heap := hB
  rw [ht] at hI
  generalize H1 = H at hI hS ⊢
  refine W.widen (k := 0) (n := 0) (Nat.le_of_ble_eq_true rfl) (Nat.le_of_ble_eq_true rfl) ?_
  refine lv_lstore_n (lv' := [(2, .long r_19), (0, .ref h0), (1, .ref p1)]) hx hb dX8_comesBefore_4 rfl hl (by decide) rfl (fun ls hl => ?_)
  refine lv_aload_n hx hb dX8_comesBefore_5 rfl (lv_at hl 2 rfl) ?_
  obtain ⟨x_21, x_22, x_23, x_24, x_25, x_26, x_27, x_28, x_29, x_30, x_31, x_32, x_33, x_34, x_35, x_36, k_20⟩ := op_8 hI i_p1
  refine va_calll (va_runV (As := []) (rest := []) ⟨hx, hb, hml, hown, hts⟩ (c_X8_deadline l dC dI g A hG f p1 i_p1) (cwV 0 hts (gi_V (fun w_ h0_ => ⟨List.mem_cons_of_mem _ (List.mem_append_right _ (List.mem_append_left _ h0_)), (tb_c_X8_deadline w_ h0_).2⟩) (List.mem_cons_of_mem _ (List.mem_append_left _ (List.mem_of_getElem? (i := 0) rfl))) (List.mem_cons_of_mem _ (List.mem_append_left _ (List.mem_of_getElem? (i := 1) rfl))) (List.mem_cons_of_mem _ (List.mem_append_left _ (List.mem_of_getElem? (i := 2) rfl))) (List.mem_cons_of_mem _ (List.mem_append_left _ (List.mem_of_getElem? (i := 3) rfl)))) rfl rfl rfl (by decide +kernel) ⟨Nat.le_of_ble_eq_true rfl, Nat.le_of_ble_eq_true rfl⟩) ⟨fun a U g mk q => ⟨q.1, q.2.calling rfl rfl⟩, k_recv hK hI i_p1.1 k_20 (ci := 8) rfl, fun U hU hW => ⟨rfl, kIn.of hI hK hE hS hU hW⟩⟩ rfl rfl hl.1 rfl (lv_room (Nat.le_of_ble_eq_true rfl)) dX8_comesBefore_6 ⟨Nat.le_of_ble_eq_true rfl, Nat.le_of_ble_eq_true rfl⟩) hS (fun q _ h => h) (fun q h => h) (fun r_38 u t H1 locs ht hvm w_37 hB hz1 hk1 hS => ?_)
  have hI : Iv dC dI g A f t.heap := hB
  rw [ht] at hI
  generalize H1 = H at hI hS ⊢
  refine W.widen (k := 0) (n := 0) (Nat.le_of_ble_eq_true rfl) (Nat.le_of_ble_eq_true rfl) ?_
  refine lv_lstore (lv' := [(4, .long r_38), (2, .long r_19), (0, .ref h0), (1, .ref p1)]) hx hb dX8_comesBefore_9 hl (by decide) rfl (fun ls hl => ?_)
  refine lv_lload_n hx hb dX8_comesBefore_11 rfl (lv_at hl 1 rfl) ?_
  refine lv_aload_n hx hb dX8_comesBefore_12 rfl (lv_at hl 2 rfl) ?_
  refine k_get (ci := 8) (v := .long x_6) (C := RX8) (T := TX8) (N := 18) hx hb hts (fun _ h0_ => List.mem_cons_of_mem _ (List.mem_append_right _ (List.mem_append_right _ (List.mem_append_left _ h0_)))) hown hK hI i_h0.1 k_1 rfl 5 (by decide) (hts (.fieldLink RX8 41 "DeadlineShare$Task" "v" "J") (List.mem_cons_of_mem _ (List.mem_append_left _ (List.mem_of_getElem? (i := 4) rfl)))) (fun _ h9 => h9) rfl dX8_comesBefore_13 ?_
  refine W.lcmp hx hb dX8_comesBefore_16 ?_
  refine lv_if_ge (tgt := 24) hx hb dX8_comesBefore_17 (by decide) (fun c_39 => ?_) (fun c_39 => ?_)
  · have c_39 := lc_le rfl rfl ((lg_cmp_ge _ _).mp c_39)
    refine lv_iconst (v := 0) hx hb dX8_comesBefore_24 (by decide) ?_
    refine lv_istore (lv' := [(6, .int 0), (4, .long r_38), (2, .long r_19), (0, .ref h0), (1, .ref p1)]) hx hb dX8_comesBefore_25 hl (by decide) rfl (fun ls hl => ?_)
    refine lv_lload hx hb dX8_comesBefore_27 (lv_at hl 1 rfl) ?_
    refine lv_aload_n hx hb dX8_comesBefore_29 rfl (lv_at hl 4 rfl) ?_
    refine k_get (ci := 8) (v := .long x_25) (C := RX8) (T := TX8) (N := 18) hx hb hts (fun _ h0_ => List.mem_cons_of_mem _ (List.mem_append_right _ (List.mem_append_right _ (List.mem_append_left _ h0_)))) hown hK hI i_p1.1 k_20 rfl 5 (by decide) (hts (.fieldLink RX8 41 "DeadlineShare$Task" "v" "J") (List.mem_cons_of_mem _ (List.mem_append_left _ (List.mem_of_getElem? (i := 4) rfl)))) (fun _ h9 => h9) rfl dX8_comesBefore_30 ?_
    refine W.lcmp hx hb dX8_comesBefore_33 ?_
    refine lv_if_ge (tgt := 41) hx hb dX8_comesBefore_34 (by decide) (fun c_40 => ?_) (fun c_40 => ?_)
    · have c_40 := lc_le rfl rfl ((lg_cmp_ge _ _).mp c_40)
      refine lv_iconst (v := 0) hx hb dX8_comesBefore_41 (by decide) ?_
      refine lv_istore (lv' := [(7, .int 0), (6, .int 0), (4, .long r_38), (2, .long r_19), (0, .ref h0), (1, .ref p1)]) hx hb dX8_comesBefore_42 hl (by decide) rfl (fun ls hl => ?_)
      refine lv_iload hx hb dX8_comesBefore_44 (lv_at hl 1 rfl) ?_
      refine lv_iload hx hb dX8_comesBefore_46 (lv_at hl 0 rfl) ?_
      refine lv_icmp_eq (tgt := 54) hx hb dX8_comesBefore_48 (by decide) (fun _ => ?_) (fun c => absurd (by decide) c)
      refine lv_lload_n hx hb dX8_comesBefore_54 rfl (lv_at hl 3 rfl) ?_
      refine lv_lload hx hb dX8_comesBefore_55 (lv_at hl 2 rfl) ?_
      refine W.lcmp hx hb dX8_comesBefore_57 ?_
      refine lv_if_lt (tgt := 79) hx hb dX8_comesBefore_58 (by decide) (fun c_41 => ?_) (fun c_41 => ?_)
      · have c_41 := lc_lt rfl rfl ((lg_cmp_lt _ _).mp c_41)
        refine lv_iconst (v := 1) hx hb dX8_comesBefore_79 (by decide) ?_
        refine lv_goto (tgt := 84) hx hb dX8_comesBefore_80 (by decide) ?_
        exact W.zret (v := 1) hx hb hr rfl (fun t ht hW => ⟨⟨1, (), rfl, trivial, k_ret ht hI⟩, hS.F ht⟩) hS.2.2 dX8_comesBefore_84
      · have c_41 := ln_lt rfl rfl (fun h9 => c_41 ((lg_cmp_lt _ _).mpr h9))
        refine lv_lload_n hx hb dX8_comesBefore_61 rfl (lv_at hl 3 rfl) ?_
        refine lv_lload hx hb dX8_comesBefore_62 (lv_at hl 2 rfl) ?_
        refine W.lcmp hx hb dX8_comesBefore_64 ?_
        refine lv_if_ne (tgt := 83) hx hb dX8_comesBefore_65 (by decide) (fun c_42 => ?_) (fun c_42 => ?_)
        · have c_42 := ln_eq rfl rfl (fun h9 => c_42 ((lg_cmp_eq _ _).mpr h9))
          refine lv_iconst (v := 0) hx hb dX8_comesBefore_83 (by decide) ?_
          exact W.zret (v := 0) hx hb hr rfl (fun t ht hW => ⟨⟨0, (), rfl, trivial, k_ret ht hI⟩, hS.F ht⟩) hS.2.2 dX8_comesBefore_84
        · have c_42 := lc_eq rfl rfl ((lg_cmp_eq _ _).mp c_42)
          refine lv_aload_n hx hb dX8_comesBefore_68 rfl (lv_at hl 4 rfl) ?_
          refine k_get (ci := 8) (v := .int x_2) (C := RX8) (T := TX8) (N := 18) hx hb hts (fun _ h0_ => List.mem_cons_of_mem _ (List.mem_append_right _ (List.mem_append_right _ (List.mem_append_left _ h0_)))) hown hK hI i_h0.1 k_1 rfl 0 (by decide) (hts (.fieldLink RX8 25 "DeadlineShare$Task" "number" "I") (List.mem_cons_of_mem _ (List.mem_append_left _ (List.mem_of_getElem? (i := 5) rfl)))) (fun _ h9 => h9) rfl dX8_comesBefore_69 ?_
          refine lv_aload_n hx hb dX8_comesBefore_72 rfl (lv_at hl 5 rfl) ?_
          refine k_get (ci := 8) (v := .int x_21) (C := RX8) (T := TX8) (N := 18) hx hb hts (fun _ h0_ => List.mem_cons_of_mem _ (List.mem_append_right _ (List.mem_append_right _ (List.mem_append_left _ h0_)))) hown hK hI i_p1.1 k_20 rfl 0 (by decide) (hts (.fieldLink RX8 25 "DeadlineShare$Task" "number" "I") (List.mem_cons_of_mem _ (List.mem_append_left _ (List.mem_of_getElem? (i := 5) rfl)))) (fun _ h9 => h9) rfl dX8_comesBefore_73 ?_
          refine lv_icmp_ge (tgt := 83) hx hb dX8_comesBefore_76 (by decide) (fun c_43 => ?_) (fun c_43 => ?_)
          · have c_43 := kc_le rfl rfl c_43
            refine lv_iconst (v := 0) hx hb dX8_comesBefore_83 (by decide) ?_
            exact W.zret (v := 0) hx hb hr rfl (fun t ht hW => ⟨⟨0, (), rfl, trivial, k_ret ht hI⟩, hS.F ht⟩) hS.2.2 dX8_comesBefore_84
          · have c_43 := kn_le rfl rfl c_43
            refine lv_iconst (v := 1) hx hb dX8_comesBefore_79 (by decide) ?_
            refine lv_goto (tgt := 84) hx hb dX8_comesBefore_80 (by decide) ?_
            exact W.zret (v := 1) hx hb hr rfl (fun t ht hW => ⟨⟨1, (), rfl, trivial, k_ret ht hI⟩, hS.F ht⟩) hS.2.2 dX8_comesBefore_84
    · have c_40 := ln_le rfl rfl (fun h9 => c_40 ((lg_cmp_ge _ _).mpr h9))
      refine lv_iconst (v := 1) hx hb dX8_comesBefore_37 (by decide) ?_
      refine lv_goto (tgt := 42) hx hb dX8_comesBefore_38 (by decide) ?_
      refine lv_istore (lv' := [(7, .int 1), (6, .int 0), (4, .long r_38), (2, .long r_19), (0, .ref h0), (1, .ref p1)]) hx hb dX8_comesBefore_42 hl (by decide) rfl (fun ls hl => ?_)
      refine lv_iload hx hb dX8_comesBefore_44 (lv_at hl 1 rfl) ?_
      refine lv_iload hx hb dX8_comesBefore_46 (lv_at hl 0 rfl) ?_
      refine lv_icmp_eq (tgt := 54) hx hb dX8_comesBefore_48 (by decide) (fun c => absurd c (by decide)) (fun _ => ?_)
      refine lv_iload hx hb dX8_comesBefore_51 (lv_at hl 0 rfl) ?_
      exact W.zret (v := 1) hx hb hr rfl (fun t ht hW => ⟨⟨1, (), rfl, trivial, k_ret ht hI⟩, hS.F ht⟩) hS.2.2 dX8_comesBefore_53
  · have c_39 := ln_le rfl rfl (fun h9 => c_39 ((lg_cmp_ge _ _).mpr h9))
    refine lv_iconst (v := 1) hx hb dX8_comesBefore_20 (by decide) ?_
    refine lv_goto (tgt := 25) hx hb dX8_comesBefore_21 (by decide) ?_
    refine lv_istore (lv' := [(6, .int 1), (4, .long r_38), (2, .long r_19), (0, .ref h0), (1, .ref p1)]) hx hb dX8_comesBefore_25 hl (by decide) rfl (fun ls hl => ?_)
    refine lv_lload hx hb dX8_comesBefore_27 (lv_at hl 1 rfl) ?_
    refine lv_aload_n hx hb dX8_comesBefore_29 rfl (lv_at hl 4 rfl) ?_
    refine k_get (ci := 8) (v := .long x_25) (C := RX8) (T := TX8) (N := 18) hx hb hts (fun _ h0_ => List.mem_cons_of_mem _ (List.mem_append_right _ (List.mem_append_right _ (List.mem_append_left _ h0_)))) hown hK hI i_p1.1 k_20 rfl 5 (by decide) (hts (.fieldLink RX8 41 "DeadlineShare$Task" "v" "J") (List.mem_cons_of_mem _ (List.mem_append_left _ (List.mem_of_getElem? (i := 4) rfl)))) (fun _ h9 => h9) rfl dX8_comesBefore_30 ?_
    refine W.lcmp hx hb dX8_comesBefore_33 ?_
    refine lv_if_ge (tgt := 41) hx hb dX8_comesBefore_34 (by decide) (fun c_44 => ?_) (fun c_44 => ?_)
    · have c_44 := lc_le rfl rfl ((lg_cmp_ge _ _).mp c_44)
      refine lv_iconst (v := 0) hx hb dX8_comesBefore_41 (by decide) ?_
      refine lv_istore (lv' := [(7, .int 0), (6, .int 1), (4, .long r_38), (2, .long r_19), (0, .ref h0), (1, .ref p1)]) hx hb dX8_comesBefore_42 hl (by decide) rfl (fun ls hl => ?_)
      refine lv_iload hx hb dX8_comesBefore_44 (lv_at hl 1 rfl) ?_
      refine lv_iload hx hb dX8_comesBefore_46 (lv_at hl 0 rfl) ?_
      refine lv_icmp_eq (tgt := 54) hx hb dX8_comesBefore_48 (by decide) (fun c => absurd c (by decide)) (fun _ => ?_)
      refine lv_iload hx hb dX8_comesBefore_51 (lv_at hl 0 rfl) ?_
      exact W.zret (v := 0) hx hb hr rfl (fun t ht hW => ⟨⟨0, (), rfl, trivial, k_ret ht hI⟩, hS.F ht⟩) hS.2.2 dX8_comesBefore_53
    · have c_44 := ln_le rfl rfl (fun h9 => c_44 ((lg_cmp_ge _ _).mpr h9))
      refine lv_iconst (v := 1) hx hb dX8_comesBefore_37 (by decide) ?_
      refine lv_goto (tgt := 42) hx hb dX8_comesBefore_38 (by decide) ?_
      refine lv_istore (lv' := [(7, .int 1), (6, .int 1), (4, .long r_38), (2, .long r_19), (0, .ref h0), (1, .ref p1)]) hx hb dX8_comesBefore_42 hl (by decide) rfl (fun ls hl => ?_)
      refine lv_iload hx hb dX8_comesBefore_44 (lv_at hl 1 rfl) ?_
      refine lv_iload hx hb dX8_comesBefore_46 (lv_at hl 0 rfl) ?_
      refine lv_icmp_eq (tgt := 54) hx hb dX8_comesBefore_48 (by decide) (fun _ => ?_) (fun c => absurd (by decide) c)
      refine lv_lload_n hx hb dX8_comesBefore_54 rfl (lv_at hl 3 rfl) ?_
      refine lv_lload hx hb dX8_comesBefore_55 (lv_at hl 2 rfl) ?_
      refine W.lcmp hx hb dX8_comesBefore_57 ?_
      refine lv_if_lt (tgt := 79) hx hb dX8_comesBefore_58 (by decide) (fun c_45 => ?_) (fun c_45 => ?_)
      · have c_45 := lc_lt rfl rfl ((lg_cmp_lt _ _).mp c_45)
        refine lv_iconst (v := 1) hx hb dX8_comesBefore_79 (by decide) ?_
        refine lv_goto (tgt := 84) hx hb dX8_comesBefore_80 (by decide) ?_
        exact W.zret (v := 1) hx hb hr rfl (fun t ht hW => ⟨⟨1, (), rfl, trivial, k_ret ht hI⟩, hS.F ht⟩) hS.2.2 dX8_comesBefore_84
      · have c_45 := ln_lt rfl rfl (fun h9 => c_45 ((lg_cmp_lt _ _).mpr h9))
        refine lv_lload_n hx hb dX8_comesBefore_61 rfl (lv_at hl 3 rfl) ?_
        refine lv_lload hx hb dX8_comesBefore_62 (lv_at hl 2 rfl) ?_
        refine W.lcmp hx hb dX8_comesBefore_64 ?_
        refine lv_if_ne (tgt := 83) hx hb dX8_comesBefore_65 (by decide) (fun c_46 => ?_) (fun c_46 => ?_)
        · have c_46 := ln_eq rfl rfl (fun h9 => c_46 ((lg_cmp_eq _ _).mpr h9))
          refine lv_iconst (v := 0) hx hb dX8_comesBefore_83 (by decide) ?_
          exact W.zret (v := 0) hx hb hr rfl (fun t ht hW => ⟨⟨0, (), rfl, trivial, k_ret ht hI⟩, hS.F ht⟩) hS.2.2 dX8_comesBefore_84
        · have c_46 := lc_eq rfl rfl ((lg_cmp_eq _ _).mp c_46)
          refine lv_aload_n hx hb dX8_comesBefore_68 rfl (lv_at hl 4 rfl) ?_
          refine k_get (ci := 8) (v := .int x_2) (C := RX8) (T := TX8) (N := 18) hx hb hts (fun _ h0_ => List.mem_cons_of_mem _ (List.mem_append_right _ (List.mem_append_right _ (List.mem_append_left _ h0_)))) hown hK hI i_h0.1 k_1 rfl 0 (by decide) (hts (.fieldLink RX8 25 "DeadlineShare$Task" "number" "I") (List.mem_cons_of_mem _ (List.mem_append_left _ (List.mem_of_getElem? (i := 5) rfl)))) (fun _ h9 => h9) rfl dX8_comesBefore_69 ?_
          refine lv_aload_n hx hb dX8_comesBefore_72 rfl (lv_at hl 5 rfl) ?_
          refine k_get (ci := 8) (v := .int x_21) (C := RX8) (T := TX8) (N := 18) hx hb hts (fun _ h0_ => List.mem_cons_of_mem _ (List.mem_append_right _ (List.mem_append_right _ (List.mem_append_left _ h0_)))) hown hK hI i_p1.1 k_20 rfl 0 (by decide) (hts (.fieldLink RX8 25 "DeadlineShare$Task" "number" "I") (List.mem_cons_of_mem _ (List.mem_append_left _ (List.mem_of_getElem? (i := 5) rfl)))) (fun _ h9 => h9) rfl dX8_comesBefore_73 ?_
          refine lv_icmp_ge (tgt := 83) hx hb dX8_comesBefore_76 (by decide) (fun c_47 => ?_) (fun c_47 => ?_)
          · have c_47 := kc_le rfl rfl c_47
            refine lv_iconst (v := 0) hx hb dX8_comesBefore_83 (by decide) ?_
            exact W.zret (v := 0) hx hb hr rfl (fun t ht hW => ⟨⟨0, (), rfl, trivial, k_ret ht hI⟩, hS.F ht⟩) hS.2.2 dX8_comesBefore_84
          · have c_47 := kn_le rfl rfl c_47
            refine lv_iconst (v := 1) hx hb dX8_comesBefore_79 (by decide) ?_
            refine lv_goto (tgt := 84) hx hb dX8_comesBefore_80 (by decide) ?_
            exact W.zret (v := 1) hx hb hr rfl (fun t ht hW => ⟨⟨1, (), rfl, trivial, k_ret ht hI⟩, hS.F ht⟩) hS.2.2 dX8_comesBefore_84
theorem tw_66 : q_g (.selects RX6 yX6_wholeV yX6_wholeV) := ⟨(List.mem_append_right _ (List.mem_of_getElem? (i := 811) (by decide +kernel))), good_of_word (by decide +kernel)⟩
theorem tw_67 : q_g (.instanceMethod yX6_wholeV) := ⟨(List.mem_append_right _ (List.mem_of_getElem? (i := 810) (by decide +kernel))), good_of_word (by decide +kernel)⟩
theorem tw_68 : q_g (.methodLink RX6 176 yX6_wholeV) := ⟨(List.mem_append_right _ (List.mem_of_getElem? (i := 809) (by decide +kernel))), good_of_word (by decide +kernel)⟩
theorem tw_69 : q_g (.constantLong RX6 192 (9223372036854775807)) := ⟨(List.mem_append_right _ (List.mem_of_getElem? (i := 813) (by decide +kernel))), good_of_word (by decide +kernel)⟩
theorem tw_70 : q_g (.selects RX8 yX8_comesBefore yX8_comesBefore) := ⟨(List.mem_append_right _ (List.mem_of_getElem? (i := 817) (by decide +kernel))), good_of_word (by decide +kernel)⟩
theorem tw_71 : q_g (.instanceMethod yX8_comesBefore) := ⟨(List.mem_append_right _ (List.mem_of_getElem? (i := 816) (by decide +kernel))), good_of_word (by decide +kernel)⟩
theorem tw_72 : q_g (.methodLink RX6 186 yX8_comesBefore) := ⟨(List.mem_append_right _ (List.mem_of_getElem? (i := 815) (by decide +kernel))), good_of_word (by decide +kernel)⟩
theorem tw_73 : q_g (.selects RX6 yX6_has yX6_has) := ⟨(List.mem_append_right _ (List.mem_of_getElem? (i := 481) (by decide +kernel))), good_of_word (by decide +kernel)⟩
theorem tw_74 : q_g (.instanceMethod yX6_has) := ⟨(List.mem_append_right _ (List.mem_of_getElem? (i := 480) (by decide +kernel))), good_of_word (by decide +kernel)⟩
theorem tw_75 : q_g (.methodLink RX6 194 yX6_has) := ⟨(List.mem_append_right _ (List.mem_of_getElem? (i := 814) (by decide +kernel))), good_of_word (by decide +kernel)⟩
theorem tw_76 : q_g (.code yX6_firstDeadline cX6_firstDeadline 7 (some .int)) := ⟨(List.mem_append_right _ (List.mem_of_getElem? (i := 808) (by decide +kernel))), good_of_word (by decide +kernel)⟩
def ow_c_X6_firstDeadline : List Cond := [.fieldLink RX6 48 "DeadlineShare$State" "count" "I", .fieldLink RX6 11 "DeadlineShare$State" "tasks" "[LDeadlineShare$Task;", .methodLink RX6 111 yX8_isOn, .instanceMethod yX8_isOn, .selects RX8 yX8_isOn yX8_isOn, .initialized RX8, .fieldLink RX6 79 "DeadlineShare$Task" "v" "J", .methodLink RX6 194 yX6_has, .instanceMethod yX6_has, .selects RX6 yX6_has yX6_has, .initialized RX6, .methodLink RX6 186 yX8_comesBefore, .instanceMethod yX8_comesBefore, .selects RX8 yX8_comesBefore yX8_comesBefore, .constantLong RX6 192 (9223372036854775807), .methodLink RX6 176 yX6_wholeV, .instanceMethod yX6_wholeV, .selects RX6 yX6_wholeV yX6_wholeV]
def wq_c_X6_firstDeadline : List Cond := .code yX6_firstDeadline cX6_firstDeadline 7 (some .int) :: (ow_c_X6_firstDeadline ++ (u_ws RX6 TX6 10 ++ (wq_c_X8_isOn ++ (u_ws RX8 TX8 18 ++ (wq_c_X6_has ++ (wq_c_X8_comesBefore ++ (wq_c_X6_wholeV ++ ([] : List Cond))))))))
theorem tb_c_X6_firstDeadline : ∀ w ∈ wq_c_X6_firstDeadline, q_g w := by
  unfold wq_c_X6_firstDeadline ow_c_X6_firstDeadline
  exact q_cons tw_76 (q_app (q_cons tw_13 (q_cons tw_12 (q_cons tw_11 (q_cons tw_10 (q_cons tw_9 (q_cons tw_8 (q_cons tw_7 (q_cons tw_75 (q_cons tw_74 (q_cons tw_73 (q_cons tw_47 (q_cons tw_72 (q_cons tw_71 (q_cons tw_70 (q_cons tw_69 (q_cons tw_68 (q_cons tw_67 (q_cons tw_66 q_nil)))))))))))))))))) (q_app tu_X6 (q_app tb_c_X8_isOn (q_app tu_X8 (q_app tb_c_X6_has (q_app tb_c_X8_comesBefore (q_app tb_c_X6_wholeV q_nil)))))))
set_option maxHeartbeats 4000000 in
set_option maxRecDepth 100000 in
theorem c_X6_firstDeadline (l : Launch) (dC : Nat → ClassId) (dI : Nat → Nat → Nat) (g : kG) (A : Nat → Prop) (hG : kWf g) (f : Nat → va_E) (h0 : Nat) (p1 : Int32) (i_h0 : ik g 6 h0) : Met l yX6_firstDeadline wq_c_X6_firstDeadline ({ frames := 3, cells := 0, slots := 0, locals := 69 } : Room) (va_Pc [.ref h0, .int p1] (fun U => kIn dC dI g A f U)) (va_Qi (fun (r : Int32) (_ : Unit) => True) (fun (_ : Unit) t => ∃ f1 : Nat → va_E, Iv dC dI g A f1 t.heap ∧ Kp g [10] f f1) A) 0 0 A := by
  refine Met.ofW (cc := cX6_firstDeadline) (maxL := 7) (ret := (some .int)) (by decide) rfl ?_
  intro p e s m args below meth c s₁ B hml hv
  obtain ⟨rfl, hI, hK, hE⟩ := hv
  have hx := B.exec
  have hb := B.bytes
  have hr := B.returns
  have hts := atoms_spec (ws := wq_c_X6_firstDeadline) B.pre
  have hown : s.vm.findClass RX6 = some m.cls := findClass_of_methodNamed B.named
  have hlocks := B.notSynchronized
  have hS : va_S A s.heap s.heap [] := va_S.rf
  have hk0 : Kp g [10] f f := Kp.rf
  have hl := lv_entry ([.ref h0, .int p1]) (n := 7) (Nat.le_of_ble_eq_true rfl)
  rw [lg_entry_eq]
  generalize (lg_sl ([.ref h0, .int p1]) ++ List.replicate (7 - (lg_sl ([.ref h0, .int p1])).length) Slot.unset).toArray = ls at hl ⊢
  have hl : lv_has ls 7 [(0, .ref h0), (1, .int p1)] := hl
  refine lv_iload_n hx hb dX6_firstDeadline_0 rfl (lv_at hl 1 rfl) ?_
  have J_14 : ∀ (y_1 : Int64) (f_2 : Nat → va_E) (H : Heap) (locs : List Loc) (ls : Array Slot), Iv dC dI g A f_2 H → va_S A s.heap H locs → Kp g [10] f f_2 → lv_has ls 7 [(0, .ref h0), (1, .int p1)] → W p l e (headSpec wq_c_X6_firstDeadline ({ frames := 3, cells := 0, slots := 0, locals := 69 } : Room)).room s m ([.ref h0, .int p1].toArray) below meth c H locs 0 0 (MQ below (va_Qi (fun (r : Int32) (_ : Unit) => True) (fun (_ : Unit) t => ∃ f1 : Nat → va_E, Iv dC dI g A f1 t.heap ∧ Kp g [10] f f1) A) ([.ref h0, .int p1].toArray) s 0 0 A) (F0 m 14 ls [.long y_1]) := by
    intro y_1 f_2 H locs ls hI hS kp_3 hl
    refine lv_lstore_n (lv' := [(2, .long y_1), (0, .ref h0), (1, .int p1)]) hx hb dX6_firstDeadline_14 rfl hl (by decide) rfl (fun ls hl => ?_)
    refine lv_iconst (v := (-1)) hx hb dX6_firstDeadline_15 (by decide) ?_
    refine lv_istore (lv' := [(4, .int (-1)), (2, .long y_1), (0, .ref h0), (1, .int p1)]) hx hb dX6_firstDeadline_16 hl (by decide) rfl (fun ls hl => ?_)
    refine lv_iconst (v := 0) hx hb dX6_firstDeadline_18 (by decide) ?_
    refine lv_istore (lv' := [(5, .int 0), (4, .int (-1)), (2, .long y_1), (0, .ref h0), (1, .int p1)]) hx hb dX6_firstDeadline_19 hl (by decide) rfl (fun ls hl => ?_)
    have K_21 : ∀ (nn : Nat) (y_4 : Int32) (y_5 : Int32) (H : Heap) (locs : List Loc) (ls : Array Slot), (12 - y_4.toInt).toNat < nn → Iv dC dI g A f_2 H → va_S A s.heap H locs → (0 ≤ y_4.toInt) → lv_has ls 7 [(5, .int y_4), (4, .int y_5), (2, .long y_1), (0, .ref h0), (1, .int p1)] → W p l e (headSpec wq_c_X6_firstDeadline ({ frames := 3, cells := 0, slots := 0, locals := 69 } : Room)).room s m ([.ref h0, .int p1].toArray) below meth c H locs 0 0 (MQ below (va_Qi (fun (r : Int32) (_ : Unit) => True) (fun (_ : Unit) t => ∃ f1 : Nat → va_E, Iv dC dI g A f1 t.heap ∧ Kp g [10] f f1) A) ([.ref h0, .int p1].toArray) s 0 0 A) (F0 m 21 ls []) := by
      intro nn
      induction nn with
      | zero => intro y_4 y_5 H locs ls m_7; exact absurd m_7 (Nat.not_lt_zero _)
      | succ nn ih =>
        intro y_4 y_5 H locs ls m_7 hI hS t_6 hl
        have g_8 := Int32.toInt_lt y_4
        have g_9 := Int32.le_toInt y_4
        refine lv_iload hx hb dX6_firstDeadline_21 (lv_at hl 0 rfl) ?_
        refine lv_aload_n hx hb dX6_firstDeadline_23 rfl (lv_at hl 3 rfl) ?_
        obtain ⟨x_11, x_12, x_13, x_14, x_15, k_10, b_16, b_17⟩ := op_6 hI i_h0
        refine k_get (ci := 6) (v := .int x_11) (C := RX6) (T := TX6) (N := 10) hx hb hts (fun _ h0_ => List.mem_cons_of_mem _ (List.mem_append_right _ (List.mem_append_left _ h0_))) hown hK hI i_h0.1 k_10 rfl 5 (by decide) (hts (.fieldLink RX6 48 "DeadlineShare$State" "count" "I") (List.mem_cons_of_mem _ (List.mem_append_left _ (List.mem_of_getElem? (i := 0) rfl)))) (fun _ h9 => h9) rfl dX6_firstDeadline_24 ?_
        refine lv_icmp_ge (tgt := 91) hx hb dX6_firstDeadline_27 (by decide) (fun c_18 => ?_) (fun c_18 => ?_)
        · have c_18 := kc_le rfl rfl c_18
          refine lv_iload hx hb dX6_firstDeadline_91 (lv_at hl 1 rfl) ?_
          exact W.iret (v := y_5) hx hb hr (fun t ht hW => ⟨⟨y_5, (), rfl, trivial, ⟨f_2, k_ret ht hI, kp_3⟩⟩, hS.F ht⟩) hS.2.2 dX6_firstDeadline_93
        · have c_18 := kn_le rfl rfl c_18
          refine lv_aload_n hx hb dX6_firstDeadline_30 rfl (lv_at hl 3 rfl) ?_
          refine k_get (ci := 6) (v := .ref (gr g h0 1)) (C := RX6) (T := TX6) (N := 10) hx hb hts (fun _ h0_ => List.mem_cons_of_mem _ (List.mem_append_right _ (List.mem_append_left _ h0_))) hown hK hI i_h0.1 k_10 rfl 1 (by decide) (hts (.fieldLink RX6 11 "DeadlineShare$State" "tasks" "[LDeadlineShare$Task;") (List.mem_cons_of_mem _ (List.mem_append_left _ (List.mem_of_getElem? (i := 1) rfl)))) (fun _ h9 => h9) rfl dX6_firstDeadline_31 ?_
          have i_20 := kw_6_1 hG i_h0
          refine lv_iload hx hb dX6_firstDeadline_34 (lv_at hl 0 rfl) ?_
          obtain ⟨q_22, k_21, b_23⟩ := op_20 hI i_20
          refine k_aald hx hb hK hI i_20.1 4 k_21 rfl (vp_in_iff.mpr (by omega)) b_23 (fun _ hj => kw_20 hG i_20 hj) dX6_firstDeadline_36 (fun a_24 i_25 => ?_)
          refine lv_astore (lv' := [(6, .ref a_24), (5, .int y_4), (4, .int y_5), (2, .long y_1), (0, .ref h0), (1, .int p1)]) hx hb dX6_firstDeadline_37 hl (by decide) rfl (fun ls hl => ?_)
          refine lv_aload hx hb dX6_firstDeadline_39 (lv_at hl 0 rfl) ?_
          obtain ⟨x_27, x_28, x_29, x_30, x_31, x_32, x_33, x_34, x_35, x_36, x_37, x_38, x_39, x_40, x_41, x_42, k_26⟩ := op_8 hI i_25
          refine va_calli (va_runV (As := []) (rest := []) ⟨hx, hb, hml, hown, hts⟩ (c_X8_isOn l dC dI g A hG f_2 a_24 i_25) (cwV 0 hts (gi_V (fun w_ h0_ => ⟨List.mem_cons_of_mem _ (List.mem_append_right _ (List.mem_append_right _ (List.mem_append_left _ h0_))), (tb_c_X8_isOn w_ h0_).2⟩) (List.mem_cons_of_mem _ (List.mem_append_left _ (List.mem_of_getElem? (i := 2) rfl))) (List.mem_cons_of_mem _ (List.mem_append_left _ (List.mem_of_getElem? (i := 3) rfl))) (List.mem_cons_of_mem _ (List.mem_append_left _ (List.mem_of_getElem? (i := 4) rfl))) (List.mem_cons_of_mem _ (List.mem_append_left _ (List.mem_of_getElem? (i := 5) rfl)))) rfl rfl rfl (by decide +kernel) ⟨Nat.le_of_ble_eq_true rfl, Nat.le_of_ble_eq_true rfl⟩) ⟨fun a U g mk q => ⟨q.1, q.2.calling rfl rfl⟩, k_recv hK hI i_25.1 k_26 (ci := 8) rfl, fun U hU hW => ⟨rfl, kIn.of hI hK hE hS hU hW⟩⟩ rfl rfl hl.1 rfl (lv_room (Nat.le_of_ble_eq_true rfl)) dX6_firstDeadline_41 ⟨Nat.le_of_ble_eq_true rfl, Nat.le_of_ble_eq_true rfl⟩) hS (fun q _ h => h) (fun q h => h) (fun r_44 u t H1 locs ht hvm w_43 hB hz1 hk1 hS => ?_)
          have hI : Iv dC dI g A f_2 t.heap := hB
          rw [ht] at hI
          generalize H1 = H at hI hS ⊢
          refine W.widen (k := 0) (n := 0) (Nat.le_of_ble_eq_true rfl) (Nat.le_of_ble_eq_true rfl) ?_
          have J_85 : ∀ (y_45 : Int32) (H : Heap) (locs : List Loc) (ls : Array Slot), Iv dC dI g A f_2 H → va_S A s.heap H locs → lv_has ls 7 [(6, .ref a_24), (5, .int y_4), (4, .int y_45), (2, .long y_1), (0, .ref h0), (1, .int p1)] → W p l e (headSpec wq_c_X6_firstDeadline ({ frames := 3, cells := 0, slots := 0, locals := 69 } : Room)).room s m ([.ref h0, .int p1].toArray) below meth c H locs 0 0 (MQ below (va_Qi (fun (r : Int32) (_ : Unit) => True) (fun (_ : Unit) t => ∃ f1 : Nat → va_E, Iv dC dI g A f1 t.heap ∧ Kp g [10] f f1) A) ([.ref h0, .int p1].toArray) s 0 0 A) (F0 m 85 ls []) := by
            intro y_45 H locs ls hI hS  hl
            obtain ⟨v_46, ev_46⟩ : ∃ y : Int32, y = y_4 + Int32.ofInt 1 := ⟨_, rfl⟩
            refine lv_iinc (v := v_46) (lv' := [(5, .int v_46), (6, .ref a_24), (4, .int y_45), (2, .long y_1), (0, .ref h0), (1, .int p1)]) hx hb dX6_firstDeadline_85 hl (k := 1) rfl ev_46.symm (by decide) rfl (fun ls hl => ?_)
            have tv_46 := k_inc y_4
            rw [← ev_46] at tv_46
            refine lv_goto (tgt := 21) hx hb dX6_firstDeadline_88 (by decide) ?_
            exact ih v_46 y_45 _ _ _ (by omega) hI hS (by first | omega | decide) (lv_sub hl [0, 2, 3, 4, 5] rfl)
          refine lv_if_eq (tgt := 85) hx hb dX6_firstDeadline_44 (by decide) (fun c_47 => ?_) (fun c_47 => ?_)
          · have c_47 := kc_eq rfl (by decide : Int32.toInt 0 = 0) c_47
            exact J_85 y_5 _ _ _ hI hS  (lv_sub hl [0, 1, 2, 3, 4, 5] rfl)
          · have c_47 := kn_eq rfl (by decide : Int32.toInt 0 = 0) c_47
            refine lv_aload hx hb dX6_firstDeadline_47 (lv_at hl 0 rfl) ?_
            refine k_get (ci := 8) (v := .long x_31) (C := RX8) (T := TX8) (N := 18) hx hb hts (fun _ h0_ => List.mem_cons_of_mem _ (List.mem_append_right _ (List.mem_append_right _ (List.mem_append_right _ (List.mem_append_left _ h0_))))) hown hK hI i_25.1 k_26 rfl 5 (by decide) (hts (.fieldLink RX6 79 "DeadlineShare$Task" "v" "J") (List.mem_cons_of_mem _ (List.mem_append_left _ (List.mem_of_getElem? (i := 6) rfl)))) (fun _ h9 => h9) rfl dX6_firstDeadline_49 ?_
            refine lv_lload_n hx hb dX6_firstDeadline_52 rfl (lv_at hl 3 rfl) ?_
            refine W.lcmp hx hb dX6_firstDeadline_53 ?_
            refine lv_if_gt (tgt := 85) hx hb dX6_firstDeadline_54 (by decide) (fun c_48 => ?_) (fun c_48 => ?_)
            · have c_48 := lc_lt rfl rfl ((lg_cmp_gt _ _).mp c_48)
              exact J_85 y_5 _ _ _ hI hS  (lv_sub hl [0, 1, 2, 3, 4, 5] rfl)
            · have c_48 := ln_lt rfl rfl (fun h9 => c_48 ((lg_cmp_gt _ _).mpr h9))
              refine lv_aload_n hx hb dX6_firstDeadline_57 rfl (lv_at hl 4 rfl) ?_
              refine lv_iload hx hb dX6_firstDeadline_58 (lv_at hl 2 rfl) ?_
              refine va_calli (va_runV (As := [.int y_5]) (rest := []) ⟨hx, hb, hml, hown, hts⟩ (c_X6_has l dC dI g A hG f_2 h0 y_5 i_h0) (cwV 1 hts (gi_V (fun w_ h0_ => ⟨List.mem_cons_of_mem _ (List.mem_append_right _ (List.mem_append_right _ (List.mem_append_right _ (List.mem_append_right _ (List.mem_append_left _ h0_))))), (tb_c_X6_has w_ h0_).2⟩) (List.mem_cons_of_mem _ (List.mem_append_left _ (List.mem_of_getElem? (i := 7) rfl))) (List.mem_cons_of_mem _ (List.mem_append_left _ (List.mem_of_getElem? (i := 8) rfl))) (List.mem_cons_of_mem _ (List.mem_append_left _ (List.mem_of_getElem? (i := 9) rfl))) (List.mem_cons_of_mem _ (List.mem_append_left _ (List.mem_of_getElem? (i := 10) rfl)))) rfl rfl rfl (by decide +kernel) ⟨Nat.le_of_ble_eq_true rfl, Nat.le_of_ble_eq_true rfl⟩) ⟨fun a U g mk q => ⟨q.1, q.2.calling rfl rfl⟩, k_recv hK hI i_h0.1 k_10 (ci := 6) rfl, fun U hU hW => ⟨rfl, kIn.of hI hK hE hS hU hW⟩⟩ rfl rfl hl.1 rfl (lv_room (Nat.le_of_ble_eq_true rfl)) dX6_firstDeadline_60 ⟨Nat.le_of_ble_eq_true rfl, Nat.le_of_ble_eq_true rfl⟩) hS (fun q _ h => h) (fun q h => h) (fun r_50 u t H1 locs ht hvm w_49 hB hz1 hk1 hS => ?_)
              have hI : Iv dC dI g A f_2 t.heap := hB
              rw [ht] at hI
              generalize H1 = H at hI hS ⊢
              refine W.widen (k := 0) (n := 0) (Nat.le_of_ble_eq_true rfl) (Nat.le_of_ble_eq_true rfl) ?_
              have w_49 : r_50.toInt = 0 ∨ (0 ≤ y_5.toInt ∧ y_5.toInt < 12) := w_49
              have J_81 : ∀ (H : Heap) (locs : List Loc) (ls : Array Slot), Iv dC dI g A f_2 H → va_S A s.heap H locs → lv_has ls 7 [(6, .ref a_24), (5, .int y_4), (4, .int y_5), (2, .long y_1), (0, .ref h0), (1, .int p1)] → W p l e (headSpec wq_c_X6_firstDeadline ({ frames := 3, cells := 0, slots := 0, locals := 69 } : Room)).room s m ([.ref h0, .int p1].toArray) below meth c H locs 0 0 (MQ below (va_Qi (fun (r : Int32) (_ : Unit) => True) (fun (_ : Unit) t => ∃ f1 : Nat → va_E, Iv dC dI g A f1 t.heap ∧ Kp g [10] f f1) A) ([.ref h0, .int p1].toArray) s 0 0 A) (F0 m 81 ls []) := by
                intro H locs ls hI hS  hl
                refine lv_iload hx hb dX6_firstDeadline_81 (lv_at hl 1 rfl) ?_
                refine lv_istore (lv' := [(4, .int y_4), (6, .ref a_24), (5, .int y_4), (2, .long y_1), (0, .ref h0), (1, .int p1)]) hx hb dX6_firstDeadline_83 hl (by decide) rfl (fun ls hl => ?_)
                exact J_85 y_4 _ _ _ hI hS  (lv_sub hl [1, 2, 0, 3, 4, 5] rfl)
              refine lv_if_eq (tgt := 81) hx hb dX6_firstDeadline_63 (by decide) (fun c_51 => ?_) (fun c_51 => ?_)
              · have c_51 := kc_eq rfl (by decide : Int32.toInt 0 = 0) c_51
                exact J_81  _ _ _ hI hS  (lv_sub hl [0, 1, 2, 3, 4, 5] rfl)
              · have c_51 := kn_eq rfl (by decide : Int32.toInt 0 = 0) c_51
                refine lv_aload hx hb dX6_firstDeadline_66 (lv_at hl 0 rfl) ?_
                refine lv_aload_n hx hb dX6_firstDeadline_68 rfl (lv_at hl 4 rfl) ?_
                refine k_get (ci := 6) (v := .ref (gr g h0 1)) (C := RX6) (T := TX6) (N := 10) hx hb hts (fun _ h0_ => List.mem_cons_of_mem _ (List.mem_append_right _ (List.mem_append_left _ h0_))) hown hK hI i_h0.1 k_10 rfl 1 (by decide) (hts (.fieldLink RX6 11 "DeadlineShare$State" "tasks" "[LDeadlineShare$Task;") (List.mem_cons_of_mem _ (List.mem_append_left _ (List.mem_of_getElem? (i := 1) rfl)))) (fun _ h9 => h9) rfl dX6_firstDeadline_69 ?_
                refine lv_iload hx hb dX6_firstDeadline_72 (lv_at hl 2 rfl) ?_
                refine k_aald hx hb hK hI i_20.1 4 k_21 rfl (vp_in_iff.mpr (by omega)) b_23 (fun _ hj => kw_20 hG i_20 hj) dX6_firstDeadline_74 (fun a_54 i_55 => ?_)
                refine va_calli (va_runV (As := [.ref a_54]) (rest := []) ⟨hx, hb, hml, hown, hts⟩ (c_X8_comesBefore l dC dI g A hG f_2 a_24 a_54 i_25 i_55) (cwV 1 hts (gi_V (fun w_ h0_ => ⟨List.mem_cons_of_mem _ (List.mem_append_right _ (List.mem_append_right _ (List.mem_append_right _ (List.mem_append_right _ (List.mem_append_right _ (List.mem_append_left _ h0_)))))), (tb_c_X8_comesBefore w_ h0_).2⟩) (List.mem_cons_of_mem _ (List.mem_append_left _ (List.mem_of_getElem? (i := 11) rfl))) (List.mem_cons_of_mem _ (List.mem_append_left _ (List.mem_of_getElem? (i := 12) rfl))) (List.mem_cons_of_mem _ (List.mem_append_left _ (List.mem_of_getElem? (i := 13) rfl))) (List.mem_cons_of_mem _ (List.mem_append_left _ (List.mem_of_getElem? (i := 5) rfl)))) rfl rfl rfl (by decide +kernel) ⟨Nat.le_of_ble_eq_true rfl, Nat.le_of_ble_eq_true rfl⟩) ⟨fun a U g mk q => ⟨q.1, q.2.calling rfl rfl⟩, k_recv hK hI i_25.1 k_26 (ci := 8) rfl, fun U hU hW => ⟨rfl, kIn.of hI hK hE hS hU hW⟩⟩ rfl rfl hl.1 rfl (lv_room (Nat.le_of_ble_eq_true rfl)) dX6_firstDeadline_75 ⟨Nat.le_of_ble_eq_true rfl, Nat.le_of_ble_eq_true rfl⟩) hS (fun q _ h => h) (fun q h => h) (fun r_57 u t H1 locs ht hvm w_56 hB hz1 hk1 hS => ?_)
                have hI : Iv dC dI g A f_2 t.heap := hB
                rw [ht] at hI
                generalize H1 = H at hI hS ⊢
                refine W.widen (k := 0) (n := 0) (Nat.le_of_ble_eq_true rfl) (Nat.le_of_ble_eq_true rfl) ?_
                refine lv_if_eq (tgt := 85) hx hb dX6_firstDeadline_78 (by decide) (fun c_58 => ?_) (fun c_58 => ?_)
                · have c_58 := kc_eq rfl (by decide : Int32.toInt 0 = 0) c_58
                  exact J_85 y_5 _ _ _ hI hS  (lv_sub hl [0, 1, 2, 3, 4, 5] rfl)
                · have c_58 := kn_eq rfl (by decide : Int32.toInt 0 = 0) c_58
                  exact J_81  _ _ _ hI hS  (lv_sub hl [0, 1, 2, 3, 4, 5] rfl)
    exact K_21 _ 0 (-1) _ _ _ (Nat.lt_succ_self _) hI hS (by first | omega | decide | (simp only [show Int32.toInt 0 = 0 from by decide, show Int32.toInt (-1) = (-1) from by decide]; omega)) (lv_sub hl [0, 1, 2, 3, 4] rfl)
  refine lv_if_eq (tgt := 11) hx hb dX6_firstDeadline_1 (by decide) (fun c_59 => ?_) (fun c_59 => ?_)
  · have c_59 := kc_eq rfl (by decide : Int32.toInt 0 = 0) c_59
    refine lv_ldc2 hx hb hown (hts (.constantLong RX6 192 (9223372036854775807)) (List.mem_cons_of_mem _ (List.mem_append_left _ (List.mem_of_getElem? (i := 14) rfl)))) dX6_firstDeadline_11 ?_
    exact J_14 9223372036854775807 f _ _ _ hI hS hk0 (lv_sub hl [0, 1] rfl)
  · have c_59 := kn_eq rfl (by decide : Int32.toInt 0 = 0) c_59
    refine lv_aload_n hx hb dX6_firstDeadline_4 rfl (lv_at hl 0 rfl) ?_
    obtain ⟨x_61, x_62, x_63, x_64, x_65, k_60, b_66, b_67⟩ := op_6 hI i_h0
    refine va_calll (va_runV (As := []) (rest := []) ⟨hx, hb, hml, hown, hts⟩ (c_X6_wholeV l dC dI g A hG f h0 i_h0) (cwV 0 hts (gi_V (fun w_ h0_ => ⟨List.mem_cons_of_mem _ (List.mem_append_right _ (List.mem_append_right _ (List.mem_append_right _ (List.mem_append_right _ (List.mem_append_right _ (List.mem_append_right _ (List.mem_append_left _ h0_))))))), (tb_c_X6_wholeV w_ h0_).2⟩) (List.mem_cons_of_mem _ (List.mem_append_left _ (List.mem_of_getElem? (i := 15) rfl))) (List.mem_cons_of_mem _ (List.mem_append_left _ (List.mem_of_getElem? (i := 16) rfl))) (List.mem_cons_of_mem _ (List.mem_append_left _ (List.mem_of_getElem? (i := 17) rfl))) (List.mem_cons_of_mem _ (List.mem_append_left _ (List.mem_of_getElem? (i := 10) rfl)))) rfl rfl rfl (by decide +kernel) ⟨Nat.le_of_ble_eq_true rfl, Nat.le_of_ble_eq_true rfl⟩) ⟨fun a U g mk q => ⟨q.1, q.2.calling rfl rfl⟩, k_recv hK hI i_h0.1 k_60 (ci := 6) rfl, fun U hU hW => ⟨rfl, kIn.of hI hK hE hS hU hW⟩⟩ rfl rfl hl.1 rfl (lv_room (Nat.le_of_ble_eq_true rfl)) dX6_firstDeadline_5 ⟨Nat.le_of_ble_eq_true rfl, Nat.le_of_ble_eq_true rfl⟩) hS (fun q _ h => h) (fun q h => h) (fun r_70 u t H1 locs ht hvm w_69 hB hz1 hk1 hS => ?_)
    obtain ⟨f_68, hI, kc_71⟩ := hB
    rw [ht] at hI
    have k_72 : f_68 h0 = .inr (6, [.ref (gr g h0 0), .ref (gr g h0 1), .ref (gr g h0 2), .ref (gr g h0 3), .ref (gr g h0 4), .int x_61, .int x_62, .long x_63, .int x_64, .int x_65]) := Kp.at kc_71 i_h0 (by decide) k_60
    have kp_73 := Kp.call hk0 kc_71 (by decide)
    generalize H1 = H at hI hS ⊢
    refine W.widen (k := 0) (n := 0) (Nat.le_of_ble_eq_true rfl) (Nat.le_of_ble_eq_true rfl) ?_
    refine lv_goto (tgt := 14) hx hb dX6_firstDeadline_8 (by decide) ?_
    exact J_14 r_70 f_68 _ _ _ hI hS kp_73 (lv_sub hl [0, 1] rfl)
theorem tw_77 : q_g (.fieldLink RX6 34 "DeadlineShare$State" "last" "I") := ⟨(List.mem_append_right _ (List.mem_of_getElem? (i := 241) (by decide +kernel))), good_of_word (by decide +kernel)⟩
theorem tw_78 : q_g (.code yX6_nextInTurn cX6_nextInTurn 3 (some .int)) := ⟨(List.mem_append_right _ (List.mem_of_getElem? (i := 823) (by decide +kernel))), good_of_word (by decide +kernel)⟩
def ow_c_X6_nextInTurn : List Cond := [.fieldLink RX6 48 "DeadlineShare$State" "count" "I", .fieldLink RX6 34 "DeadlineShare$State" "last" "I", .methodLink RX6 194 yX6_has, .instanceMethod yX6_has, .selects RX6 yX6_has yX6_has, .initialized RX6, .fieldLink RX6 11 "DeadlineShare$State" "tasks" "[LDeadlineShare$Task;", .methodLink RX6 111 yX8_isOn, .instanceMethod yX8_isOn, .selects RX8 yX8_isOn yX8_isOn, .initialized RX8]
def wq_c_X6_nextInTurn : List Cond := .code yX6_nextInTurn cX6_nextInTurn 3 (some .int) :: (ow_c_X6_nextInTurn ++ (u_ws RX6 TX6 10 ++ (wq_c_X6_has ++ (wq_c_X8_isOn ++ ([] : List Cond)))))
theorem tb_c_X6_nextInTurn : ∀ w ∈ wq_c_X6_nextInTurn, q_g w := by
  unfold wq_c_X6_nextInTurn ow_c_X6_nextInTurn
  exact q_cons tw_78 (q_app (q_cons tw_13 (q_cons tw_77 (q_cons tw_75 (q_cons tw_74 (q_cons tw_73 (q_cons tw_47 (q_cons tw_12 (q_cons tw_11 (q_cons tw_10 (q_cons tw_9 (q_cons tw_8 q_nil))))))))))) (q_app tu_X6 (q_app tb_c_X6_has (q_app tb_c_X8_isOn q_nil))))
set_option maxHeartbeats 4000000 in
set_option maxRecDepth 100000 in
theorem c_X6_nextInTurn (l : Launch) (dC : Nat → ClassId) (dI : Nat → Nat → Nat) (g : kG) (A : Nat → Prop) (hG : kWf g) (f : Nat → va_E) (h0 : Nat) (i_h0 : ik g 6 h0) : Met l yX6_nextInTurn wq_c_X6_nextInTurn ({ frames := 1, cells := 0, slots := 0, locals := 21 } : Room) (va_Pc [.ref h0] (fun U => kIn dC dI g A f U)) (va_Qi (fun (r : Int32) (_ : Unit) => True) (fun (_ : Unit) t => Iv dC dI g A f t.heap) A) 0 0 A := by
  refine Met.ofW (cc := cX6_nextInTurn) (maxL := 3) (ret := (some .int)) (by decide) rfl ?_
  intro p e s m args below meth c s₁ B hml hv
  obtain ⟨rfl, hI, hK, hE⟩ := hv
  have hx := B.exec
  have hb := B.bytes
  have hr := B.returns
  have hts := atoms_spec (ws := wq_c_X6_nextInTurn) B.pre
  have hown : s.vm.findClass RX6 = some m.cls := findClass_of_methodNamed B.named
  have hlocks := B.notSynchronized
  have hS : va_S A s.heap s.heap [] := va_S.rf
  have hl := lv_entry ([.ref h0]) (n := 3) (Nat.le_of_ble_eq_true rfl)
  rw [lg_entry_eq]
  generalize (lg_sl ([.ref h0]) ++ List.replicate (3 - (lg_sl ([.ref h0])).length) Slot.unset).toArray = ls at hl ⊢
  have hl : lv_has ls 3 [(0, .ref h0)] := hl
  refine lv_iconst (v := 1) hx hb dX6_nextInTurn_0 (by decide) ?_
  refine lv_istore_n (lv' := [(1, .int 1), (0, .ref h0)]) hx hb dX6_nextInTurn_1 rfl hl (by decide) rfl (fun ls hl => ?_)
  have K_2 : ∀ (nn : Nat) (y_1 : Int32) (H : Heap) (locs : List Loc) (ls : Array Slot), (13 - y_1.toInt).toNat < nn → Iv dC dI g A f H → va_S A s.heap H locs → (1 ≤ y_1.toInt) → lv_has ls 3 [(1, .int y_1), (0, .ref h0)] → W p l e (headSpec wq_c_X6_nextInTurn ({ frames := 1, cells := 0, slots := 0, locals := 21 } : Room)).room s m ([.ref h0].toArray) below meth c H locs 0 0 (MQ below (va_Qi (fun (r : Int32) (_ : Unit) => True) (fun (_ : Unit) t => Iv dC dI g A f t.heap) A) ([.ref h0].toArray) s 0 0 A) (F0 m 2 ls []) := by
    intro nn
    induction nn with
    | zero => intro y_1 H locs ls m_3; exact absurd m_3 (Nat.not_lt_zero _)
    | succ nn ih =>
      intro y_1 H locs ls m_3 hI hS t_2 hl
      have g_4 := Int32.toInt_lt y_1
      have g_5 := Int32.le_toInt y_1
      refine lv_iload_n hx hb dX6_nextInTurn_2 rfl (lv_at hl 0 rfl) ?_
      refine lv_aload_n hx hb dX6_nextInTurn_3 rfl (lv_at hl 1 rfl) ?_
      obtain ⟨x_7, x_8, x_9, x_10, x_11, k_6, b_12, b_13⟩ := op_6 hI i_h0
      refine k_get (ci := 6) (v := .int x_7) (C := RX6) (T := TX6) (N := 10) hx hb hts (fun _ h0_ => List.mem_cons_of_mem _ (List.mem_append_right _ (List.mem_append_left _ h0_))) hown hK hI i_h0.1 k_6 rfl 5 (by decide) (hts (.fieldLink RX6 48 "DeadlineShare$State" "count" "I") (List.mem_cons_of_mem _ (List.mem_append_left _ (List.mem_of_getElem? (i := 0) rfl)))) (fun _ h9 => h9) rfl dX6_nextInTurn_4 ?_
      refine lv_icmp_gt (tgt := 50) hx hb dX6_nextInTurn_7 (by decide) (fun c_14 => ?_) (fun c_14 => ?_)
      · have c_14 := kc_lt rfl rfl c_14
        refine lv_iconst (v := (-1)) hx hb dX6_nextInTurn_50 (by decide) ?_
        exact W.iret (v := (-1)) hx hb hr (fun t ht hW => ⟨⟨(-1), (), rfl, trivial, k_ret ht hI⟩, hS.F ht⟩) hS.2.2 dX6_nextInTurn_51
      · have c_14 := kn_lt rfl rfl c_14
        refine lv_aload_n hx hb dX6_nextInTurn_10 rfl (lv_at hl 1 rfl) ?_
        refine k_get (ci := 6) (v := .int x_10) (C := RX6) (T := TX6) (N := 10) hx hb hts (fun _ h0_ => List.mem_cons_of_mem _ (List.mem_append_right _ (List.mem_append_left _ h0_))) hown hK hI i_h0.1 k_6 rfl 8 (by decide) (hts (.fieldLink RX6 34 "DeadlineShare$State" "last" "I") (List.mem_cons_of_mem _ (List.mem_append_left _ (List.mem_of_getElem? (i := 1) rfl)))) (fun _ h9 => h9) rfl dX6_nextInTurn_11 ?_
        refine lv_iload_n hx hb dX6_nextInTurn_14 rfl (lv_at hl 0 rfl) ?_
        refine lv_iadd hx hb dX6_nextInTurn_15 ?_
        refine lv_topi (fun v_15 ev_15 => ?_)
        have tv_15 := k_ad x_10 y_1
        rw [← ev_15] at tv_15
        refine lv_aload_n hx hb dX6_nextInTurn_16 rfl (lv_at hl 1 rfl) ?_
        refine k_get (ci := 6) (v := .int x_7) (C := RX6) (T := TX6) (N := 10) hx hb hts (fun _ h0_ => List.mem_cons_of_mem _ (List.mem_append_right _ (List.mem_append_left _ h0_))) hown hK hI i_h0.1 k_6 rfl 5 (by decide) (hts (.fieldLink RX6 48 "DeadlineShare$State" "count" "I") (List.mem_cons_of_mem _ (List.mem_append_left _ (List.mem_of_getElem? (i := 0) rfl)))) (fun _ h9 => h9) rfl dX6_nextInTurn_17 ?_
        refine lv_irem hx hb dX6_nextInTurn_20 (k_ne0 (by omega)) ?_
        refine lv_topi (fun v_16 ev_16 => ?_)
        refine lv_istore_n (lv' := [(2, .int v_16), (1, .int y_1), (0, .ref h0)]) hx hb dX6_nextInTurn_21 rfl hl (by decide) rfl (fun ls hl => ?_)
        refine lv_aload_n hx hb dX6_nextInTurn_22 rfl (lv_at hl 2 rfl) ?_
        refine lv_iload_n hx hb dX6_nextInTurn_23 rfl (lv_at hl 0 rfl) ?_
        refine va_calli (va_runV (As := [.int v_16]) (rest := []) ⟨hx, hb, hml, hown, hts⟩ (c_X6_has l dC dI g A hG f h0 v_16 i_h0) (cwV 1 hts (gi_V (fun w_ h0_ => ⟨List.mem_cons_of_mem _ (List.mem_append_right _ (List.mem_append_right _ (List.mem_append_left _ h0_))), (tb_c_X6_has w_ h0_).2⟩) (List.mem_cons_of_mem _ (List.mem_append_left _ (List.mem_of_getElem? (i := 2) rfl))) (List.mem_cons_of_mem _ (List.mem_append_left _ (List.mem_of_getElem? (i := 3) rfl))) (List.mem_cons_of_mem _ (List.mem_append_left _ (List.mem_of_getElem? (i := 4) rfl))) (List.mem_cons_of_mem _ (List.mem_append_left _ (List.mem_of_getElem? (i := 5) rfl)))) rfl rfl rfl (by decide +kernel) ⟨Nat.le_of_ble_eq_true rfl, Nat.le_of_ble_eq_true rfl⟩) ⟨fun a U g mk q => ⟨q.1, q.2.calling rfl rfl⟩, k_recv hK hI i_h0.1 k_6 (ci := 6) rfl, fun U hU hW => ⟨rfl, kIn.of hI hK hE hS hU hW⟩⟩ rfl rfl hl.1 rfl (lv_room (Nat.le_of_ble_eq_true rfl)) dX6_nextInTurn_24 ⟨Nat.le_of_ble_eq_true rfl, Nat.le_of_ble_eq_true rfl⟩) hS (fun q _ h => h) (fun q h => h) (fun r_18 u t H1 locs ht hvm w_17 hB hz1 hk1 hS => ?_)
        have hI : Iv dC dI g A f t.heap := hB
        rw [ht] at hI
        generalize H1 = H at hI hS ⊢
        refine W.widen (k := 0) (n := 0) (Nat.le_of_ble_eq_true rfl) (Nat.le_of_ble_eq_true rfl) ?_
        have w_17 : r_18.toInt = 0 ∨ (0 ≤ v_16.toInt ∧ v_16.toInt < 12) := w_17
        have J_44 : ∀ (H : Heap) (locs : List Loc) (ls : Array Slot), Iv dC dI g A f H → va_S A s.heap H locs → lv_has ls 3 [(2, .int v_16), (1, .int y_1), (0, .ref h0)] → W p l e (headSpec wq_c_X6_nextInTurn ({ frames := 1, cells := 0, slots := 0, locals := 21 } : Room)).room s m ([.ref h0].toArray) below meth c H locs 0 0 (MQ below (va_Qi (fun (r : Int32) (_ : Unit) => True) (fun (_ : Unit) t => Iv dC dI g A f t.heap) A) ([.ref h0].toArray) s 0 0 A) (F0 m 44 ls []) := by
          intro H locs ls hI hS  hl
          obtain ⟨v_19, ev_19⟩ : ∃ y : Int32, y = y_1 + Int32.ofInt 1 := ⟨_, rfl⟩
          refine lv_iinc (v := v_19) (lv' := [(1, .int v_19), (2, .int v_16), (0, .ref h0)]) hx hb dX6_nextInTurn_44 hl (k := 1) rfl ev_19.symm (by decide) rfl (fun ls hl => ?_)
          have tv_19 := k_inc y_1
          rw [← ev_19] at tv_19
          refine lv_goto (tgt := 2) hx hb dX6_nextInTurn_47 (by decide) ?_
          exact ih v_19 _ _ _ (by omega) hI hS (by first | omega | decide) (lv_sub hl [0, 2] rfl)
        refine lv_if_eq (tgt := 44) hx hb dX6_nextInTurn_27 (by decide) (fun c_20 => ?_) (fun c_20 => ?_)
        · have c_20 := kc_eq rfl (by decide : Int32.toInt 0 = 0) c_20
          exact J_44  _ _ _ hI hS  (lv_sub hl [0, 1, 2] rfl)
        · have c_20 := kn_eq rfl (by decide : Int32.toInt 0 = 0) c_20
          refine lv_aload_n hx hb dX6_nextInTurn_30 rfl (lv_at hl 2 rfl) ?_
          refine k_get (ci := 6) (v := .ref (gr g h0 1)) (C := RX6) (T := TX6) (N := 10) hx hb hts (fun _ h0_ => List.mem_cons_of_mem _ (List.mem_append_right _ (List.mem_append_left _ h0_))) hown hK hI i_h0.1 k_6 rfl 1 (by decide) (hts (.fieldLink RX6 11 "DeadlineShare$State" "tasks" "[LDeadlineShare$Task;") (List.mem_cons_of_mem _ (List.mem_append_left _ (List.mem_of_getElem? (i := 6) rfl)))) (fun _ h9 => h9) rfl dX6_nextInTurn_31 ?_
          have i_22 := kw_6_1 hG i_h0
          refine lv_iload_n hx hb dX6_nextInTurn_34 rfl (lv_at hl 0 rfl) ?_
          obtain ⟨q_24, k_23, b_25⟩ := op_20 hI i_22
          refine k_aald hx hb hK hI i_22.1 4 k_23 rfl (vp_in_iff.mpr (by omega)) b_25 (fun _ hj => kw_20 hG i_22 hj) dX6_nextInTurn_35 (fun a_26 i_27 => ?_)
          obtain ⟨x_29, x_30, x_31, x_32, x_33, x_34, x_35, x_36, x_37, x_38, x_39, x_40, x_41, x_42, x_43, x_44, k_28⟩ := op_8 hI i_27
          refine va_calli (va_runV (As := []) (rest := []) ⟨hx, hb, hml, hown, hts⟩ (c_X8_isOn l dC dI g A hG f a_26 i_27) (cwV 0 hts (gi_V (fun w_ h0_ => ⟨List.mem_cons_of_mem _ (List.mem_append_right _ (List.mem_append_right _ (List.mem_append_right _ (List.mem_append_left _ h0_)))), (tb_c_X8_isOn w_ h0_).2⟩) (List.mem_cons_of_mem _ (List.mem_append_left _ (List.mem_of_getElem? (i := 7) rfl))) (List.mem_cons_of_mem _ (List.mem_append_left _ (List.mem_of_getElem? (i := 8) rfl))) (List.mem_cons_of_mem _ (List.mem_append_left _ (List.mem_of_getElem? (i := 9) rfl))) (List.mem_cons_of_mem _ (List.mem_append_left _ (List.mem_of_getElem? (i := 10) rfl)))) rfl rfl rfl (by decide +kernel) ⟨Nat.le_of_ble_eq_true rfl, Nat.le_of_ble_eq_true rfl⟩) ⟨fun a U g mk q => ⟨q.1, q.2.calling rfl rfl⟩, k_recv hK hI i_27.1 k_28 (ci := 8) rfl, fun U hU hW => ⟨rfl, kIn.of hI hK hE hS hU hW⟩⟩ rfl rfl hl.1 rfl (lv_room (Nat.le_of_ble_eq_true rfl)) dX6_nextInTurn_36 ⟨Nat.le_of_ble_eq_true rfl, Nat.le_of_ble_eq_true rfl⟩) hS (fun q _ h => h) (fun q h => h) (fun r_46 u t H1 locs ht hvm w_45 hB hz1 hk1 hS => ?_)
          have hI : Iv dC dI g A f t.heap := hB
          rw [ht] at hI
          generalize H1 = H at hI hS ⊢
          refine W.widen (k := 0) (n := 0) (Nat.le_of_ble_eq_true rfl) (Nat.le_of_ble_eq_true rfl) ?_
          refine lv_if_eq (tgt := 44) hx hb dX6_nextInTurn_39 (by decide) (fun c_47 => ?_) (fun c_47 => ?_)
          · have c_47 := kc_eq rfl (by decide : Int32.toInt 0 = 0) c_47
            exact J_44  _ _ _ hI hS  (lv_sub hl [0, 1, 2] rfl)
          · have c_47 := kn_eq rfl (by decide : Int32.toInt 0 = 0) c_47
            refine lv_iload_n hx hb dX6_nextInTurn_42 rfl (lv_at hl 0 rfl) ?_
            exact W.iret (v := v_16) hx hb hr (fun t ht hW => ⟨⟨v_16, (), rfl, trivial, k_ret ht hI⟩, hS.F ht⟩) hS.2.2 dX6_nextInTurn_43
  exact K_2 _ 1 _ _ _ (Nat.lt_succ_self _) hI hS (by first | omega | decide | (simp only [show Int32.toInt 1 = 1 from by decide]; omega)) (lv_sub hl [0, 1] rfl)
theorem tw_79 : q_g (.code yX6_weightOfAll cX6_weightOfAll 3 (some .int)) := ⟨(List.mem_append_right _ (List.mem_of_getElem? (i := 494) (by decide +kernel))), good_of_word (by decide +kernel)⟩
def ow_c_X6_weightOfAll : List Cond := [.fieldLink RX6 48 "DeadlineShare$State" "count" "I", .fieldLink RX6 11 "DeadlineShare$State" "tasks" "[LDeadlineShare$Task;", .fieldLink RX6 69 "DeadlineShare$Task" "state" "I", .fieldLink RX6 72 "DeadlineShare$Task" "weight" "I"]
def wq_c_X6_weightOfAll : List Cond := .code yX6_weightOfAll cX6_weightOfAll 3 (some .int) :: (ow_c_X6_weightOfAll ++ (u_ws RX6 TX6 10 ++ (u_ws RX8 TX8 18 ++ ([] : List Cond))))
theorem tb_c_X6_weightOfAll : ∀ w ∈ wq_c_X6_weightOfAll, q_g w := by
  unfold wq_c_X6_weightOfAll ow_c_X6_weightOfAll
  exact q_cons tw_79 (q_app (q_cons tw_13 (q_cons tw_12 (q_cons tw_24 (q_cons tw_23 q_nil)))) (q_app tu_X6 (q_app tu_X8 q_nil)))
set_option maxHeartbeats 4000000 in
set_option maxRecDepth 100000 in
theorem c_X6_weightOfAll (l : Launch) (dC : Nat → ClassId) (dI : Nat → Nat → Nat) (g : kG) (A : Nat → Prop) (hG : kWf g) (f : Nat → va_E) (h0 : Nat) (i_h0 : ik g 6 h0) : Met l yX6_weightOfAll wq_c_X6_weightOfAll ({ frames := 0, cells := 0, slots := 0, locals := 0 } : Room) (va_Pc [.ref h0] (fun U => kIn dC dI g A f U)) (va_Qi (fun (r : Int32) (_ : Unit) => True) (fun (_ : Unit) t => Iv dC dI g A f t.heap) A) 0 0 A := by
  refine Met.ofW (cc := cX6_weightOfAll) (maxL := 3) (ret := (some .int)) (by decide) rfl ?_
  intro p e s m args below meth c s₁ B hml hv
  obtain ⟨rfl, hI, hK, hE⟩ := hv
  have hx := B.exec
  have hb := B.bytes
  have hr := B.returns
  have hts := atoms_spec (ws := wq_c_X6_weightOfAll) B.pre
  have hown : s.vm.findClass RX6 = some m.cls := findClass_of_methodNamed B.named
  have hlocks := B.notSynchronized
  have hS : va_S A s.heap s.heap [] := va_S.rf
  have hl := lv_entry ([.ref h0]) (n := 3) (Nat.le_of_ble_eq_true rfl)
  rw [lg_entry_eq]
  generalize (lg_sl ([.ref h0]) ++ List.replicate (3 - (lg_sl ([.ref h0])).length) Slot.unset).toArray = ls at hl ⊢
  have hl : lv_has ls 3 [(0, .ref h0)] := hl
  refine lv_iconst (v := 0) hx hb dX6_weightOfAll_0 (by decide) ?_
  refine lv_istore_n (lv' := [(1, .int 0), (0, .ref h0)]) hx hb dX6_weightOfAll_1 rfl hl (by decide) rfl (fun ls hl => ?_)
  refine lv_iconst (v := 0) hx hb dX6_weightOfAll_2 (by decide) ?_
  refine lv_istore_n (lv' := [(2, .int 0), (1, .int 0), (0, .ref h0)]) hx hb dX6_weightOfAll_3 rfl hl (by decide) rfl (fun ls hl => ?_)
  have K_4 : ∀ (nn : Nat) (y_1 : Int32) (y_2 : Int32) (H : Heap) (locs : List Loc) (ls : Array Slot), (12 - y_1.toInt).toNat < nn → Iv dC dI g A f H → va_S A s.heap H locs → (0 ≤ y_1.toInt) → lv_has ls 3 [(2, .int y_1), (1, .int y_2), (0, .ref h0)] → W p l e (headSpec wq_c_X6_weightOfAll ({ frames := 0, cells := 0, slots := 0, locals := 0 } : Room)).room s m ([.ref h0].toArray) below meth c H locs 0 0 (MQ below (va_Qi (fun (r : Int32) (_ : Unit) => True) (fun (_ : Unit) t => Iv dC dI g A f t.heap) A) ([.ref h0].toArray) s 0 0 A) (F0 m 4 ls []) := by
    intro nn
    induction nn with
    | zero => intro y_1 y_2 H locs ls m_4; exact absurd m_4 (Nat.not_lt_zero _)
    | succ nn ih =>
      intro y_1 y_2 H locs ls m_4 hI hS t_3 hl
      have g_5 := Int32.toInt_lt y_1
      have g_6 := Int32.le_toInt y_1
      refine lv_iload_n hx hb dX6_weightOfAll_4 rfl (lv_at hl 0 rfl) ?_
      refine lv_aload_n hx hb dX6_weightOfAll_5 rfl (lv_at hl 2 rfl) ?_
      obtain ⟨x_8, x_9, x_10, x_11, x_12, k_7, b_13, b_14⟩ := op_6 hI i_h0
      refine k_get (ci := 6) (v := .int x_8) (C := RX6) (T := TX6) (N := 10) hx hb hts (fun _ h0_ => List.mem_cons_of_mem _ (List.mem_append_right _ (List.mem_append_left _ h0_))) hown hK hI i_h0.1 k_7 rfl 5 (by decide) (hts (.fieldLink RX6 48 "DeadlineShare$State" "count" "I") (List.mem_cons_of_mem _ (List.mem_append_left _ (List.mem_of_getElem? (i := 0) rfl)))) (fun _ h9 => h9) rfl dX6_weightOfAll_6 ?_
      refine lv_icmp_ge (tgt := 43) hx hb dX6_weightOfAll_9 (by decide) (fun c_15 => ?_) (fun c_15 => ?_)
      · have c_15 := kc_le rfl rfl c_15
        refine lv_iload_n hx hb dX6_weightOfAll_43 rfl (lv_at hl 1 rfl) ?_
        exact W.iret (v := y_2) hx hb hr (fun t ht hW => ⟨⟨y_2, (), rfl, trivial, k_ret ht hI⟩, hS.F ht⟩) hS.2.2 dX6_weightOfAll_44
      · have c_15 := kn_le rfl rfl c_15
        refine lv_aload_n hx hb dX6_weightOfAll_12 rfl (lv_at hl 2 rfl) ?_
        refine k_get (ci := 6) (v := .ref (gr g h0 1)) (C := RX6) (T := TX6) (N := 10) hx hb hts (fun _ h0_ => List.mem_cons_of_mem _ (List.mem_append_right _ (List.mem_append_left _ h0_))) hown hK hI i_h0.1 k_7 rfl 1 (by decide) (hts (.fieldLink RX6 11 "DeadlineShare$State" "tasks" "[LDeadlineShare$Task;") (List.mem_cons_of_mem _ (List.mem_append_left _ (List.mem_of_getElem? (i := 1) rfl)))) (fun _ h9 => h9) rfl dX6_weightOfAll_13 ?_
        have i_17 := kw_6_1 hG i_h0
        refine lv_iload_n hx hb dX6_weightOfAll_16 rfl (lv_at hl 0 rfl) ?_
        obtain ⟨q_19, k_18, b_20⟩ := op_20 hI i_17
        refine k_aald hx hb hK hI i_17.1 4 k_18 rfl (vp_in_iff.mpr (by omega)) b_20 (fun _ hj => kw_20 hG i_17 hj) dX6_weightOfAll_17 (fun a_21 i_22 => ?_)
        obtain ⟨x_24, x_25, x_26, x_27, x_28, x_29, x_30, x_31, x_32, x_33, x_34, x_35, x_36, x_37, x_38, x_39, k_23⟩ := op_8 hI i_22
        refine k_get (ci := 8) (v := .int x_27) (C := RX8) (T := TX8) (N := 18) hx hb hts (fun _ h0_ => List.mem_cons_of_mem _ (List.mem_append_right _ (List.mem_append_right _ (List.mem_append_left _ h0_)))) hown hK hI i_22.1 k_23 rfl 4 (by decide) (hts (.fieldLink RX6 69 "DeadlineShare$Task" "state" "I") (List.mem_cons_of_mem _ (List.mem_append_left _ (List.mem_of_getElem? (i := 2) rfl)))) (fun _ h9 => h9) rfl dX6_weightOfAll_18 ?_
        refine lv_iconst (v := 1) hx hb dX6_weightOfAll_21 (by decide) ?_
        have J_37 : ∀ (y_40 : Int32) (H : Heap) (locs : List Loc) (ls : Array Slot), Iv dC dI g A f H → va_S A s.heap H locs → lv_has ls 3 [(2, .int y_1), (1, .int y_40), (0, .ref h0)] → W p l e (headSpec wq_c_X6_weightOfAll ({ frames := 0, cells := 0, slots := 0, locals := 0 } : Room)).room s m ([.ref h0].toArray) below meth c H locs 0 0 (MQ below (va_Qi (fun (r : Int32) (_ : Unit) => True) (fun (_ : Unit) t => Iv dC dI g A f t.heap) A) ([.ref h0].toArray) s 0 0 A) (F0 m 37 ls []) := by
          intro y_40 H locs ls hI hS  hl
          obtain ⟨v_41, ev_41⟩ : ∃ y : Int32, y = y_1 + Int32.ofInt 1 := ⟨_, rfl⟩
          refine lv_iinc (v := v_41) (lv' := [(2, .int v_41), (1, .int y_40), (0, .ref h0)]) hx hb dX6_weightOfAll_37 hl (k := 0) rfl ev_41.symm (by decide) rfl (fun ls hl => ?_)
          have tv_41 := k_inc y_1
          rw [← ev_41] at tv_41
          refine lv_goto (tgt := 4) hx hb dX6_weightOfAll_40 (by decide) ?_
          exact ih v_41 y_40 _ _ _ (by omega) hI hS (by first | omega | decide) (lv_sub hl [0, 1, 2] rfl)
        refine lv_icmp_ne (tgt := 37) hx hb dX6_weightOfAll_22 (by decide) (fun c_42 => ?_) (fun c_42 => ?_)
        · have c_42 := kn_eq rfl (by decide : Int32.toInt 1 = 1) c_42
          exact J_37 y_2 _ _ _ hI hS  (lv_sub hl [0, 1, 2] rfl)
        · have c_42 := kc_eq rfl (by decide : Int32.toInt 1 = 1) c_42
          refine lv_iload_n hx hb dX6_weightOfAll_25 rfl (lv_at hl 1 rfl) ?_
          refine lv_aload_n hx hb dX6_weightOfAll_26 rfl (lv_at hl 2 rfl) ?_
          refine k_get (ci := 6) (v := .ref (gr g h0 1)) (C := RX6) (T := TX6) (N := 10) hx hb hts (fun _ h0_ => List.mem_cons_of_mem _ (List.mem_append_right _ (List.mem_append_left _ h0_))) hown hK hI i_h0.1 k_7 rfl 1 (by decide) (hts (.fieldLink RX6 11 "DeadlineShare$State" "tasks" "[LDeadlineShare$Task;") (List.mem_cons_of_mem _ (List.mem_append_left _ (List.mem_of_getElem? (i := 1) rfl)))) (fun _ h9 => h9) rfl dX6_weightOfAll_27 ?_
          refine lv_iload_n hx hb dX6_weightOfAll_30 rfl (lv_at hl 0 rfl) ?_
          refine k_aald hx hb hK hI i_17.1 4 k_18 rfl (vp_in_iff.mpr (by omega)) b_20 (fun _ hj => kw_20 hG i_17 hj) dX6_weightOfAll_31 (fun a_45 i_46 => ?_)
          obtain ⟨x_48, x_49, x_50, x_51, x_52, x_53, x_54, x_55, x_56, x_57, x_58, x_59, x_60, x_61, x_62, x_63, k_47⟩ := op_8 hI i_46
          refine k_get (ci := 8) (v := .int x_49) (C := RX8) (T := TX8) (N := 18) hx hb hts (fun _ h0_ => List.mem_cons_of_mem _ (List.mem_append_right _ (List.mem_append_right _ (List.mem_append_left _ h0_)))) hown hK hI i_46.1 k_47 rfl 2 (by decide) (hts (.fieldLink RX6 72 "DeadlineShare$Task" "weight" "I") (List.mem_cons_of_mem _ (List.mem_append_left _ (List.mem_of_getElem? (i := 3) rfl)))) (fun _ h9 => h9) rfl dX6_weightOfAll_32 ?_
          refine lv_iadd hx hb dX6_weightOfAll_35 ?_
          refine lv_topi (fun v_64 ev_64 => ?_)
          have tv_64 := k_ad y_2 x_49
          rw [← ev_64] at tv_64
          refine lv_istore_n (lv' := [(1, .int v_64), (2, .int y_1), (0, .ref h0)]) hx hb dX6_weightOfAll_36 rfl hl (by decide) rfl (fun ls hl => ?_)
          exact J_37 v_64 _ _ _ hI hS  (lv_sub hl [1, 0, 2] rfl)
  exact K_4 _ 0 0 _ _ _ (Nat.lt_succ_self _) hI hS (by first | omega | decide | (simp only [show Int32.toInt 0 = 0 from by decide, show Int32.toInt 0 = 0 from by decide]; omega)) (lv_sub hl [0, 1, 2] rfl)
theorem tw_80 : q_g (.code yX6_atWeight cX6_atWeight 4 (some .int)) := ⟨(List.mem_append_right _ (List.mem_of_getElem? (i := 835) (by decide +kernel))), good_of_word (by decide +kernel)⟩
def ow_c_X6_atWeight : List Cond := [.fieldLink RX6 48 "DeadlineShare$State" "count" "I", .fieldLink RX6 11 "DeadlineShare$State" "tasks" "[LDeadlineShare$Task;", .methodLink RX6 111 yX8_isOn, .instanceMethod yX8_isOn, .selects RX8 yX8_isOn yX8_isOn, .initialized RX8, .fieldLink RX6 72 "DeadlineShare$Task" "weight" "I"]
def wq_c_X6_atWeight : List Cond := .code yX6_atWeight cX6_atWeight 4 (some .int) :: (ow_c_X6_atWeight ++ (u_ws RX6 TX6 10 ++ (wq_c_X8_isOn ++ (u_ws RX8 TX8 18 ++ ([] : List Cond)))))
theorem tb_c_X6_atWeight : ∀ w ∈ wq_c_X6_atWeight, q_g w := by
  unfold wq_c_X6_atWeight ow_c_X6_atWeight
  exact q_cons tw_80 (q_app (q_cons tw_13 (q_cons tw_12 (q_cons tw_11 (q_cons tw_10 (q_cons tw_9 (q_cons tw_8 (q_cons tw_23 q_nil))))))) (q_app tu_X6 (q_app tb_c_X8_isOn (q_app tu_X8 q_nil))))
set_option maxHeartbeats 4000000 in
set_option maxRecDepth 100000 in
theorem c_X6_atWeight (l : Launch) (dC : Nat → ClassId) (dI : Nat → Nat → Nat) (g : kG) (A : Nat → Prop) (hG : kWf g) (f : Nat → va_E) (h0 : Nat) (p1 : Int32) (i_h0 : ik g 6 h0) : Met l yX6_atWeight wq_c_X6_atWeight ({ frames := 1, cells := 0, slots := 0, locals := 20 } : Room) (va_Pc [.ref h0, .int p1] (fun U => kIn dC dI g A f U)) (va_Qi (fun (r : Int32) (_ : Unit) => True) (fun (_ : Unit) t => Iv dC dI g A f t.heap) A) 0 0 A := by
  refine Met.ofW (cc := cX6_atWeight) (maxL := 4) (ret := (some .int)) (by decide) rfl ?_
  intro p e s m args below meth c s₁ B hml hv
  obtain ⟨rfl, hI, hK, hE⟩ := hv
  have hx := B.exec
  have hb := B.bytes
  have hr := B.returns
  have hts := atoms_spec (ws := wq_c_X6_atWeight) B.pre
  have hown : s.vm.findClass RX6 = some m.cls := findClass_of_methodNamed B.named
  have hlocks := B.notSynchronized
  have hS : va_S A s.heap s.heap [] := va_S.rf
  have hl := lv_entry ([.ref h0, .int p1]) (n := 4) (Nat.le_of_ble_eq_true rfl)
  rw [lg_entry_eq]
  generalize (lg_sl ([.ref h0, .int p1]) ++ List.replicate (4 - (lg_sl ([.ref h0, .int p1])).length) Slot.unset).toArray = ls at hl ⊢
  have hl : lv_has ls 4 [(0, .ref h0), (1, .int p1)] := hl
  refine lv_iload_n hx hb dX6_atWeight_0 rfl (lv_at hl 1 rfl) ?_
  refine lv_istore_n (lv' := [(2, .int p1), (0, .ref h0), (1, .int p1)]) hx hb dX6_atWeight_1 rfl hl (by decide) rfl (fun ls hl => ?_)
  refine lv_iconst (v := 0) hx hb dX6_atWeight_2 (by decide) ?_
  refine lv_istore_n (lv' := [(3, .int 0), (2, .int p1), (0, .ref h0), (1, .int p1)]) hx hb dX6_atWeight_3 rfl hl (by decide) rfl (fun ls hl => ?_)
  have K_4 : ∀ (nn : Nat) (y_1 : Int32) (y_2 : Int32) (H : Heap) (locs : List Loc) (ls : Array Slot), (12 - y_1.toInt).toNat < nn → Iv dC dI g A f H → va_S A s.heap H locs → (0 ≤ y_1.toInt) → lv_has ls 4 [(3, .int y_1), (2, .int y_2), (0, .ref h0), (1, .int p1)] → W p l e (headSpec wq_c_X6_atWeight ({ frames := 1, cells := 0, slots := 0, locals := 20 } : Room)).room s m ([.ref h0, .int p1].toArray) below meth c H locs 0 0 (MQ below (va_Qi (fun (r : Int32) (_ : Unit) => True) (fun (_ : Unit) t => Iv dC dI g A f t.heap) A) ([.ref h0, .int p1].toArray) s 0 0 A) (F0 m 4 ls []) := by
    intro nn
    induction nn with
    | zero => intro y_1 y_2 H locs ls m_4; exact absurd m_4 (Nat.not_lt_zero _)
    | succ nn ih =>
      intro y_1 y_2 H locs ls m_4 hI hS t_3 hl
      have g_5 := Int32.toInt_lt y_1
      have g_6 := Int32.le_toInt y_1
      refine lv_iload_n hx hb dX6_atWeight_4 rfl (lv_at hl 0 rfl) ?_
      refine lv_aload_n hx hb dX6_atWeight_5 rfl (lv_at hl 2 rfl) ?_
      obtain ⟨x_8, x_9, x_10, x_11, x_12, k_7, b_13, b_14⟩ := op_6 hI i_h0
      refine k_get (ci := 6) (v := .int x_8) (C := RX6) (T := TX6) (N := 10) hx hb hts (fun _ h0_ => List.mem_cons_of_mem _ (List.mem_append_right _ (List.mem_append_left _ h0_))) hown hK hI i_h0.1 k_7 rfl 5 (by decide) (hts (.fieldLink RX6 48 "DeadlineShare$State" "count" "I") (List.mem_cons_of_mem _ (List.mem_append_left _ (List.mem_of_getElem? (i := 0) rfl)))) (fun _ h9 => h9) rfl dX6_atWeight_6 ?_
      refine lv_icmp_ge (tgt := 48) hx hb dX6_atWeight_9 (by decide) (fun c_15 => ?_) (fun c_15 => ?_)
      · have c_15 := kc_le rfl rfl c_15
        refine lv_iconst (v := (-1)) hx hb dX6_atWeight_48 (by decide) ?_
        exact W.iret (v := (-1)) hx hb hr (fun t ht hW => ⟨⟨(-1), (), rfl, trivial, k_ret ht hI⟩, hS.F ht⟩) hS.2.2 dX6_atWeight_49
      · have c_15 := kn_le rfl rfl c_15
        refine lv_aload_n hx hb dX6_atWeight_12 rfl (lv_at hl 2 rfl) ?_
        refine k_get (ci := 6) (v := .ref (gr g h0 1)) (C := RX6) (T := TX6) (N := 10) hx hb hts (fun _ h0_ => List.mem_cons_of_mem _ (List.mem_append_right _ (List.mem_append_left _ h0_))) hown hK hI i_h0.1 k_7 rfl 1 (by decide) (hts (.fieldLink RX6 11 "DeadlineShare$State" "tasks" "[LDeadlineShare$Task;") (List.mem_cons_of_mem _ (List.mem_append_left _ (List.mem_of_getElem? (i := 1) rfl)))) (fun _ h9 => h9) rfl dX6_atWeight_13 ?_
        have i_17 := kw_6_1 hG i_h0
        refine lv_iload_n hx hb dX6_atWeight_16 rfl (lv_at hl 0 rfl) ?_
        obtain ⟨q_19, k_18, b_20⟩ := op_20 hI i_17
        refine k_aald hx hb hK hI i_17.1 4 k_18 rfl (vp_in_iff.mpr (by omega)) b_20 (fun _ hj => kw_20 hG i_17 hj) dX6_atWeight_17 (fun a_21 i_22 => ?_)
        obtain ⟨x_24, x_25, x_26, x_27, x_28, x_29, x_30, x_31, x_32, x_33, x_34, x_35, x_36, x_37, x_38, x_39, k_23⟩ := op_8 hI i_22
        refine va_calli (va_runV (As := []) (rest := []) ⟨hx, hb, hml, hown, hts⟩ (c_X8_isOn l dC dI g A hG f a_21 i_22) (cwV 0 hts (gi_V (fun w_ h0_ => ⟨List.mem_cons_of_mem _ (List.mem_append_right _ (List.mem_append_right _ (List.mem_append_left _ h0_))), (tb_c_X8_isOn w_ h0_).2⟩) (List.mem_cons_of_mem _ (List.mem_append_left _ (List.mem_of_getElem? (i := 2) rfl))) (List.mem_cons_of_mem _ (List.mem_append_left _ (List.mem_of_getElem? (i := 3) rfl))) (List.mem_cons_of_mem _ (List.mem_append_left _ (List.mem_of_getElem? (i := 4) rfl))) (List.mem_cons_of_mem _ (List.mem_append_left _ (List.mem_of_getElem? (i := 5) rfl)))) rfl rfl rfl (by decide +kernel) ⟨Nat.le_of_ble_eq_true rfl, Nat.le_of_ble_eq_true rfl⟩) ⟨fun a U g mk q => ⟨q.1, q.2.calling rfl rfl⟩, k_recv hK hI i_22.1 k_23 (ci := 8) rfl, fun U hU hW => ⟨rfl, kIn.of hI hK hE hS hU hW⟩⟩ rfl rfl hl.1 rfl (lv_room (Nat.le_of_ble_eq_true rfl)) dX6_atWeight_18 ⟨Nat.le_of_ble_eq_true rfl, Nat.le_of_ble_eq_true rfl⟩) hS (fun q _ h => h) (fun q h => h) (fun r_41 u t H1 locs ht hvm w_40 hB hz1 hk1 hS => ?_)
        have hI : Iv dC dI g A f t.heap := hB
        rw [ht] at hI
        generalize H1 = H at hI hS ⊢
        refine W.widen (k := 0) (n := 0) (Nat.le_of_ble_eq_true rfl) (Nat.le_of_ble_eq_true rfl) ?_
        have J_42 : ∀ (y_42 : Int32) (H : Heap) (locs : List Loc) (ls : Array Slot), Iv dC dI g A f H → va_S A s.heap H locs → lv_has ls 4 [(3, .int y_1), (2, .int y_42), (0, .ref h0), (1, .int p1)] → W p l e (headSpec wq_c_X6_atWeight ({ frames := 1, cells := 0, slots := 0, locals := 20 } : Room)).room s m ([.ref h0, .int p1].toArray) below meth c H locs 0 0 (MQ below (va_Qi (fun (r : Int32) (_ : Unit) => True) (fun (_ : Unit) t => Iv dC dI g A f t.heap) A) ([.ref h0, .int p1].toArray) s 0 0 A) (F0 m 42 ls []) := by
          intro y_42 H locs ls hI hS  hl
          obtain ⟨v_43, ev_43⟩ : ∃ y : Int32, y = y_1 + Int32.ofInt 1 := ⟨_, rfl⟩
          refine lv_iinc (v := v_43) (lv' := [(3, .int v_43), (2, .int y_42), (0, .ref h0), (1, .int p1)]) hx hb dX6_atWeight_42 hl (k := 0) rfl ev_43.symm (by decide) rfl (fun ls hl => ?_)
          have tv_43 := k_inc y_1
          rw [← ev_43] at tv_43
          refine lv_goto (tgt := 4) hx hb dX6_atWeight_45 (by decide) ?_
          exact ih v_43 y_42 _ _ _ (by omega) hI hS (by first | omega | decide) (lv_sub hl [0, 1, 2, 3] rfl)
        refine lv_if_eq (tgt := 42) hx hb dX6_atWeight_21 (by decide) (fun c_44 => ?_) (fun c_44 => ?_)
        · have c_44 := kc_eq rfl (by decide : Int32.toInt 0 = 0) c_44
          exact J_42 y_2 _ _ _ hI hS  (lv_sub hl [0, 1, 2, 3] rfl)
        · have c_44 := kn_eq rfl (by decide : Int32.toInt 0 = 0) c_44
          refine lv_iload_n hx hb dX6_atWeight_24 rfl (lv_at hl 1 rfl) ?_
          refine lv_aload_n hx hb dX6_atWeight_25 rfl (lv_at hl 2 rfl) ?_
          refine k_get (ci := 6) (v := .ref (gr g h0 1)) (C := RX6) (T := TX6) (N := 10) hx hb hts (fun _ h0_ => List.mem_cons_of_mem _ (List.mem_append_right _ (List.mem_append_left _ h0_))) hown hK hI i_h0.1 k_7 rfl 1 (by decide) (hts (.fieldLink RX6 11 "DeadlineShare$State" "tasks" "[LDeadlineShare$Task;") (List.mem_cons_of_mem _ (List.mem_append_left _ (List.mem_of_getElem? (i := 1) rfl)))) (fun _ h9 => h9) rfl dX6_atWeight_26 ?_
          refine lv_iload_n hx hb dX6_atWeight_29 rfl (lv_at hl 0 rfl) ?_
          refine k_aald hx hb hK hI i_17.1 4 k_18 rfl (vp_in_iff.mpr (by omega)) b_20 (fun _ hj => kw_20 hG i_17 hj) dX6_atWeight_30 (fun a_47 i_48 => ?_)
          obtain ⟨x_50, x_51, x_52, x_53, x_54, x_55, x_56, x_57, x_58, x_59, x_60, x_61, x_62, x_63, x_64, x_65, k_49⟩ := op_8 hI i_48
          refine k_get (ci := 8) (v := .int x_51) (C := RX8) (T := TX8) (N := 18) hx hb hts (fun _ h0_ => List.mem_cons_of_mem _ (List.mem_append_right _ (List.mem_append_right _ (List.mem_append_right _ (List.mem_append_left _ h0_))))) hown hK hI i_48.1 k_49 rfl 2 (by decide) (hts (.fieldLink RX6 72 "DeadlineShare$Task" "weight" "I") (List.mem_cons_of_mem _ (List.mem_append_left _ (List.mem_of_getElem? (i := 6) rfl)))) (fun _ h9 => h9) rfl dX6_atWeight_31 ?_
          refine lv_isub hx hb dX6_atWeight_34 ?_
          refine lv_topi (fun v_66 ev_66 => ?_)
          have tv_66 := k_sb y_2 x_51
          rw [← ev_66] at tv_66
          refine lv_istore_n (lv' := [(2, .int v_66), (3, .int y_1), (0, .ref h0), (1, .int p1)]) hx hb dX6_atWeight_35 rfl hl (by decide) rfl (fun ls hl => ?_)
          refine lv_iload_n hx hb dX6_atWeight_36 rfl (lv_at hl 0 rfl) ?_
          refine lv_if_ge (tgt := 42) hx hb dX6_atWeight_37 (by decide) (fun c_67 => ?_) (fun c_67 => ?_)
          · have c_67 := kc_le (by decide : Int32.toInt 0 = 0) rfl c_67
            exact J_42 v_66 _ _ _ hI hS  (lv_sub hl [1, 0, 2, 3] rfl)
          · have c_67 := kn_le (by decide : Int32.toInt 0 = 0) rfl c_67
            refine lv_iload_n hx hb dX6_atWeight_40 rfl (lv_at hl 1 rfl) ?_
            exact W.iret (v := y_1) hx hb hr (fun t ht hW => ⟨⟨y_1, (), rfl, trivial, k_ret ht hI⟩, hS.F ht⟩) hS.2.2 dX6_atWeight_41
  exact K_4 _ 0 p1 _ _ _ (Nat.lt_succ_self _) hI hS (by first | omega | decide | (simp only [show Int32.toInt 0 = 0 from by decide]; omega)) (lv_sub hl [0, 1, 2, 3] rfl)
theorem tw_81 : q_g (.selects RX6 yX6_atWeight yX6_atWeight) := ⟨(List.mem_append_right _ (List.mem_of_getElem? (i := 834) (by decide +kernel))), good_of_word (by decide +kernel)⟩
theorem tw_82 : q_g (.instanceMethod yX6_atWeight) := ⟨(List.mem_append_right _ (List.mem_of_getElem? (i := 833) (by decide +kernel))), good_of_word (by decide +kernel)⟩
theorem tw_83 : q_g (.methodLink RX0 60 yX6_atWeight) := ⟨(List.mem_append_right _ (List.mem_of_getElem? (i := 832) (by decide +kernel))), good_of_word (by decide +kernel)⟩
theorem tw_84 : q_g (.constantLong RX0 58 (1000003)) := ⟨(List.mem_append_right _ (List.mem_of_getElem? (i := 831) (by decide +kernel))), good_of_word (by decide +kernel)⟩
theorem tw_85 : q_g (.constantLong RX0 56 (12345)) := ⟨(List.mem_append_right _ (List.mem_of_getElem? (i := 830) (by decide +kernel))), good_of_word (by decide +kernel)⟩
theorem tw_86 : q_g (.constantLong RX0 54 (1103)) := ⟨(List.mem_append_right _ (List.mem_of_getElem? (i := 829) (by decide +kernel))), good_of_word (by decide +kernel)⟩
theorem tw_87 : q_g (.selects RX6 yX6_weightOfAll yX6_weightOfAll) := ⟨(List.mem_append_right _ (List.mem_of_getElem? (i := 493) (by decide +kernel))), good_of_word (by decide +kernel)⟩
theorem tw_88 : q_g (.instanceMethod yX6_weightOfAll) := ⟨(List.mem_append_right _ (List.mem_of_getElem? (i := 492) (by decide +kernel))), good_of_word (by decide +kernel)⟩
theorem tw_89 : q_g (.methodLink RX0 51 yX6_weightOfAll) := ⟨(List.mem_append_right _ (List.mem_of_getElem? (i := 828) (by decide +kernel))), good_of_word (by decide +kernel)⟩
theorem tw_90 : q_g (.code yX0_byDraw cX0_byDraw 3 (some .int)) := ⟨(List.mem_append_right _ (List.mem_of_getElem? (i := 827) (by decide +kernel))), good_of_word (by decide +kernel)⟩
def ow_c_X0_byDraw : List Cond := [.methodLink RX0 51 yX6_weightOfAll, .instanceMethod yX6_weightOfAll, .selects RX6 yX6_weightOfAll yX6_weightOfAll, .initialized RX6, .constantLong RX0 54 (1103), .fieldLink RX0 24 "DeadlineShare$Chooser" "drawn" "J", .constantLong RX0 56 (12345), .constantLong RX0 58 (1000003), .methodLink RX0 60 yX6_atWeight, .instanceMethod yX6_atWeight, .selects RX6 yX6_atWeight yX6_atWeight]
def wq_c_X0_byDraw : List Cond := .code yX0_byDraw cX0_byDraw 3 (some .int) :: (ow_c_X0_byDraw ++ (wq_c_X6_weightOfAll ++ (u_ws RX0 TX0 3 ++ (wq_c_X6_atWeight ++ ([] : List Cond)))))
theorem tb_c_X0_byDraw : ∀ w ∈ wq_c_X0_byDraw, q_g w := by
  unfold wq_c_X0_byDraw ow_c_X0_byDraw
  exact q_cons tw_90 (q_app (q_cons tw_89 (q_cons tw_88 (q_cons tw_87 (q_cons tw_47 (q_cons tw_86 (q_cons tw_0 (q_cons tw_85 (q_cons tw_84 (q_cons tw_83 (q_cons tw_82 (q_cons tw_81 q_nil))))))))))) (q_app tb_c_X6_weightOfAll (q_app tu_X0 (q_app tb_c_X6_atWeight q_nil))))
set_option maxHeartbeats 4000000 in
set_option maxRecDepth 100000 in
theorem c_X0_byDraw (l : Launch) (dC : Nat → ClassId) (dI : Nat → Nat → Nat) (g : kG) (A : Nat → Prop) (hG : kWf g) (f : Nat → va_E) (h0 : Nat) (p1 : Nat) (i_h0 : ik g 0 h0) (i_p1 : ik g 6 p1) : Met l yX0_byDraw wq_c_X0_byDraw ({ frames := 2, cells := 0, slots := 0, locals := 43 } : Room) (va_Pc [.ref h0, .ref p1] (fun U => kIn dC dI g A f U)) (va_Qi (fun (r : Int32) (_ : Unit) => True) (fun (_ : Unit) t => ∃ f1 : Nat → va_E, Iv dC dI g A f1 t.heap ∧ Kp g [0] f f1) A) 0 0 A := by
  refine Met.ofW (cc := cX0_byDraw) (maxL := 3) (ret := (some .int)) (by decide) rfl ?_
  intro p e s m args below meth c s₁ B hml hv
  obtain ⟨rfl, hI, hK, hE⟩ := hv
  have hx := B.exec
  have hb := B.bytes
  have hr := B.returns
  have hts := atoms_spec (ws := wq_c_X0_byDraw) B.pre
  have hown : s.vm.findClass RX0 = some m.cls := findClass_of_methodNamed B.named
  have hlocks := B.notSynchronized
  have hS : va_S A s.heap s.heap [] := va_S.rf
  have hk0 : Kp g [0] f f := Kp.rf
  have hl := lv_entry ([.ref h0, .ref p1]) (n := 3) (Nat.le_of_ble_eq_true rfl)
  rw [lg_entry_eq]
  generalize (lg_sl ([.ref h0, .ref p1]) ++ List.replicate (3 - (lg_sl ([.ref h0, .ref p1])).length) Slot.unset).toArray = ls at hl ⊢
  have hl : lv_has ls 3 [(0, .ref h0), (1, .ref p1)] := hl
  refine lv_aload_n hx hb dX0_byDraw_0 rfl (lv_at hl 1 rfl) ?_
  obtain ⟨x_2, x_3, x_4, x_5, x_6, k_1, b_7, b_8⟩ := op_6 hI i_p1
  refine va_calli (va_runV (As := []) (rest := []) ⟨hx, hb, hml, hown, hts⟩ (c_X6_weightOfAll l dC dI g A hG f p1 i_p1) (cwV 0 hts (gi_V (fun w_ h0_ => ⟨List.mem_cons_of_mem _ (List.mem_append_right _ (List.mem_append_left _ h0_)), (tb_c_X6_weightOfAll w_ h0_).2⟩) (List.mem_cons_of_mem _ (List.mem_append_left _ (List.mem_of_getElem? (i := 0) rfl))) (List.mem_cons_of_mem _ (List.mem_append_left _ (List.mem_of_getElem? (i := 1) rfl))) (List.mem_cons_of_mem _ (List.mem_append_left _ (List.mem_of_getElem? (i := 2) rfl))) (List.mem_cons_of_mem _ (List.mem_append_left _ (List.mem_of_getElem? (i := 3) rfl)))) rfl rfl rfl (by decide +kernel) ⟨Nat.le_of_ble_eq_true rfl, Nat.le_of_ble_eq_true rfl⟩) ⟨fun a U g mk q => ⟨q.1, q.2.calling rfl rfl⟩, k_recv hK hI i_p1.1 k_1 (ci := 6) rfl, fun U hU hW => ⟨rfl, kIn.of hI hK hE hS hU hW⟩⟩ rfl rfl hl.1 rfl (lv_room (Nat.le_of_ble_eq_true rfl)) dX0_byDraw_1 ⟨Nat.le_of_ble_eq_true rfl, Nat.le_of_ble_eq_true rfl⟩) hS (fun q _ h => h) (fun q h => h) (fun r_10 u t H1 locs ht hvm w_9 hB hz1 hk1 hS => ?_)
  have hI : Iv dC dI g A f t.heap := hB
  rw [ht] at hI
  generalize H1 = H at hI hS ⊢
  refine W.widen (k := 0) (n := 0) (Nat.le_of_ble_eq_true rfl) (Nat.le_of_ble_eq_true rfl) ?_
  refine lv_istore_n (lv' := [(2, .int r_10), (0, .ref h0), (1, .ref p1)]) hx hb dX0_byDraw_4 rfl hl (by decide) rfl (fun ls hl => ?_)
  refine lv_iload_n hx hb dX0_byDraw_5 rfl (lv_at hl 0 rfl) ?_
  refine lv_if_gt (tgt := 11) hx hb dX0_byDraw_6 (by decide) (fun c_11 => ?_) (fun c_11 => ?_)
  · have c_11 := kc_lt (by decide : Int32.toInt 0 = 0) rfl c_11
    refine lv_aload_n hx hb dX0_byDraw_11 rfl (lv_at hl 1 rfl) ?_
    refine lv_ldc2 hx hb hown (hts (.constantLong RX0 54 (1103)) (List.mem_cons_of_mem _ (List.mem_append_left _ (List.mem_of_getElem? (i := 4) rfl)))) dX0_byDraw_12 ?_
    refine lv_aload_n hx hb dX0_byDraw_15 rfl (lv_at hl 1 rfl) ?_
    obtain ⟨x_13, x_14, k_12⟩ := op_0 hI i_h0
    refine k_get (ci := 0) (v := .long x_14) (C := RX0) (T := TX0) (N := 3) hx hb hts (fun _ h0_ => List.mem_cons_of_mem _ (List.mem_append_right _ (List.mem_append_right _ (List.mem_append_left _ h0_)))) hown hK hI i_h0.1 k_12 rfl 2 (by decide) (hts (.fieldLink RX0 24 "DeadlineShare$Chooser" "drawn" "J") (List.mem_cons_of_mem _ (List.mem_append_left _ (List.mem_of_getElem? (i := 5) rfl)))) (fun _ h9 => h9) rfl dX0_byDraw_16 ?_
    refine lv_lmul hx hb dX0_byDraw_19 ?_
    refine lv_topl (fun v_15 ev_15 => ?_)
    refine lv_ldc2 hx hb hown (hts (.constantLong RX0 56 (12345)) (List.mem_cons_of_mem _ (List.mem_append_left _ (List.mem_of_getElem? (i := 6) rfl)))) dX0_byDraw_20 ?_
    refine lv_ladd hx hb dX0_byDraw_23 ?_
    refine lv_topl (fun v_16 ev_16 => ?_)
    refine lv_ldc2 hx hb hown (hts (.constantLong RX0 58 (1000003)) (List.mem_cons_of_mem _ (List.mem_append_left _ (List.mem_of_getElem? (i := 7) rfl)))) dX0_byDraw_24 ?_
    refine lv_lrem hx hb dX0_byDraw_27 (by decide) ?_
    refine lv_topl (fun v_17 ev_17 => ?_)
    refine k_put (ci := 0) (v := .long v_17) (ty := .long) (C := RX0) (T := TX0) (N := 3) hx hb hts (fun _ h0_ => List.mem_cons_of_mem _ (List.mem_append_right _ (List.mem_append_right _ (List.mem_append_left _ h0_)))) tyX0 tyX0_ok nmX0 hown hK hI hS i_h0.1 k_12 rfl 2 (by decide) (hts (.fieldLink RX0 24 "DeadlineShare$Chooser" "drawn" "J") (List.mem_cons_of_mem _ (List.mem_append_left _ (List.mem_of_getElem? (i := 5) rfl)))) (fun _ h9 => h9) rfl (by decide +kernel) rfl rfl (Nat.le_of_ble_eq_true rfl) rfl (cl_0 i_h0) dX0_byDraw_28 (fun f_18 H locs e_19 hI hS => ?_)
    have k_21 : f_18 p1 = .inr (6, [.ref (gr g p1 0), .ref (gr g p1 1), .ref (gr g p1 2), .ref (gr g p1 3), .ref (gr g p1 4), .int x_2, .int x_3, .long x_4, .int x_5, .int x_6]) := by rw [e_19, va_up_ne _ _ (ik_ne i_p1 i_h0 (by decide))]; exact k_1
    have k_22 : f_18 h0 = .inr (0, [.ref (gr g h0 0), .int x_13, .long v_17]) := by rw [e_19]; exact va_up_self _ _ _
    have kp_20 := Kp.put hk0 i_h0 (by decide) e_19
    refine lv_aload_n hx hb dX0_byDraw_31 rfl (lv_at hl 2 rfl) ?_
    refine lv_aload_n hx hb dX0_byDraw_32 rfl (lv_at hl 1 rfl) ?_
    refine k_get (ci := 0) (v := .long v_17) (C := RX0) (T := TX0) (N := 3) hx hb hts (fun _ h0_ => List.mem_cons_of_mem _ (List.mem_append_right _ (List.mem_append_right _ (List.mem_append_left _ h0_)))) hown hK hI i_h0.1 k_22 rfl 2 (by decide) (hts (.fieldLink RX0 24 "DeadlineShare$Chooser" "drawn" "J") (List.mem_cons_of_mem _ (List.mem_append_left _ (List.mem_of_getElem? (i := 5) rfl)))) (fun _ h9 => h9) rfl dX0_byDraw_33 ?_
    refine lv_iload_n hx hb dX0_byDraw_36 rfl (lv_at hl 0 rfl) ?_
    refine lv_i2l (v := r_10.toInt64) hx hb dX0_byDraw_37 rfl ?_
    have t_23 := Int32.toInt_toInt64 r_10
    refine lv_lrem hx hb dX0_byDraw_38 (k_ne0L (by omega)) ?_
    refine lv_topl (fun v_24 ev_24 => ?_)
    refine lv_l2i (v := v_24.toInt32) hx hb dX0_byDraw_39 rfl ?_
    refine va_calli (va_runV (As := [.int v_24.toInt32]) (rest := []) ⟨hx, hb, hml, hown, hts⟩ (c_X6_atWeight l dC dI g A hG f_18 p1 v_24.toInt32 i_p1) (cwV 1 hts (gi_V (fun w_ h0_ => ⟨List.mem_cons_of_mem _ (List.mem_append_right _ (List.mem_append_right _ (List.mem_append_right _ (List.mem_append_left _ h0_)))), (tb_c_X6_atWeight w_ h0_).2⟩) (List.mem_cons_of_mem _ (List.mem_append_left _ (List.mem_of_getElem? (i := 8) rfl))) (List.mem_cons_of_mem _ (List.mem_append_left _ (List.mem_of_getElem? (i := 9) rfl))) (List.mem_cons_of_mem _ (List.mem_append_left _ (List.mem_of_getElem? (i := 10) rfl))) (List.mem_cons_of_mem _ (List.mem_append_left _ (List.mem_of_getElem? (i := 3) rfl)))) rfl rfl rfl (by decide +kernel) ⟨Nat.le_of_ble_eq_true rfl, Nat.le_of_ble_eq_true rfl⟩) ⟨fun a U g mk q => ⟨q.1, q.2.calling rfl rfl⟩, k_recv hK hI i_p1.1 k_21 (ci := 6) rfl, fun U hU hW => ⟨rfl, kIn.of hI hK hE hS hU hW⟩⟩ rfl rfl hl.1 rfl (lv_room (Nat.le_of_ble_eq_true rfl)) dX0_byDraw_40 ⟨Nat.le_of_ble_eq_true rfl, Nat.le_of_ble_eq_true rfl⟩) hS (fun q _ h => h) (fun q h => h) (fun r_26 u t H1 locs ht hvm w_25 hB hz1 hk1 hS => ?_)
    have hI : Iv dC dI g A f_18 t.heap := hB
    rw [ht] at hI
    generalize H1 = H at hI hS ⊢
    refine W.widen (k := 0) (n := 0) (Nat.le_of_ble_eq_true rfl) (Nat.le_of_ble_eq_true rfl) ?_
    exact W.iret (v := r_26) hx hb hr (fun t ht hW => ⟨⟨r_26, (), rfl, trivial, ⟨f_18, k_ret ht hI, kp_20⟩⟩, hS.F ht⟩) hS.2.2 dX0_byDraw_43
  · have c_11 := kn_lt (by decide : Int32.toInt 0 = 0) rfl c_11
    refine lv_iconst (v := (-1)) hx hb dX0_byDraw_9 (by decide) ?_
    exact W.iret (v := (-1)) hx hb hr (fun t ht hW => ⟨⟨(-1), (), rfl, trivial, ⟨f, k_ret ht hI, hk0⟩⟩, hS.F ht⟩) hS.2.2 dX0_byDraw_10
theorem tw_91 : q_g (.fieldLink RX0 48 "DeadlineShare$State" "holder" "I") := ⟨(List.mem_append_right _ (List.mem_of_getElem? (i := 244) (by decide +kernel))), good_of_word (by decide +kernel)⟩
theorem tw_92 : q_g (.fieldLink RX0 45 "DeadlineShare$Terms" "mode" "I") := ⟨(List.mem_append_right _ (List.mem_of_getElem? (i := 35) (by decide +kernel))), good_of_word (by decide +kernel)⟩
theorem tw_93 : q_g (.initialized RX0) := ⟨(List.mem_append_right _ (List.mem_of_getElem? (i := 10) (by decide +kernel))), good_of_word (by decide +kernel)⟩
theorem tw_94 : q_g (.selects RX0 yX0_byDraw yX0_byDraw) := ⟨(List.mem_append_left _ (List.mem_of_getElem? (i := 10) (by decide +kernel))), good_of_word (by decide +kernel)⟩
theorem tw_95 : q_g (.instanceMethod yX0_byDraw) := ⟨(List.mem_append_right _ (List.mem_of_getElem? (i := 826) (by decide +kernel))), good_of_word (by decide +kernel)⟩
theorem tw_96 : q_g (.methodLink RX0 41 yX0_byDraw) := ⟨(List.mem_append_right _ (List.mem_of_getElem? (i := 824) (by decide +kernel))), good_of_word (by decide +kernel)⟩
theorem tw_97 : q_g (.selects RX6 yX6_nextInTurn yX6_nextInTurn) := ⟨(List.mem_append_right _ (List.mem_of_getElem? (i := 822) (by decide +kernel))), good_of_word (by decide +kernel)⟩
theorem tw_98 : q_g (.instanceMethod yX6_nextInTurn) := ⟨(List.mem_append_right _ (List.mem_of_getElem? (i := 821) (by decide +kernel))), good_of_word (by decide +kernel)⟩
theorem tw_99 : q_g (.methodLink RX0 38 yX6_nextInTurn) := ⟨(List.mem_append_right _ (List.mem_of_getElem? (i := 820) (by decide +kernel))), good_of_word (by decide +kernel)⟩
theorem tw_100 : q_g (.selects RX6 yX6_firstDeadline yX6_firstDeadline) := ⟨(List.mem_append_right _ (List.mem_of_getElem? (i := 807) (by decide +kernel))), good_of_word (by decide +kernel)⟩
theorem tw_101 : q_g (.instanceMethod yX6_firstDeadline) := ⟨(List.mem_append_right _ (List.mem_of_getElem? (i := 806) (by decide +kernel))), good_of_word (by decide +kernel)⟩
theorem tw_102 : q_g (.methodLink RX0 34 yX6_firstDeadline) := ⟨(List.mem_append_right _ (List.mem_of_getElem? (i := 805) (by decide +kernel))), good_of_word (by decide +kernel)⟩
theorem tw_103 : q_g (.selects RX6 yX6_leastV yX6_leastV) := ⟨(List.mem_append_right _ (List.mem_of_getElem? (i := 803) (by decide +kernel))), good_of_word (by decide +kernel)⟩
theorem tw_104 : q_g (.instanceMethod yX6_leastV) := ⟨(List.mem_append_right _ (List.mem_of_getElem? (i := 802) (by decide +kernel))), good_of_word (by decide +kernel)⟩
theorem tw_105 : q_g (.methodLink RX0 28 yX6_leastV) := ⟨(List.mem_append_right _ (List.mem_of_getElem? (i := 801) (by decide +kernel))), good_of_word (by decide +kernel)⟩
theorem tw_106 : q_g (.code yX0_pick cX0_pick 2 (some .int)) := ⟨(List.mem_append_right _ (List.mem_of_getElem? (i := 800) (by decide +kernel))), good_of_word (by decide +kernel)⟩
def ow_c_X0_pick : List Cond := [.fieldLink RX0 15 "DeadlineShare$Chooser" "way" "I", .methodLink RX0 28 yX6_leastV, .instanceMethod yX6_leastV, .selects RX6 yX6_leastV yX6_leastV, .initialized RX6, .methodLink RX0 34 yX6_firstDeadline, .instanceMethod yX6_firstDeadline, .selects RX6 yX6_firstDeadline yX6_firstDeadline, .methodLink RX0 38 yX6_nextInTurn, .instanceMethod yX6_nextInTurn, .selects RX6 yX6_nextInTurn yX6_nextInTurn, .methodLink RX0 41 yX0_byDraw, .instanceMethod yX0_byDraw, .selects RX0 yX0_byDraw yX0_byDraw, .initialized RX0, .fieldLink RX0 9 "DeadlineShare$Chooser" "terms" "LDeadlineShare$Terms;", .fieldLink RX0 45 "DeadlineShare$Terms" "mode" "I", .fieldLink RX0 48 "DeadlineShare$State" "holder" "I"]
def wq_c_X0_pick : List Cond := .code yX0_pick cX0_pick 2 (some .int) :: (ow_c_X0_pick ++ (u_ws RX0 TX0 3 ++ (wq_c_X6_leastV ++ (wq_c_X6_firstDeadline ++ (wq_c_X6_nextInTurn ++ (wq_c_X0_byDraw ++ (u_ws RX9 TX9 3 ++ (u_ws RX6 TX6 10 ++ ([] : List Cond)))))))))
theorem tb_c_X0_pick : ∀ w ∈ wq_c_X0_pick, q_g w := by
  unfold wq_c_X0_pick ow_c_X0_pick
  exact q_cons tw_106 (q_app (q_cons tw_3 (q_cons tw_105 (q_cons tw_104 (q_cons tw_103 (q_cons tw_47 (q_cons tw_102 (q_cons tw_101 (q_cons tw_100 (q_cons tw_99 (q_cons tw_98 (q_cons tw_97 (q_cons tw_96 (q_cons tw_95 (q_cons tw_94 (q_cons tw_93 (q_cons tw_2 (q_cons tw_92 (q_cons tw_91 q_nil)))))))))))))))))) (q_app tu_X0 (q_app tb_c_X6_leastV (q_app tb_c_X6_firstDeadline (q_app tb_c_X6_nextInTurn (q_app tb_c_X0_byDraw (q_app tu_X9 (q_app tu_X6 q_nil))))))))
set_option maxHeartbeats 4000000 in
set_option maxRecDepth 100000 in
theorem c_X0_pick (l : Launch) (dC : Nat → ClassId) (dI : Nat → Nat → Nat) (g : kG) (A : Nat → Prop) (hG : kWf g) (f : Nat → va_E) (h0 : Nat) (p1 : Nat) (i_h0 : ik g 0 h0) (i_p1 : ik g 6 p1) : Met l yX0_pick wq_c_X0_pick ({ frames := 4, cells := 0, slots := 0, locals := 95 } : Room) (va_Pc [.ref h0, .ref p1] (fun U => kIn dC dI g A f U)) (va_Qi (fun (r : Int32) (_ : Unit) => True) (fun (_ : Unit) t => ∃ f1 : Nat → va_E, Iv dC dI g A f1 t.heap ∧ Kp g [0, 10] f f1) A) 0 0 A := by
  refine Met.ofW (cc := cX0_pick) (maxL := 2) (ret := (some .int)) (by decide) rfl ?_
  intro p e s m args below meth c s₁ B hml hv
  obtain ⟨rfl, hI, hK, hE⟩ := hv
  have hx := B.exec
  have hb := B.bytes
  have hr := B.returns
  have hts := atoms_spec (ws := wq_c_X0_pick) B.pre
  have hown : s.vm.findClass RX0 = some m.cls := findClass_of_methodNamed B.named
  have hlocks := B.notSynchronized
  have hS : va_S A s.heap s.heap [] := va_S.rf
  have hk0 : Kp g [0, 10] f f := Kp.rf
  have hl := lv_entry ([.ref h0, .ref p1]) (n := 2) (Nat.le_of_ble_eq_true rfl)
  rw [lg_entry_eq]
  generalize (lg_sl ([.ref h0, .ref p1]) ++ List.replicate (2 - (lg_sl ([.ref h0, .ref p1])).length) Slot.unset).toArray = ls at hl ⊢
  have hl : lv_has ls 2 [(0, .ref h0), (1, .ref p1)] := hl
  refine lv_aload_n hx hb dX0_pick_0 rfl (lv_at hl 0 rfl) ?_
  obtain ⟨x_2, x_3, k_1⟩ := op_0 hI i_h0
  refine k_get (ci := 0) (v := .int x_2) (C := RX0) (T := TX0) (N := 3) hx hb hts (fun _ h0_ => List.mem_cons_of_mem _ (List.mem_append_right _ (List.mem_append_left _ h0_))) hown hK hI i_h0.1 k_1 rfl 1 (by decide) (hts (.fieldLink RX0 15 "DeadlineShare$Chooser" "way" "I") (List.mem_cons_of_mem _ (List.mem_append_left _ (List.mem_of_getElem? (i := 0) rfl)))) (fun _ h9 => h9) rfl dX0_pick_1 ?_
  by_cases h_4 : x_2 = 1
  · refine k_topi (y := 1) h_4 ?_
    refine lv_tableIn (tgt := 36) hx hb dX0_pick_4 (by decide) (by decide) rfl (by decide) ?_
    have h_4 := kc_eq rfl (by decide : Int32.toInt 1 = 1) h_4
    refine lv_aload_n hx hb dX0_pick_36 rfl (lv_at hl 1 rfl) ?_
    obtain ⟨x_6, x_7, x_8, x_9, x_10, k_5, b_11, b_12⟩ := op_6 hI i_p1
    refine va_calli (va_runV (As := []) (rest := []) ⟨hx, hb, hml, hown, hts⟩ (c_X6_leastV l dC dI g A hG f p1 i_p1) (cwV 0 hts (gi_V (fun w_ h0_ => ⟨List.mem_cons_of_mem _ (List.mem_append_right _ (List.mem_append_right _ (List.mem_append_left _ h0_))), (tb_c_X6_leastV w_ h0_).2⟩) (List.mem_cons_of_mem _ (List.mem_append_left _ (List.mem_of_getElem? (i := 1) rfl))) (List.mem_cons_of_mem _ (List.mem_append_left _ (List.mem_of_getElem? (i := 2) rfl))) (List.mem_cons_of_mem _ (List.mem_append_left _ (List.mem_of_getElem? (i := 3) rfl))) (List.mem_cons_of_mem _ (List.mem_append_left _ (List.mem_of_getElem? (i := 4) rfl)))) rfl rfl rfl (by decide +kernel) ⟨Nat.le_of_ble_eq_true rfl, Nat.le_of_ble_eq_true rfl⟩) ⟨fun a U g mk q => ⟨q.1, q.2.calling rfl rfl⟩, k_recv hK hI i_p1.1 k_5 (ci := 6) rfl, fun U hU hW => ⟨rfl, kIn.of hI hK hE hS hU hW⟩⟩ rfl rfl hl.1 rfl (lv_room (Nat.le_of_ble_eq_true rfl)) dX0_pick_37 ⟨Nat.le_of_ble_eq_true rfl, Nat.le_of_ble_eq_true rfl⟩) hS (fun q _ h => h) (fun q h => h) (fun r_14 u t H1 locs ht hvm w_13 hB hz1 hk1 hS => ?_)
    have hI : Iv dC dI g A f t.heap := hB
    rw [ht] at hI
    generalize H1 = H at hI hS ⊢
    refine W.widen (k := 0) (n := 0) (Nat.le_of_ble_eq_true rfl) (Nat.le_of_ble_eq_true rfl) ?_
    exact W.iret (v := r_14) hx hb hr (fun t ht hW => ⟨⟨r_14, (), rfl, trivial, ⟨f, k_ret ht hI, hk0⟩⟩, hS.F ht⟩) hS.2.2 dX0_pick_40
  by_cases h_15 : x_2 = 2
  · refine k_topi (y := 2) h_15 ?_
    refine lv_tableIn (tgt := 41) hx hb dX0_pick_4 (by decide) (by decide) rfl (by decide) ?_
    have h_15 := kc_eq rfl (by decide : Int32.toInt 2 = 2) h_15
    refine lv_aload_n hx hb dX0_pick_41 rfl (lv_at hl 1 rfl) ?_
    refine lv_iconst (v := 0) hx hb dX0_pick_42 (by decide) ?_
    obtain ⟨x_17, x_18, x_19, x_20, x_21, k_16, b_22, b_23⟩ := op_6 hI i_p1
    refine va_calli (va_runV (As := [.int 0]) (rest := []) ⟨hx, hb, hml, hown, hts⟩ (c_X6_firstDeadline l dC dI g A hG f p1 0 i_p1) (cwV 1 hts (gi_V (fun w_ h0_ => ⟨List.mem_cons_of_mem _ (List.mem_append_right _ (List.mem_append_right _ (List.mem_append_right _ (List.mem_append_left _ h0_)))), (tb_c_X6_firstDeadline w_ h0_).2⟩) (List.mem_cons_of_mem _ (List.mem_append_left _ (List.mem_of_getElem? (i := 5) rfl))) (List.mem_cons_of_mem _ (List.mem_append_left _ (List.mem_of_getElem? (i := 6) rfl))) (List.mem_cons_of_mem _ (List.mem_append_left _ (List.mem_of_getElem? (i := 7) rfl))) (List.mem_cons_of_mem _ (List.mem_append_left _ (List.mem_of_getElem? (i := 4) rfl)))) rfl rfl rfl (by decide +kernel) ⟨Nat.le_of_ble_eq_true rfl, Nat.le_of_ble_eq_true rfl⟩) ⟨fun a U g mk q => ⟨q.1, q.2.calling rfl rfl⟩, k_recv hK hI i_p1.1 k_16 (ci := 6) rfl, fun U hU hW => ⟨rfl, kIn.of hI hK hE hS hU hW⟩⟩ rfl rfl hl.1 rfl (lv_room (Nat.le_of_ble_eq_true rfl)) dX0_pick_43 ⟨Nat.le_of_ble_eq_true rfl, Nat.le_of_ble_eq_true rfl⟩) hS (fun q _ h => h) (fun q h => h) (fun r_26 u t H1 locs ht hvm w_25 hB hz1 hk1 hS => ?_)
    obtain ⟨f_24, hI, kc_27⟩ := hB
    rw [ht] at hI
    have k_28 : f_24 h0 = .inr (0, [.ref (gr g h0 0), .int x_2, .long x_3]) := Kp.at kc_27 i_h0 (by decide) k_1
    have k_29 : f_24 p1 = .inr (6, [.ref (gr g p1 0), .ref (gr g p1 1), .ref (gr g p1 2), .ref (gr g p1 3), .ref (gr g p1 4), .int x_17, .int x_18, .long x_19, .int x_20, .int x_21]) := Kp.at kc_27 i_p1 (by decide) k_16
    have kp_30 := Kp.call hk0 kc_27 (by decide)
    generalize H1 = H at hI hS ⊢
    refine W.widen (k := 0) (n := 0) (Nat.le_of_ble_eq_true rfl) (Nat.le_of_ble_eq_true rfl) ?_
    exact W.iret (v := r_26) hx hb hr (fun t ht hW => ⟨⟨r_26, (), rfl, trivial, ⟨f_24, k_ret ht hI, kp_30⟩⟩, hS.F ht⟩) hS.2.2 dX0_pick_46
  by_cases h_31 : x_2 = 3
  · refine k_topi (y := 3) h_31 ?_
    refine lv_tableIn (tgt := 47) hx hb dX0_pick_4 (by decide) (by decide) rfl (by decide) ?_
    have h_31 := kc_eq rfl (by decide : Int32.toInt 3 = 3) h_31
    refine lv_aload_n hx hb dX0_pick_47 rfl (lv_at hl 1 rfl) ?_
    obtain ⟨x_33, x_34, x_35, x_36, x_37, k_32, b_38, b_39⟩ := op_6 hI i_p1
    refine va_calli (va_runV (As := []) (rest := []) ⟨hx, hb, hml, hown, hts⟩ (c_X6_nextInTurn l dC dI g A hG f p1 i_p1) (cwV 0 hts (gi_V (fun w_ h0_ => ⟨List.mem_cons_of_mem _ (List.mem_append_right _ (List.mem_append_right _ (List.mem_append_right _ (List.mem_append_right _ (List.mem_append_left _ h0_))))), (tb_c_X6_nextInTurn w_ h0_).2⟩) (List.mem_cons_of_mem _ (List.mem_append_left _ (List.mem_of_getElem? (i := 8) rfl))) (List.mem_cons_of_mem _ (List.mem_append_left _ (List.mem_of_getElem? (i := 9) rfl))) (List.mem_cons_of_mem _ (List.mem_append_left _ (List.mem_of_getElem? (i := 10) rfl))) (List.mem_cons_of_mem _ (List.mem_append_left _ (List.mem_of_getElem? (i := 4) rfl)))) rfl rfl rfl (by decide +kernel) ⟨Nat.le_of_ble_eq_true rfl, Nat.le_of_ble_eq_true rfl⟩) ⟨fun a U g mk q => ⟨q.1, q.2.calling rfl rfl⟩, k_recv hK hI i_p1.1 k_32 (ci := 6) rfl, fun U hU hW => ⟨rfl, kIn.of hI hK hE hS hU hW⟩⟩ rfl rfl hl.1 rfl (lv_room (Nat.le_of_ble_eq_true rfl)) dX0_pick_48 ⟨Nat.le_of_ble_eq_true rfl, Nat.le_of_ble_eq_true rfl⟩) hS (fun q _ h => h) (fun q h => h) (fun r_41 u t H1 locs ht hvm w_40 hB hz1 hk1 hS => ?_)
    have hI : Iv dC dI g A f t.heap := hB
    rw [ht] at hI
    generalize H1 = H at hI hS ⊢
    refine W.widen (k := 0) (n := 0) (Nat.le_of_ble_eq_true rfl) (Nat.le_of_ble_eq_true rfl) ?_
    exact W.iret (v := r_41) hx hb hr (fun t ht hW => ⟨⟨r_41, (), rfl, trivial, ⟨f, k_ret ht hI, hk0⟩⟩, hS.F ht⟩) hS.2.2 dX0_pick_51
  by_cases h_42 : x_2 = 4
  · refine k_topi (y := 4) h_42 ?_
    refine lv_tableIn (tgt := 52) hx hb dX0_pick_4 (by decide) (by decide) rfl (by decide) ?_
    have h_42 := kc_eq rfl (by decide : Int32.toInt 4 = 4) h_42
    refine lv_aload_n hx hb dX0_pick_52 rfl (lv_at hl 0 rfl) ?_
    refine lv_aload_n hx hb dX0_pick_53 rfl (lv_at hl 1 rfl) ?_
    refine va_calli (va_runV (As := [.ref p1]) (rest := []) ⟨hx, hb, hml, hown, hts⟩ (c_X0_byDraw l dC dI g A hG f h0 p1 i_h0 i_p1) (cwV 1 hts (gi_V (fun w_ h0_ => ⟨List.mem_cons_of_mem _ (List.mem_append_right _ (List.mem_append_right _ (List.mem_append_right _ (List.mem_append_right _ (List.mem_append_right _ (List.mem_append_left _ h0_)))))), (tb_c_X0_byDraw w_ h0_).2⟩) (List.mem_cons_of_mem _ (List.mem_append_left _ (List.mem_of_getElem? (i := 11) rfl))) (List.mem_cons_of_mem _ (List.mem_append_left _ (List.mem_of_getElem? (i := 12) rfl))) (List.mem_cons_of_mem _ (List.mem_append_left _ (List.mem_of_getElem? (i := 13) rfl))) (List.mem_cons_of_mem _ (List.mem_append_left _ (List.mem_of_getElem? (i := 14) rfl)))) rfl rfl rfl (by decide +kernel) ⟨Nat.le_of_ble_eq_true rfl, Nat.le_of_ble_eq_true rfl⟩) ⟨fun a U g mk q => ⟨q.1, q.2.calling rfl rfl⟩, k_recv hK hI i_h0.1 k_1 (ci := 0) rfl, fun U hU hW => ⟨rfl, kIn.of hI hK hE hS hU hW⟩⟩ rfl rfl hl.1 rfl (lv_room (Nat.le_of_ble_eq_true rfl)) dX0_pick_54 ⟨Nat.le_of_ble_eq_true rfl, Nat.le_of_ble_eq_true rfl⟩) hS (fun q _ h => h) (fun q h => h) (fun r_45 u t H1 locs ht hvm w_44 hB hz1 hk1 hS => ?_)
    obtain ⟨f_43, hI, kc_46⟩ := hB
    rw [ht] at hI
    have kp_47 := Kp.call hk0 kc_46 (by decide)
    generalize H1 = H at hI hS ⊢
    refine W.widen (k := 0) (n := 0) (Nat.le_of_ble_eq_true rfl) (Nat.le_of_ble_eq_true rfl) ?_
    exact W.iret (v := r_45) hx hb hr (fun t ht hW => ⟨⟨r_45, (), rfl, trivial, ⟨f_43, k_ret ht hI, kp_47⟩⟩, hS.F ht⟩) hS.2.2 dX0_pick_57
  have h_4 := kn_eq rfl (by decide : Int32.toInt 1 = 1) h_4
  have h_15 := kn_eq rfl (by decide : Int32.toInt 2 = 2) h_15
  have h_31 := kn_eq rfl (by decide : Int32.toInt 3 = 3) h_31
  have h_42 := kn_eq rfl (by decide : Int32.toInt 4 = 4) h_42
  refine lv_tableOut (tgt := 58) hx hb dX0_pick_4 (by omega) (by decide) ?_
  refine lv_aload_n hx hb dX0_pick_58 rfl (lv_at hl 0 rfl) ?_
  refine k_get (ci := 0) (v := .ref (gr g h0 0)) (C := RX0) (T := TX0) (N := 3) hx hb hts (fun _ h0_ => List.mem_cons_of_mem _ (List.mem_append_right _ (List.mem_append_left _ h0_))) hown hK hI i_h0.1 k_1 rfl 0 (by decide) (hts (.fieldLink RX0 9 "DeadlineShare$Chooser" "terms" "LDeadlineShare$Terms;") (List.mem_cons_of_mem _ (List.mem_append_left _ (List.mem_of_getElem? (i := 15) rfl)))) (fun _ h9 => h9) rfl dX0_pick_59 ?_
  have i_49 := kw_0_0 hG i_h0
  obtain ⟨x_51, x_52, x_53, k_50⟩ := op_9 hI i_49
  refine k_get (ci := 9) (v := .int x_51) (C := RX9) (T := TX9) (N := 3) hx hb hts (fun _ h0_ => List.mem_cons_of_mem _ (List.mem_append_right _ (List.mem_append_right _ (List.mem_append_right _ (List.mem_append_right _ (List.mem_append_right _ (List.mem_append_right _ (List.mem_append_left _ h0_)))))))) hown hK hI i_49.1 k_50 rfl 0 (by decide) (hts (.fieldLink RX0 45 "DeadlineShare$Terms" "mode" "I") (List.mem_cons_of_mem _ (List.mem_append_left _ (List.mem_of_getElem? (i := 16) rfl)))) (fun _ h9 => h9) rfl dX0_pick_62 ?_
  refine lv_iconst (v := 1) hx hb dX0_pick_65 (by decide) ?_
  have J_84 : ∀ (H : Heap) (locs : List Loc) (ls : Array Slot), Iv dC dI g A f H → va_S A s.heap H locs → lv_has ls 2 [(0, .ref h0), (1, .ref p1)] → W p l e (headSpec wq_c_X0_pick ({ frames := 4, cells := 0, slots := 0, locals := 95 } : Room)).room s m ([.ref h0, .ref p1].toArray) below meth c H locs 0 0 (MQ below (va_Qi (fun (r : Int32) (_ : Unit) => True) (fun (_ : Unit) t => ∃ f1 : Nat → va_E, Iv dC dI g A f1 t.heap ∧ Kp g [0, 10] f f1) A) ([.ref h0, .ref p1].toArray) s 0 0 A) (F0 m 84 ls []) := by
    intro H locs ls hI hS  hl
    refine lv_aload_n hx hb dX0_pick_84 rfl (lv_at hl 1 rfl) ?_
    refine lv_iconst (v := 1) hx hb dX0_pick_85 (by decide) ?_
    obtain ⟨x_55, x_56, x_57, x_58, x_59, k_54, b_60, b_61⟩ := op_6 hI i_p1
    refine va_calli (va_runV (As := [.int 1]) (rest := []) ⟨hx, hb, hml, hown, hts⟩ (c_X6_firstDeadline l dC dI g A hG f p1 1 i_p1) (cwV 1 hts (gi_V (fun w_ h0_ => ⟨List.mem_cons_of_mem _ (List.mem_append_right _ (List.mem_append_right _ (List.mem_append_right _ (List.mem_append_left _ h0_)))), (tb_c_X6_firstDeadline w_ h0_).2⟩) (List.mem_cons_of_mem _ (List.mem_append_left _ (List.mem_of_getElem? (i := 5) rfl))) (List.mem_cons_of_mem _ (List.mem_append_left _ (List.mem_of_getElem? (i := 6) rfl))) (List.mem_cons_of_mem _ (List.mem_append_left _ (List.mem_of_getElem? (i := 7) rfl))) (List.mem_cons_of_mem _ (List.mem_append_left _ (List.mem_of_getElem? (i := 4) rfl)))) rfl rfl rfl (by decide +kernel) ⟨Nat.le_of_ble_eq_true rfl, Nat.le_of_ble_eq_true rfl⟩) ⟨fun a U g mk q => ⟨q.1, q.2.calling rfl rfl⟩, k_recv hK hI i_p1.1 k_54 (ci := 6) rfl, fun U hU hW => ⟨rfl, kIn.of hI hK hE hS hU hW⟩⟩ rfl rfl hl.1 rfl (lv_room (Nat.le_of_ble_eq_true rfl)) dX0_pick_86 ⟨Nat.le_of_ble_eq_true rfl, Nat.le_of_ble_eq_true rfl⟩) hS (fun q _ h => h) (fun q h => h) (fun r_64 u t H1 locs ht hvm w_63 hB hz1 hk1 hS => ?_)
    obtain ⟨f_62, hI, kc_65⟩ := hB
    rw [ht] at hI
    have k_66 : f_62 h0 = .inr (0, [.ref (gr g h0 0), .int x_2, .long x_3]) := Kp.at kc_65 i_h0 (by decide) k_1
    have k_67 : f_62 (gr g h0 0) = .inr (9, [.int x_51, .int x_52, .int x_53]) := Kp.at kc_65 i_49 (by decide) k_50
    have k_68 : f_62 p1 = .inr (6, [.ref (gr g p1 0), .ref (gr g p1 1), .ref (gr g p1 2), .ref (gr g p1 3), .ref (gr g p1 4), .int x_55, .int x_56, .long x_57, .int x_58, .int x_59]) := Kp.at kc_65 i_p1 (by decide) k_54
    have kp_69 := Kp.call hk0 kc_65 (by decide)
    generalize H1 = H at hI hS ⊢
    refine W.widen (k := 0) (n := 0) (Nat.le_of_ble_eq_true rfl) (Nat.le_of_ble_eq_true rfl) ?_
    exact W.iret (v := r_64) hx hb hr (fun t ht hW => ⟨⟨r_64, (), rfl, trivial, ⟨f_62, k_ret ht hI, kp_69⟩⟩, hS.F ht⟩) hS.2.2 dX0_pick_89
  refine lv_icmp_ne (tgt := 84) hx hb dX0_pick_66 (by decide) (fun c_70 => ?_) (fun c_70 => ?_)
  · have c_70 := kn_eq rfl (by decide : Int32.toInt 1 = 1) c_70
    exact J_84  _ _ _ hI hS  (lv_sub hl [0, 1] rfl)
  · have c_70 := kc_eq rfl (by decide : Int32.toInt 1 = 1) c_70
    refine lv_aload_n hx hb dX0_pick_69 rfl (lv_at hl 1 rfl) ?_
    obtain ⟨x_72, x_73, x_74, x_75, x_76, k_71, b_77, b_78⟩ := op_6 hI i_p1
    refine k_get (ci := 6) (v := .int x_76) (C := RX6) (T := TX6) (N := 10) hx hb hts (fun _ h0_ => List.mem_cons_of_mem _ (List.mem_append_right _ (List.mem_append_right _ (List.mem_append_right _ (List.mem_append_right _ (List.mem_append_right _ (List.mem_append_right _ (List.mem_append_right _ (List.mem_append_left _ h0_))))))))) hown hK hI i_p1.1 k_71 rfl 9 (by decide) (hts (.fieldLink RX0 48 "DeadlineShare$State" "holder" "I") (List.mem_cons_of_mem _ (List.mem_append_left _ (List.mem_of_getElem? (i := 17) rfl)))) (fun _ h9 => h9) rfl dX0_pick_70 ?_
    refine lv_iconst (v := (-1)) hx hb dX0_pick_73 (by decide) ?_
    refine lv_icmp_eq (tgt := 84) hx hb dX0_pick_74 (by decide) (fun c_79 => ?_) (fun c_79 => ?_)
    · have c_79 := kc_eq rfl (by decide : Int32.toInt (-1) = (-1)) c_79
      exact J_84  _ _ _ hI hS  (lv_sub hl [0, 1] rfl)
    · have c_79 := kn_eq rfl (by decide : Int32.toInt (-1) = (-1)) c_79
      refine lv_aload_n hx hb dX0_pick_77 rfl (lv_at hl 1 rfl) ?_
      refine k_get (ci := 6) (v := .int x_76) (C := RX6) (T := TX6) (N := 10) hx hb hts (fun _ h0_ => List.mem_cons_of_mem _ (List.mem_append_right _ (List.mem_append_right _ (List.mem_append_right _ (List.mem_append_right _ (List.mem_append_right _ (List.mem_append_right _ (List.mem_append_right _ (List.mem_append_left _ h0_))))))))) hown hK hI i_p1.1 k_71 rfl 9 (by decide) (hts (.fieldLink RX0 48 "DeadlineShare$State" "holder" "I") (List.mem_cons_of_mem _ (List.mem_append_left _ (List.mem_of_getElem? (i := 17) rfl)))) (fun _ h9 => h9) rfl dX0_pick_78 ?_
      refine lv_goto (tgt := 89) hx hb dX0_pick_81 (by decide) ?_
      exact W.iret (v := x_76) hx hb hr (fun t ht hW => ⟨⟨x_76, (), rfl, trivial, ⟨f, k_ret ht hI, hk0⟩⟩, hS.F ht⟩) hS.2.2 dX0_pick_89
theorem tu_X5 : ∀ w ∈ u_ws RX5 TX5 5, q_g w := by
  intro w h
  unfold u_ws at h
  obtain ⟨j, hj, rfl⟩ := List.mem_map.mp h
  have hj := List.mem_range.mp hj
  match j, hj with
  | 0, _ => exact ⟨(List.mem_append_right _ (List.mem_of_getElem? (i := 88) (by decide +kernel))), good_of_word (by decide +kernel)⟩
  | 1, _ => exact ⟨(List.mem_append_right _ (List.mem_of_getElem? (i := 90) (by decide +kernel))), good_of_word (by decide +kernel)⟩
  | 2, _ => exact ⟨(List.mem_append_right _ (List.mem_of_getElem? (i := 92) (by decide +kernel))), good_of_word (by decide +kernel)⟩
  | 3, _ => exact ⟨(List.mem_append_right _ (List.mem_of_getElem? (i := 94) (by decide +kernel))), good_of_word (by decide +kernel)⟩
  | 4, _ => exact ⟨(List.mem_append_right _ (List.mem_of_getElem? (i := 96) (by decide +kernel))), good_of_word (by decide +kernel)⟩
  | (j9 + 5), h9 => exact absurd h9 (by omega)
theorem tw_107 : q_g (.fieldLink RX5 38 "DeadlineShare$Script" "timesBack" "I") := ⟨(List.mem_append_right _ (List.mem_of_getElem? (i := 87) (by decide +kernel))), good_of_word (by decide +kernel)⟩
theorem tw_108 : q_g (.fieldLink RX5 35 "DeadlineShare$Script" "toRun" "I") := ⟨(List.mem_append_right _ (List.mem_of_getElem? (i := 84) (by decide +kernel))), good_of_word (by decide +kernel)⟩
theorem tw_109 : q_g (.fieldLink RX5 32 "DeadlineShare$Script" "at" "I") := ⟨(List.mem_append_right _ (List.mem_of_getElem? (i := 81) (by decide +kernel))), good_of_word (by decide +kernel)⟩
theorem tw_110 : q_g (.fieldLink RX5 28 "DeadlineShare$Script" "size" "I") := ⟨(List.mem_append_right _ (List.mem_of_getElem? (i := 79) (by decide +kernel))), good_of_word (by decide +kernel)⟩
theorem tw_111 : q_g (.initialized "java/lang/System") := ⟨(List.mem_append_right _ (List.mem_of_getElem? (i := 14) (by decide +kernel))), good_of_word (by decide +kernel)⟩
theorem tw_112 : q_g (.static arraycopyName) := ⟨(List.mem_append_right _ (List.mem_of_getElem? (i := 440) (by decide +kernel))), good_of_word (by decide +kernel)⟩
theorem tw_113 : q_g (.native arraycopyName) := ⟨(List.mem_append_right _ (List.mem_of_getElem? (i := 441) (by decide +kernel))), good_of_word (by decide +kernel)⟩
theorem tw_114 : q_g (.methodLink RX5 41 arraycopyName) := ⟨(List.mem_append_right _ (List.mem_of_getElem? (i := 439) (by decide +kernel))), good_of_word (by decide +kernel)⟩
theorem tw_115 : q_g (.fieldLink RX5 11 "DeadlineShare$Script" "steps" "[I") := ⟨(List.mem_append_right _ (List.mem_of_getElem? (i := 78) (by decide +kernel))), good_of_word (by decide +kernel)⟩
theorem tw_116 : q_g (.code yX5_copy cX5_copy 2 none) := ⟨(List.mem_append_right _ (List.mem_of_getElem? (i := 438) (by decide +kernel))), good_of_word (by decide +kernel)⟩
def ow_c_X5_copy : List Cond := [.fieldLink RX5 11 "DeadlineShare$Script" "steps" "[I", .methodLink RX5 41 arraycopyName, .native arraycopyName, .static arraycopyName, .initialized "java/lang/System", .fieldLink RX5 28 "DeadlineShare$Script" "size" "I", .fieldLink RX5 32 "DeadlineShare$Script" "at" "I", .fieldLink RX5 35 "DeadlineShare$Script" "toRun" "I", .fieldLink RX5 38 "DeadlineShare$Script" "timesBack" "I"]
def wq_c_X5_copy : List Cond := .code yX5_copy cX5_copy 2 none :: (ow_c_X5_copy ++ (u_ws RX5 TX5 5 ++ ([] : List Cond)))
theorem tb_c_X5_copy : ∀ w ∈ wq_c_X5_copy, q_g w := by
  unfold wq_c_X5_copy ow_c_X5_copy
  exact q_cons tw_116 (q_app (q_cons tw_115 (q_cons tw_114 (q_cons tw_113 (q_cons tw_112 (q_cons tw_111 (q_cons tw_110 (q_cons tw_109 (q_cons tw_108 (q_cons tw_107 q_nil))))))))) (q_app tu_X5 q_nil))
set_option maxHeartbeats 4000000 in
set_option maxRecDepth 100000 in
theorem c_X5_copy (l : Launch) (dC : Nat → ClassId) (dI : Nat → Nat → Nat) (g : kG) (A : Nat → Prop) (hG : kWf g) (f : Nat → va_E) (h0 : Nat) (p1 : Nat) (i_h0 : ik g 5 h0) (i_p1 : ik g 5 p1) : Met l yX5_copy wq_c_X5_copy ({ frames := 1, cells := 0, slots := 0, locals := 40 } : Room) (va_Pc [.ref h0, .ref p1] (fun U => kIn dC dI g A f U)) (va_Qv (fun (_ : Unit) => True) (fun (_ : Unit) t => ∃ f1 : Nat → va_E, Iv dC dI g A f1 t.heap ∧ Kp g [5, 24] f f1) A) 0 0 A := by
  refine Met.ofW (cc := cX5_copy) (maxL := 2) (ret := none) (by decide) rfl ?_
  intro p e s m args below meth c s₁ B hml hv
  obtain ⟨rfl, hI, hK, hE⟩ := hv
  have hx := B.exec
  have hb := B.bytes
  have hr := B.returns
  have hts := atoms_spec (ws := wq_c_X5_copy) B.pre
  have hown : s.vm.findClass RX5 = some m.cls := findClass_of_methodNamed B.named
  have hlocks := B.notSynchronized
  have hS : va_S A s.heap s.heap [] := va_S.rf
  have hk0 : Kp g [5, 24] f f := Kp.rf
  have hl := lv_entry ([.ref h0, .ref p1]) (n := 2) (Nat.le_of_ble_eq_true rfl)
  rw [lg_entry_eq]
  generalize (lg_sl ([.ref h0, .ref p1]) ++ List.replicate (2 - (lg_sl ([.ref h0, .ref p1])).length) Slot.unset).toArray = ls at hl ⊢
  have hl : lv_has ls 2 [(0, .ref h0), (1, .ref p1)] := hl
  refine lv_aload_n hx hb dX5_copy_0 rfl (lv_at hl 1 rfl) ?_
  obtain ⟨x_2, x_3, x_4, x_5, k_1, b_6, b_7⟩ := op_5 hI i_p1
  refine k_get (ci := 5) (v := .ref (gr g p1 0)) (C := RX5) (T := TX5) (N := 5) hx hb hts (fun _ h0_ => List.mem_cons_of_mem _ (List.mem_append_right _ (List.mem_append_left _ h0_))) hown hK hI i_p1.1 k_1 rfl 0 (by decide) (hts (.fieldLink RX5 11 "DeadlineShare$Script" "steps" "[I") (List.mem_cons_of_mem _ (List.mem_append_left _ (List.mem_of_getElem? (i := 0) rfl)))) (fun _ h9 => h9) rfl dX5_copy_1 ?_
  have i_9 := kw_5_0 hG i_p1
  refine lv_iconst (v := 0) hx hb dX5_copy_4 (by decide) ?_
  refine lv_aload_n hx hb dX5_copy_5 rfl (lv_at hl 0 rfl) ?_
  obtain ⟨x_11, x_12, x_13, x_14, k_10, b_15, b_16⟩ := op_5 hI i_h0
  refine k_get (ci := 5) (v := .ref (gr g h0 0)) (C := RX5) (T := TX5) (N := 5) hx hb hts (fun _ h0_ => List.mem_cons_of_mem _ (List.mem_append_right _ (List.mem_append_left _ h0_))) hown hK hI i_h0.1 k_10 rfl 0 (by decide) (hts (.fieldLink RX5 11 "DeadlineShare$Script" "steps" "[I") (List.mem_cons_of_mem _ (List.mem_append_left _ (List.mem_of_getElem? (i := 0) rfl)))) (fun _ h9 => h9) rfl dX5_copy_6 ?_
  have i_18 := kw_5_0 hG i_h0
  refine lv_iconst (v := 0) hx hb dX5_copy_9 (by decide) ?_
  refine lv_bipush (v := 8) hx hb dX5_copy_10 (by decide) ?_
  obtain ⟨q_20, k_19⟩ := op_24 hI i_9
  obtain ⟨q_22, k_21⟩ := op_24 hI i_18
  refine k_copyi hx hb (by rw [hml]; exact hl.1.symm) hown (hts (.methodLink RX5 41 arraycopyName) (List.mem_cons_of_mem _ (List.mem_append_left _ (List.mem_of_getElem? (i := 1) rfl)))) (hts (.native arraycopyName) (List.mem_cons_of_mem _ (List.mem_append_left _ (List.mem_of_getElem? (i := 2) rfl)))) (hts (.static arraycopyName) (List.mem_cons_of_mem _ (List.mem_append_left _ (List.mem_of_getElem? (i := 3) rfl)))) (hts (.initialized "java/lang/System") (List.mem_cons_of_mem _ (List.mem_append_left _ (List.mem_of_getElem? (i := 4) rfl)))) hK hI hS i_9.1 i_18.1 0 k_19 k_21 rfl rfl (by decide) (by decide) (by decide) (by decide) (by decide) (fun _ _ => rfl) (Nat.le_of_ble_eq_true rfl) (Nat.le_of_ble_eq_true rfl) (cl_24 i_18) dX5_copy_12 (fun f_23 H locs e_24 hI hS => ?_)
  generalize eq_25 : va_cpy q_20 q_22 (Int32.toNatClampNeg 0) (Int32.toNatClampNeg 0) (Int32.toNatClampNeg 8) = q_25 at e_24
  have k_27 : f_23 p1 = .inr (5, [.ref (gr g p1 0), .int x_2, .int x_3, .int x_4, .int x_5]) := by rw [e_24, va_up_ne _ _ (ik_ne i_p1 i_18 (by decide))]; exact k_1
  have k_28 : f_23 h0 = .inr (5, [.ref (gr g h0 0), .int x_11, .int x_12, .int x_13, .int x_14]) := by rw [e_24, va_up_ne _ _ (ik_ne i_h0 i_18 (by decide))]; exact k_10
  have k_29 : f_23 (gr g h0 0) = .inl (gc g 0, 8, .inl q_25) := by rw [e_24]; exact va_up_self _ _ _
  have kp_26 := Kp.put hk0 i_18 (by decide) e_24
  refine lv_aload_n hx hb dX5_copy_15 rfl (lv_at hl 0 rfl) ?_
  refine lv_aload_n hx hb dX5_copy_16 rfl (lv_at hl 1 rfl) ?_
  refine k_get (ci := 5) (v := .int x_2) (C := RX5) (T := TX5) (N := 5) hx hb hts (fun _ h0_ => List.mem_cons_of_mem _ (List.mem_append_right _ (List.mem_append_left _ h0_))) hown hK hI i_p1.1 k_27 rfl 1 (by decide) (hts (.fieldLink RX5 28 "DeadlineShare$Script" "size" "I") (List.mem_cons_of_mem _ (List.mem_append_left _ (List.mem_of_getElem? (i := 5) rfl)))) (fun _ h9 => h9) rfl dX5_copy_17 ?_
  have b_30 : 0 ≤ Int32.toInt x_2 ∧ Int32.toInt x_2 ≤ 8 := by omega
  refine k_put (ci := 5) (v := .int x_2) (ty := .int) (C := RX5) (T := TX5) (N := 5) hx hb hts (fun _ h0_ => List.mem_cons_of_mem _ (List.mem_append_right _ (List.mem_append_left _ h0_))) tyX5 tyX5_ok nmX5 hown hK hI hS i_h0.1 k_28 rfl 1 (by decide) (hts (.fieldLink RX5 28 "DeadlineShare$Script" "size" "I") (List.mem_cons_of_mem _ (List.mem_append_left _ (List.mem_of_getElem? (i := 5) rfl)))) (fun _ h9 => h9) rfl (by decide +kernel) rfl rfl (Nat.le_of_ble_eq_true rfl) rfl (cl_5 i_h0 b_30) dX5_copy_20 (fun f_31 H locs e_32 hI hS => ?_)
  have k_34 : f_31 h0 = .inr (5, [.ref (gr g h0 0), .int x_2, .int x_12, .int x_13, .int x_14]) := by rw [e_32]; exact va_up_self _ _ _
  have k_35 : f_31 (gr g h0 0) = .inl (gc g 0, 8, .inl q_25) := by rw [e_32, va_up_ne _ _ (ik_ne i_18 i_h0 (by decide))]; exact k_29
  have kp_33 := Kp.put kp_26 i_h0 (by decide) e_32
  refine lv_aload_n hx hb dX5_copy_23 rfl (lv_at hl 0 rfl) ?_
  refine lv_aload_n hx hb dX5_copy_24 rfl (lv_at hl 1 rfl) ?_
  obtain ⟨x_37, x_38, x_39, x_40, k_36, b_41, b_42⟩ := op_5 hI i_p1
  refine k_get (ci := 5) (v := .int x_38) (C := RX5) (T := TX5) (N := 5) hx hb hts (fun _ h0_ => List.mem_cons_of_mem _ (List.mem_append_right _ (List.mem_append_left _ h0_))) hown hK hI i_p1.1 k_36 rfl 2 (by decide) (hts (.fieldLink RX5 32 "DeadlineShare$Script" "at" "I") (List.mem_cons_of_mem _ (List.mem_append_left _ (List.mem_of_getElem? (i := 6) rfl)))) (fun _ h9 => h9) rfl dX5_copy_25 ?_
  refine k_put (ci := 5) (v := .int x_38) (ty := .int) (C := RX5) (T := TX5) (N := 5) hx hb hts (fun _ h0_ => List.mem_cons_of_mem _ (List.mem_append_right _ (List.mem_append_left _ h0_))) tyX5 tyX5_ok nmX5 hown hK hI hS i_h0.1 k_34 rfl 2 (by decide) (hts (.fieldLink RX5 32 "DeadlineShare$Script" "at" "I") (List.mem_cons_of_mem _ (List.mem_append_left _ (List.mem_of_getElem? (i := 6) rfl)))) (fun _ h9 => h9) rfl (by decide +kernel) rfl rfl (Nat.le_of_ble_eq_true rfl) rfl (cl_5 i_h0 (by omega)) dX5_copy_28 (fun f_43 H locs e_44 hI hS => ?_)
  have k_46 : f_43 h0 = .inr (5, [.ref (gr g h0 0), .int x_2, .int x_38, .int x_13, .int x_14]) := by rw [e_44]; exact va_up_self _ _ _
  have k_47 : f_43 (gr g h0 0) = .inl (gc g 0, 8, .inl q_25) := by rw [e_44, va_up_ne _ _ (ik_ne i_18 i_h0 (by decide))]; exact k_35
  have kp_45 := Kp.put kp_33 i_h0 (by decide) e_44
  refine lv_aload_n hx hb dX5_copy_31 rfl (lv_at hl 0 rfl) ?_
  refine lv_aload_n hx hb dX5_copy_32 rfl (lv_at hl 1 rfl) ?_
  obtain ⟨x_49, x_50, x_51, x_52, k_48, b_53, b_54⟩ := op_5 hI i_p1
  refine k_get (ci := 5) (v := .int x_51) (C := RX5) (T := TX5) (N := 5) hx hb hts (fun _ h0_ => List.mem_cons_of_mem _ (List.mem_append_right _ (List.mem_append_left _ h0_))) hown hK hI i_p1.1 k_48 rfl 3 (by decide) (hts (.fieldLink RX5 35 "DeadlineShare$Script" "toRun" "I") (List.mem_cons_of_mem _ (List.mem_append_left _ (List.mem_of_getElem? (i := 7) rfl)))) (fun _ h9 => h9) rfl dX5_copy_33 ?_
  refine k_put (ci := 5) (v := .int x_51) (ty := .int) (C := RX5) (T := TX5) (N := 5) hx hb hts (fun _ h0_ => List.mem_cons_of_mem _ (List.mem_append_right _ (List.mem_append_left _ h0_))) tyX5 tyX5_ok nmX5 hown hK hI hS i_h0.1 k_46 rfl 3 (by decide) (hts (.fieldLink RX5 35 "DeadlineShare$Script" "toRun" "I") (List.mem_cons_of_mem _ (List.mem_append_left _ (List.mem_of_getElem? (i := 7) rfl)))) (fun _ h9 => h9) rfl (by decide +kernel) rfl rfl (Nat.le_of_ble_eq_true rfl) rfl (cl_5 i_h0 (by omega)) dX5_copy_36 (fun f_55 H locs e_56 hI hS => ?_)
  have k_58 : f_55 h0 = .inr (5, [.ref (gr g h0 0), .int x_2, .int x_38, .int x_51, .int x_14]) := by rw [e_56]; exact va_up_self _ _ _
  have k_59 : f_55 (gr g h0 0) = .inl (gc g 0, 8, .inl q_25) := by rw [e_56, va_up_ne _ _ (ik_ne i_18 i_h0 (by decide))]; exact k_47
  have kp_57 := Kp.put kp_45 i_h0 (by decide) e_56
  refine lv_aload_n hx hb dX5_copy_39 rfl (lv_at hl 0 rfl) ?_
  refine lv_aload_n hx hb dX5_copy_40 rfl (lv_at hl 1 rfl) ?_
  obtain ⟨x_61, x_62, x_63, x_64, k_60, b_65, b_66⟩ := op_5 hI i_p1
  refine k_get (ci := 5) (v := .int x_64) (C := RX5) (T := TX5) (N := 5) hx hb hts (fun _ h0_ => List.mem_cons_of_mem _ (List.mem_append_right _ (List.mem_append_left _ h0_))) hown hK hI i_p1.1 k_60 rfl 4 (by decide) (hts (.fieldLink RX5 38 "DeadlineShare$Script" "timesBack" "I") (List.mem_cons_of_mem _ (List.mem_append_left _ (List.mem_of_getElem? (i := 8) rfl)))) (fun _ h9 => h9) rfl dX5_copy_41 ?_
  refine k_put (ci := 5) (v := .int x_64) (ty := .int) (C := RX5) (T := TX5) (N := 5) hx hb hts (fun _ h0_ => List.mem_cons_of_mem _ (List.mem_append_right _ (List.mem_append_left _ h0_))) tyX5 tyX5_ok nmX5 hown hK hI hS i_h0.1 k_58 rfl 4 (by decide) (hts (.fieldLink RX5 38 "DeadlineShare$Script" "timesBack" "I") (List.mem_cons_of_mem _ (List.mem_append_left _ (List.mem_of_getElem? (i := 8) rfl)))) (fun _ h9 => h9) rfl (by decide +kernel) rfl rfl (Nat.le_of_ble_eq_true rfl) rfl (cl_5 i_h0 (by omega)) dX5_copy_44 (fun f_67 H locs e_68 hI hS => ?_)
  have k_70 : f_67 h0 = .inr (5, [.ref (gr g h0 0), .int x_2, .int x_38, .int x_51, .int x_64]) := by rw [e_68]; exact va_up_self _ _ _
  have k_71 : f_67 (gr g h0 0) = .inl (gc g 0, 8, .inl q_25) := by rw [e_68, va_up_ne _ _ (ik_ne i_18 i_h0 (by decide))]; exact k_59
  have kp_69 := Kp.put kp_57 i_h0 (by decide) e_68
  exact W.vret hx hb hr (fun t ht hW => ⟨⟨(), rfl, trivial, ⟨f_67, k_ret ht hI, kp_69⟩⟩, hS.F ht⟩) hS.2.2 dX5_copy_47
theorem tw_117 : q_g (.code yX10_copy cX10_copy 2 none) := ⟨(List.mem_append_right _ (List.mem_of_getElem? (i := 445) (by decide +kernel))), good_of_word (by decide +kernel)⟩
def ow_c_X10_copy : List Cond := [.fieldLink RX10 9 "DeadlineShare$Wide" "high" "J", .fieldLink RX10 15 "DeadlineShare$Wide" "low" "J"]
def wq_c_X10_copy : List Cond := .code yX10_copy cX10_copy 2 none :: (ow_c_X10_copy ++ (u_ws RX10 TX10 2 ++ ([] : List Cond)))
theorem tb_c_X10_copy : ∀ w ∈ wq_c_X10_copy, q_g w := by
  unfold wq_c_X10_copy ow_c_X10_copy
  exact q_cons tw_117 (q_app (q_cons tw_17 (q_cons tw_15 q_nil)) (q_app tu_X10 q_nil))
set_option maxHeartbeats 4000000 in
set_option maxRecDepth 100000 in
theorem c_X10_copy (l : Launch) (dC : Nat → ClassId) (dI : Nat → Nat → Nat) (g : kG) (A : Nat → Prop) (hG : kWf g) (f : Nat → va_E) (h0 : Nat) (p1 : Nat) (i_h0 : ik g 10 h0) (i_p1 : ik g 10 p1) : Met l yX10_copy wq_c_X10_copy ({ frames := 0, cells := 0, slots := 0, locals := 0 } : Room) (va_Pc [.ref h0, .ref p1] (fun U => kIn dC dI g A f U)) (va_Qv (fun (_ : Unit) => True) (fun (_ : Unit) t => ∃ f1 : Nat → va_E, Iv dC dI g A f1 t.heap ∧ Kp g [10] f f1) A) 0 0 A := by
  refine Met.ofW (cc := cX10_copy) (maxL := 2) (ret := none) (by decide) rfl ?_
  intro p e s m args below meth c s₁ B hml hv
  obtain ⟨rfl, hI, hK, hE⟩ := hv
  have hx := B.exec
  have hb := B.bytes
  have hr := B.returns
  have hts := atoms_spec (ws := wq_c_X10_copy) B.pre
  have hown : s.vm.findClass RX10 = some m.cls := findClass_of_methodNamed B.named
  have hlocks := B.notSynchronized
  have hS : va_S A s.heap s.heap [] := va_S.rf
  have hk0 : Kp g [10] f f := Kp.rf
  have hl := lv_entry ([.ref h0, .ref p1]) (n := 2) (Nat.le_of_ble_eq_true rfl)
  rw [lg_entry_eq]
  generalize (lg_sl ([.ref h0, .ref p1]) ++ List.replicate (2 - (lg_sl ([.ref h0, .ref p1])).length) Slot.unset).toArray = ls at hl ⊢
  have hl : lv_has ls 2 [(0, .ref h0), (1, .ref p1)] := hl
  refine lv_aload_n hx hb dX10_copy_0 rfl (lv_at hl 0 rfl) ?_
  refine lv_aload_n hx hb dX10_copy_1 rfl (lv_at hl 1 rfl) ?_
  obtain ⟨x_2, x_3, k_1⟩ := op_10 hI i_p1
  refine k_get (ci := 10) (v := .long x_2) (C := RX10) (T := TX10) (N := 2) hx hb hts (fun _ h0_ => List.mem_cons_of_mem _ (List.mem_append_right _ (List.mem_append_left _ h0_))) hown hK hI i_p1.1 k_1 rfl 0 (by decide) (hts (.fieldLink RX10 9 "DeadlineShare$Wide" "high" "J") (List.mem_cons_of_mem _ (List.mem_append_left _ (List.mem_of_getElem? (i := 0) rfl)))) (fun _ h9 => h9) rfl dX10_copy_2 ?_
  obtain ⟨x_5, x_6, k_4⟩ := op_10 hI i_h0
  refine k_put (ci := 10) (v := .long x_2) (ty := .long) (C := RX10) (T := TX10) (N := 2) hx hb hts (fun _ h0_ => List.mem_cons_of_mem _ (List.mem_append_right _ (List.mem_append_left _ h0_))) tyX10 tyX10_ok nmX10 hown hK hI hS i_h0.1 k_4 rfl 0 (by decide) (hts (.fieldLink RX10 9 "DeadlineShare$Wide" "high" "J") (List.mem_cons_of_mem _ (List.mem_append_left _ (List.mem_of_getElem? (i := 0) rfl)))) (fun _ h9 => h9) rfl (by decide +kernel) rfl rfl (Nat.le_of_ble_eq_true rfl) rfl (cl_10 i_h0) dX10_copy_5 (fun f_7 H locs e_8 hI hS => ?_)
  have k_10 : f_7 h0 = .inr (10, [.long x_2, .long x_6]) := by rw [e_8]; exact va_up_self _ _ _
  have kp_9 := Kp.put hk0 i_h0 (by decide) e_8
  refine lv_aload_n hx hb dX10_copy_8 rfl (lv_at hl 0 rfl) ?_
  refine lv_aload_n hx hb dX10_copy_9 rfl (lv_at hl 1 rfl) ?_
  obtain ⟨x_12, x_13, k_11⟩ := op_10 hI i_p1
  refine k_get (ci := 10) (v := .long x_13) (C := RX10) (T := TX10) (N := 2) hx hb hts (fun _ h0_ => List.mem_cons_of_mem _ (List.mem_append_right _ (List.mem_append_left _ h0_))) hown hK hI i_p1.1 k_11 rfl 1 (by decide) (hts (.fieldLink RX10 15 "DeadlineShare$Wide" "low" "J") (List.mem_cons_of_mem _ (List.mem_append_left _ (List.mem_of_getElem? (i := 1) rfl)))) (fun _ h9 => h9) rfl dX10_copy_10 ?_
  refine k_put (ci := 10) (v := .long x_13) (ty := .long) (C := RX10) (T := TX10) (N := 2) hx hb hts (fun _ h0_ => List.mem_cons_of_mem _ (List.mem_append_right _ (List.mem_append_left _ h0_))) tyX10 tyX10_ok nmX10 hown hK hI hS i_h0.1 k_10 rfl 1 (by decide) (hts (.fieldLink RX10 15 "DeadlineShare$Wide" "low" "J") (List.mem_cons_of_mem _ (List.mem_append_left _ (List.mem_of_getElem? (i := 1) rfl)))) (fun _ h9 => h9) rfl (by decide +kernel) rfl rfl (Nat.le_of_ble_eq_true rfl) rfl (cl_10 i_h0) dX10_copy_13 (fun f_14 H locs e_15 hI hS => ?_)
  have k_17 : f_14 h0 = .inr (10, [.long x_2, .long x_13]) := by rw [e_15]; exact va_up_self _ _ _
  have kp_16 := Kp.put kp_9 i_h0 (by decide) e_15
  exact W.vret hx hb hr (fun t ht hW => ⟨⟨(), rfl, trivial, ⟨f_14, k_ret ht hI, kp_16⟩⟩, hS.F ht⟩) hS.2.2 dX10_copy_16
theorem tw_118 : q_g (.fieldLink RX8 90 "DeadlineShare$Task" "period" "I") := ⟨(List.mem_append_right _ (List.mem_of_getElem? (i := 191) (by decide +kernel))), good_of_word (by decide +kernel)⟩
theorem tw_119 : q_g (.fieldLink RX8 87 "DeadlineShare$Task" "quota" "I") := ⟨(List.mem_append_right _ (List.mem_of_getElem? (i := 189) (by decide +kernel))), good_of_word (by decide +kernel)⟩
theorem tw_120 : q_g (.fieldLink RX8 84 "DeadlineShare$Task" "budget" "I") := ⟨(List.mem_append_right _ (List.mem_of_getElem? (i := 186) (by decide +kernel))), good_of_word (by decide +kernel)⟩
theorem tw_121 : q_g (.fieldLink RX8 70 "DeadlineShare$Task" "napTill" "I") := ⟨(List.mem_append_right _ (List.mem_of_getElem? (i := 184) (by decide +kernel))), good_of_word (by decide +kernel)⟩
theorem tw_122 : q_g (.fieldLink RX8 67 "DeadlineShare$Task" "longest" "I") := ⟨(List.mem_append_right _ (List.mem_of_getElem? (i := 183) (by decide +kernel))), good_of_word (by decide +kernel)⟩
theorem tw_123 : q_g (.fieldLink RX8 64 "DeadlineShare$Task" "wait" "I") := ⟨(List.mem_append_right _ (List.mem_of_getElem? (i := 181) (by decide +kernel))), good_of_word (by decide +kernel)⟩
theorem tw_124 : q_g (.fieldLink RX8 61 "DeadlineShare$Task" "late" "I") := ⟨(List.mem_append_right _ (List.mem_of_getElem? (i := 179) (by decide +kernel))), good_of_word (by decide +kernel)⟩
theorem tw_125 : q_g (.fieldLink RX8 58 "DeadlineShare$Task" "requests" "I") := ⟨(List.mem_append_right _ (List.mem_of_getElem? (i := 176) (by decide +kernel))), good_of_word (by decide +kernel)⟩
theorem tw_126 : q_g (.fieldLink RX8 55 "DeadlineShare$Task" "served" "I") := ⟨(List.mem_append_right _ (List.mem_of_getElem? (i := 174) (by decide +kernel))), good_of_word (by decide +kernel)⟩
theorem tw_127 : q_g (.fieldLink RX8 52 "DeadlineShare$Task" "lagWeight" "I") := ⟨(List.mem_append_right _ (List.mem_of_getElem? (i := 172) (by decide +kernel))), good_of_word (by decide +kernel)⟩
theorem tw_128 : q_g (.selects RX10 yX10_copy yX10_copy) := ⟨(List.mem_append_right _ (List.mem_of_getElem? (i := 444) (by decide +kernel))), good_of_word (by decide +kernel)⟩
theorem tw_129 : q_g (.instanceMethod yX10_copy) := ⟨(List.mem_append_right _ (List.mem_of_getElem? (i := 443) (by decide +kernel))), good_of_word (by decide +kernel)⟩
theorem tw_130 : q_g (.methodLink RX8 81 yX10_copy) := ⟨(List.mem_append_right _ (List.mem_of_getElem? (i := 442) (by decide +kernel))), good_of_word (by decide +kernel)⟩
theorem tw_131 : q_g (.fieldLink RX8 21 "DeadlineShare$Task" "lag" "LDeadlineShare$Wide;") := ⟨(List.mem_append_right _ (List.mem_of_getElem? (i := 169) (by decide +kernel))), good_of_word (by decide +kernel)⟩
theorem tw_132 : q_g (.fieldLink RX8 35 "DeadlineShare$Task" "slice" "I") := ⟨(List.mem_append_right _ (List.mem_of_getElem? (i := 157) (by decide +kernel))), good_of_word (by decide +kernel)⟩
theorem tw_133 : q_g (.initialized RX5) := ⟨(List.mem_append_right _ (List.mem_of_getElem? (i := 5) (by decide +kernel))), good_of_word (by decide +kernel)⟩
theorem tw_134 : q_g (.selects RX5 yX5_copy yX5_copy) := ⟨(List.mem_append_right _ (List.mem_of_getElem? (i := 437) (by decide +kernel))), good_of_word (by decide +kernel)⟩
theorem tw_135 : q_g (.instanceMethod yX5_copy) := ⟨(List.mem_append_right _ (List.mem_of_getElem? (i := 436) (by decide +kernel))), good_of_word (by decide +kernel)⟩
theorem tw_136 : q_g (.methodLink RX8 77 yX5_copy) := ⟨(List.mem_append_right _ (List.mem_of_getElem? (i := 435) (by decide +kernel))), good_of_word (by decide +kernel)⟩
theorem tw_137 : q_g (.fieldLink RX8 12 "DeadlineShare$Task" "script" "LDeadlineShare$Script;") := ⟨(List.mem_append_right _ (List.mem_of_getElem? (i := 151) (by decide +kernel))), good_of_word (by decide +kernel)⟩
theorem tw_138 : q_g (.code yX8_copy cX8_copy 2 none) := ⟨(List.mem_append_right _ (List.mem_of_getElem? (i := 434) (by decide +kernel))), good_of_word (by decide +kernel)⟩
def ow_c_X8_copy : List Cond := [.fieldLink RX8 12 "DeadlineShare$Task" "script" "LDeadlineShare$Script;", .methodLink RX8 77 yX5_copy, .instanceMethod yX5_copy, .selects RX5 yX5_copy yX5_copy, .initialized RX5, .fieldLink RX8 32 "DeadlineShare$Task" "weight" "I", .fieldLink RX8 35 "DeadlineShare$Task" "slice" "I", .fieldLink RX8 38 "DeadlineShare$Task" "state" "I", .fieldLink RX8 41 "DeadlineShare$Task" "v" "J", .fieldLink RX8 45 "DeadlineShare$Task" "left" "I", .fieldLink RX8 21 "DeadlineShare$Task" "lag" "LDeadlineShare$Wide;", .methodLink RX8 81 yX10_copy, .instanceMethod yX10_copy, .selects RX10 yX10_copy yX10_copy, .initialized RX10, .fieldLink RX8 52 "DeadlineShare$Task" "lagWeight" "I", .fieldLink RX8 55 "DeadlineShare$Task" "served" "I", .fieldLink RX8 58 "DeadlineShare$Task" "requests" "I", .fieldLink RX8 61 "DeadlineShare$Task" "late" "I", .fieldLink RX8 64 "DeadlineShare$Task" "wait" "I", .fieldLink RX8 67 "DeadlineShare$Task" "longest" "I", .fieldLink RX8 70 "DeadlineShare$Task" "napTill" "I", .fieldLink RX8 84 "DeadlineShare$Task" "budget" "I", .fieldLink RX8 87 "DeadlineShare$Task" "quota" "I", .fieldLink RX8 90 "DeadlineShare$Task" "period" "I"]
def wq_c_X8_copy : List Cond := .code yX8_copy cX8_copy 2 none :: (ow_c_X8_copy ++ (u_ws RX8 TX8 18 ++ (wq_c_X5_copy ++ (wq_c_X10_copy ++ ([] : List Cond)))))
theorem tb_c_X8_copy : ∀ w ∈ wq_c_X8_copy, q_g w := by
  unfold wq_c_X8_copy ow_c_X8_copy
  exact q_cons tw_138 (q_app (q_cons tw_137 (q_cons tw_136 (q_cons tw_135 (q_cons tw_134 (q_cons tw_133 (q_cons tw_57 (q_cons tw_132 (q_cons tw_5 (q_cons tw_59 (q_cons tw_58 (q_cons tw_131 (q_cons tw_130 (q_cons tw_129 (q_cons tw_128 (q_cons tw_26 (q_cons tw_127 (q_cons tw_126 (q_cons tw_125 (q_cons tw_124 (q_cons tw_123 (q_cons tw_122 (q_cons tw_121 (q_cons tw_120 (q_cons tw_119 (q_cons tw_118 q_nil))))))))))))))))))))))))) (q_app tu_X8 (q_app tb_c_X5_copy (q_app tb_c_X10_copy q_nil))))
set_option maxHeartbeats 4000000 in
set_option maxRecDepth 100000 in
theorem c_X8_copy (l : Launch) (dC : Nat → ClassId) (dI : Nat → Nat → Nat) (g : kG) (A : Nat → Prop) (hG : kWf g) (f : Nat → va_E) (h0 : Nat) (p1 : Nat) (i_h0 : ik g 8 h0) (i_p1 : ik g 8 p1) : Met l yX8_copy wq_c_X8_copy ({ frames := 2, cells := 0, slots := 0, locals := 61 } : Room) (va_Pc [.ref h0, .ref p1] (fun U => kIn dC dI g A f U)) (va_Qv (fun (_ : Unit) => True) (fun (_ : Unit) t => ∃ f1 : Nat → va_E, Iv dC dI g A f1 t.heap ∧ Kp g [5, 8, 10, 24] f f1) A) 0 0 A := by
  refine Met.ofW (cc := cX8_copy) (maxL := 2) (ret := none) (by decide) rfl ?_
  intro p e s m args below meth c s₁ B hml hv
  obtain ⟨rfl, hI, hK, hE⟩ := hv
  have hx := B.exec
  have hb := B.bytes
  have hr := B.returns
  have hts := atoms_spec (ws := wq_c_X8_copy) B.pre
  have hown : s.vm.findClass RX8 = some m.cls := findClass_of_methodNamed B.named
  have hlocks := B.notSynchronized
  have hS : va_S A s.heap s.heap [] := va_S.rf
  have hk0 : Kp g [5, 8, 10, 24] f f := Kp.rf
  have hl := lv_entry ([.ref h0, .ref p1]) (n := 2) (Nat.le_of_ble_eq_true rfl)
  rw [lg_entry_eq]
  generalize (lg_sl ([.ref h0, .ref p1]) ++ List.replicate (2 - (lg_sl ([.ref h0, .ref p1])).length) Slot.unset).toArray = ls at hl ⊢
  have hl : lv_has ls 2 [(0, .ref h0), (1, .ref p1)] := hl
  refine lv_aload_n hx hb dX8_copy_0 rfl (lv_at hl 0 rfl) ?_
  obtain ⟨x_2, x_3, x_4, x_5, x_6, x_7, x_8, x_9, x_10, x_11, x_12, x_13, x_14, x_15, x_16, x_17, k_1⟩ := op_8 hI i_h0
  refine k_get (ci := 8) (v := .ref (gr g h0 1)) (C := RX8) (T := TX8) (N := 18) hx hb hts (fun _ h0_ => List.mem_cons_of_mem _ (List.mem_append_right _ (List.mem_append_left _ h0_))) hown hK hI i_h0.1 k_1 rfl 1 (by decide) (hts (.fieldLink RX8 12 "DeadlineShare$Task" "script" "LDeadlineShare$Script;") (List.mem_cons_of_mem _ (List.mem_append_left _ (List.mem_of_getElem? (i := 0) rfl)))) (fun _ h9 => h9) rfl dX8_copy_1 ?_
  have i_19 := kw_8_1 hG i_h0
  refine lv_aload_n hx hb dX8_copy_4 rfl (lv_at hl 1 rfl) ?_
  obtain ⟨x_21, x_22, x_23, x_24, x_25, x_26, x_27, x_28, x_29, x_30, x_31, x_32, x_33, x_34, x_35, x_36, k_20⟩ := op_8 hI i_p1
  refine k_get (ci := 8) (v := .ref (gr g p1 1)) (C := RX8) (T := TX8) (N := 18) hx hb hts (fun _ h0_ => List.mem_cons_of_mem _ (List.mem_append_right _ (List.mem_append_left _ h0_))) hown hK hI i_p1.1 k_20 rfl 1 (by decide) (hts (.fieldLink RX8 12 "DeadlineShare$Task" "script" "LDeadlineShare$Script;") (List.mem_cons_of_mem _ (List.mem_append_left _ (List.mem_of_getElem? (i := 0) rfl)))) (fun _ h9 => h9) rfl dX8_copy_5 ?_
  have i_38 := kw_8_1 hG i_p1
  obtain ⟨x_40, x_41, x_42, x_43, k_39, b_44, b_45⟩ := op_5 hI i_19
  refine va_callv (va_runV (As := [.ref (gr g p1 1)]) (rest := []) ⟨hx, hb, hml, hown, hts⟩ (c_X5_copy l dC dI g A hG f (gr g h0 1) (gr g p1 1) i_19 i_38) (cwV 1 hts (gi_V (fun w_ h0_ => ⟨List.mem_cons_of_mem _ (List.mem_append_right _ (List.mem_append_right _ (List.mem_append_left _ h0_))), (tb_c_X5_copy w_ h0_).2⟩) (List.mem_cons_of_mem _ (List.mem_append_left _ (List.mem_of_getElem? (i := 1) rfl))) (List.mem_cons_of_mem _ (List.mem_append_left _ (List.mem_of_getElem? (i := 2) rfl))) (List.mem_cons_of_mem _ (List.mem_append_left _ (List.mem_of_getElem? (i := 3) rfl))) (List.mem_cons_of_mem _ (List.mem_append_left _ (List.mem_of_getElem? (i := 4) rfl)))) rfl rfl rfl (by decide +kernel) ⟨Nat.le_of_ble_eq_true rfl, Nat.le_of_ble_eq_true rfl⟩) ⟨fun a U g mk q => ⟨q.1, q.2.calling rfl rfl⟩, k_recv hK hI i_19.1 k_39 (ci := 5) rfl, fun U hU hW => ⟨rfl, kIn.of hI hK hE hS hU hW⟩⟩ rfl rfl hl.1 rfl (lv_room (Nat.le_of_ble_eq_true rfl)) dX8_copy_8 ⟨Nat.le_of_ble_eq_true rfl, Nat.le_of_ble_eq_true rfl⟩) hS (fun q _ h => h) (fun q h => h) (fun u t H1 locs ht hvm _ hB hz1 hk1 hS => ?_)
  obtain ⟨f_46, hI, kc_48⟩ := hB
  rw [ht] at hI
  have k_49 : f_46 h0 = .inr (8, [.int x_2, .ref (gr g h0 1), .int x_3, .int x_4, .int x_5, .long x_6, .int x_7, .ref (gr g h0 7), .int x_8, .int x_9, .int x_10, .int x_11, .int x_12, .int x_13, .int x_14, .int x_15, .int x_16, .int x_17]) := Kp.at kc_48 i_h0 (by decide) k_1
  have k_50 : f_46 p1 = .inr (8, [.int x_21, .ref (gr g p1 1), .int x_22, .int x_23, .int x_24, .long x_25, .int x_26, .ref (gr g p1 7), .int x_27, .int x_28, .int x_29, .int x_30, .int x_31, .int x_32, .int x_33, .int x_34, .int x_35, .int x_36]) := Kp.at kc_48 i_p1 (by decide) k_20
  have kp_51 := Kp.call hk0 kc_48 (by decide)
  generalize H1 = H at hI hS ⊢
  refine W.widen (k := 0) (n := 0) (Nat.le_of_ble_eq_true rfl) (Nat.le_of_ble_eq_true rfl) ?_
  refine lv_aload_n hx hb dX8_copy_11 rfl (lv_at hl 0 rfl) ?_
  refine lv_aload_n hx hb dX8_copy_12 rfl (lv_at hl 1 rfl) ?_
  refine k_get (ci := 8) (v := .int x_22) (C := RX8) (T := TX8) (N := 18) hx hb hts (fun _ h0_ => List.mem_cons_of_mem _ (List.mem_append_right _ (List.mem_append_left _ h0_))) hown hK hI i_p1.1 k_50 rfl 2 (by decide) (hts (.fieldLink RX8 32 "DeadlineShare$Task" "weight" "I") (List.mem_cons_of_mem _ (List.mem_append_left _ (List.mem_of_getElem? (i := 5) rfl)))) (fun _ h9 => h9) rfl dX8_copy_13 ?_
  refine k_put (ci := 8) (v := .int x_22) (ty := .int) (C := RX8) (T := TX8) (N := 18) hx hb hts (fun _ h0_ => List.mem_cons_of_mem _ (List.mem_append_right _ (List.mem_append_left _ h0_))) tyX8 tyX8_ok nmX8 hown hK hI hS i_h0.1 k_49 rfl 2 (by decide) (hts (.fieldLink RX8 32 "DeadlineShare$Task" "weight" "I") (List.mem_cons_of_mem _ (List.mem_append_left _ (List.mem_of_getElem? (i := 5) rfl)))) (fun _ h9 => h9) rfl (by decide +kernel) rfl rfl (Nat.le_of_ble_eq_true rfl) rfl (cl_8 i_h0) dX8_copy_16 (fun f_52 H locs e_53 hI hS => ?_)
  have k_55 : f_52 h0 = .inr (8, [.int x_2, .ref (gr g h0 1), .int x_22, .int x_4, .int x_5, .long x_6, .int x_7, .ref (gr g h0 7), .int x_8, .int x_9, .int x_10, .int x_11, .int x_12, .int x_13, .int x_14, .int x_15, .int x_16, .int x_17]) := by rw [e_53]; exact va_up_self _ _ _
  have kp_54 := Kp.put kp_51 i_h0 (by decide) e_53
  refine lv_aload_n hx hb dX8_copy_19 rfl (lv_at hl 0 rfl) ?_
  refine lv_aload_n hx hb dX8_copy_20 rfl (lv_at hl 1 rfl) ?_
  obtain ⟨x_57, x_58, x_59, x_60, x_61, x_62, x_63, x_64, x_65, x_66, x_67, x_68, x_69, x_70, x_71, x_72, k_56⟩ := op_8 hI i_p1
  refine k_get (ci := 8) (v := .int x_59) (C := RX8) (T := TX8) (N := 18) hx hb hts (fun _ h0_ => List.mem_cons_of_mem _ (List.mem_append_right _ (List.mem_append_left _ h0_))) hown hK hI i_p1.1 k_56 rfl 3 (by decide) (hts (.fieldLink RX8 35 "DeadlineShare$Task" "slice" "I") (List.mem_cons_of_mem _ (List.mem_append_left _ (List.mem_of_getElem? (i := 6) rfl)))) (fun _ h9 => h9) rfl dX8_copy_21 ?_
  refine k_put (ci := 8) (v := .int x_59) (ty := .int) (C := RX8) (T := TX8) (N := 18) hx hb hts (fun _ h0_ => List.mem_cons_of_mem _ (List.mem_append_right _ (List.mem_append_left _ h0_))) tyX8 tyX8_ok nmX8 hown hK hI hS i_h0.1 k_55 rfl 3 (by decide) (hts (.fieldLink RX8 35 "DeadlineShare$Task" "slice" "I") (List.mem_cons_of_mem _ (List.mem_append_left _ (List.mem_of_getElem? (i := 6) rfl)))) (fun _ h9 => h9) rfl (by decide +kernel) rfl rfl (Nat.le_of_ble_eq_true rfl) rfl (cl_8 i_h0) dX8_copy_24 (fun f_73 H locs e_74 hI hS => ?_)
  have k_76 : f_73 h0 = .inr (8, [.int x_2, .ref (gr g h0 1), .int x_22, .int x_59, .int x_5, .long x_6, .int x_7, .ref (gr g h0 7), .int x_8, .int x_9, .int x_10, .int x_11, .int x_12, .int x_13, .int x_14, .int x_15, .int x_16, .int x_17]) := by rw [e_74]; exact va_up_self _ _ _
  have kp_75 := Kp.put kp_54 i_h0 (by decide) e_74
  refine lv_aload_n hx hb dX8_copy_27 rfl (lv_at hl 0 rfl) ?_
  refine lv_aload_n hx hb dX8_copy_28 rfl (lv_at hl 1 rfl) ?_
  obtain ⟨x_78, x_79, x_80, x_81, x_82, x_83, x_84, x_85, x_86, x_87, x_88, x_89, x_90, x_91, x_92, x_93, k_77⟩ := op_8 hI i_p1
  refine k_get (ci := 8) (v := .int x_81) (C := RX8) (T := TX8) (N := 18) hx hb hts (fun _ h0_ => List.mem_cons_of_mem _ (List.mem_append_right _ (List.mem_append_left _ h0_))) hown hK hI i_p1.1 k_77 rfl 4 (by decide) (hts (.fieldLink RX8 38 "DeadlineShare$Task" "state" "I") (List.mem_cons_of_mem _ (List.mem_append_left _ (List.mem_of_getElem? (i := 7) rfl)))) (fun _ h9 => h9) rfl dX8_copy_29 ?_
  refine k_put (ci := 8) (v := .int x_81) (ty := .int) (C := RX8) (T := TX8) (N := 18) hx hb hts (fun _ h0_ => List.mem_cons_of_mem _ (List.mem_append_right _ (List.mem_append_left _ h0_))) tyX8 tyX8_ok nmX8 hown hK hI hS i_h0.1 k_76 rfl 4 (by decide) (hts (.fieldLink RX8 38 "DeadlineShare$Task" "state" "I") (List.mem_cons_of_mem _ (List.mem_append_left _ (List.mem_of_getElem? (i := 7) rfl)))) (fun _ h9 => h9) rfl (by decide +kernel) rfl rfl (Nat.le_of_ble_eq_true rfl) rfl (cl_8 i_h0) dX8_copy_32 (fun f_94 H locs e_95 hI hS => ?_)
  have k_97 : f_94 h0 = .inr (8, [.int x_2, .ref (gr g h0 1), .int x_22, .int x_59, .int x_81, .long x_6, .int x_7, .ref (gr g h0 7), .int x_8, .int x_9, .int x_10, .int x_11, .int x_12, .int x_13, .int x_14, .int x_15, .int x_16, .int x_17]) := by rw [e_95]; exact va_up_self _ _ _
  have kp_96 := Kp.put kp_75 i_h0 (by decide) e_95
  refine lv_aload_n hx hb dX8_copy_35 rfl (lv_at hl 0 rfl) ?_
  refine lv_aload_n hx hb dX8_copy_36 rfl (lv_at hl 1 rfl) ?_
  obtain ⟨x_99, x_100, x_101, x_102, x_103, x_104, x_105, x_106, x_107, x_108, x_109, x_110, x_111, x_112, x_113, x_114, k_98⟩ := op_8 hI i_p1
  refine k_get (ci := 8) (v := .long x_103) (C := RX8) (T := TX8) (N := 18) hx hb hts (fun _ h0_ => List.mem_cons_of_mem _ (List.mem_append_right _ (List.mem_append_left _ h0_))) hown hK hI i_p1.1 k_98 rfl 5 (by decide) (hts (.fieldLink RX8 41 "DeadlineShare$Task" "v" "J") (List.mem_cons_of_mem _ (List.mem_append_left _ (List.mem_of_getElem? (i := 8) rfl)))) (fun _ h9 => h9) rfl dX8_copy_37 ?_
  refine k_put (ci := 8) (v := .long x_103) (ty := .long) (C := RX8) (T := TX8) (N := 18) hx hb hts (fun _ h0_ => List.mem_cons_of_mem _ (List.mem_append_right _ (List.mem_append_left _ h0_))) tyX8 tyX8_ok nmX8 hown hK hI hS i_h0.1 k_97 rfl 5 (by decide) (hts (.fieldLink RX8 41 "DeadlineShare$Task" "v" "J") (List.mem_cons_of_mem _ (List.mem_append_left _ (List.mem_of_getElem? (i := 8) rfl)))) (fun _ h9 => h9) rfl (by decide +kernel) rfl rfl (Nat.le_of_ble_eq_true rfl) rfl (cl_8 i_h0) dX8_copy_40 (fun f_115 H locs e_116 hI hS => ?_)
  have k_118 : f_115 h0 = .inr (8, [.int x_2, .ref (gr g h0 1), .int x_22, .int x_59, .int x_81, .long x_103, .int x_7, .ref (gr g h0 7), .int x_8, .int x_9, .int x_10, .int x_11, .int x_12, .int x_13, .int x_14, .int x_15, .int x_16, .int x_17]) := by rw [e_116]; exact va_up_self _ _ _
  have kp_117 := Kp.put kp_96 i_h0 (by decide) e_116
  refine lv_aload_n hx hb dX8_copy_43 rfl (lv_at hl 0 rfl) ?_
  refine lv_aload_n hx hb dX8_copy_44 rfl (lv_at hl 1 rfl) ?_
  obtain ⟨x_120, x_121, x_122, x_123, x_124, x_125, x_126, x_127, x_128, x_129, x_130, x_131, x_132, x_133, x_134, x_135, k_119⟩ := op_8 hI i_p1
  refine k_get (ci := 8) (v := .int x_125) (C := RX8) (T := TX8) (N := 18) hx hb hts (fun _ h0_ => List.mem_cons_of_mem _ (List.mem_append_right _ (List.mem_append_left _ h0_))) hown hK hI i_p1.1 k_119 rfl 6 (by decide) (hts (.fieldLink RX8 45 "DeadlineShare$Task" "left" "I") (List.mem_cons_of_mem _ (List.mem_append_left _ (List.mem_of_getElem? (i := 9) rfl)))) (fun _ h9 => h9) rfl dX8_copy_45 ?_
  refine k_put (ci := 8) (v := .int x_125) (ty := .int) (C := RX8) (T := TX8) (N := 18) hx hb hts (fun _ h0_ => List.mem_cons_of_mem _ (List.mem_append_right _ (List.mem_append_left _ h0_))) tyX8 tyX8_ok nmX8 hown hK hI hS i_h0.1 k_118 rfl 6 (by decide) (hts (.fieldLink RX8 45 "DeadlineShare$Task" "left" "I") (List.mem_cons_of_mem _ (List.mem_append_left _ (List.mem_of_getElem? (i := 9) rfl)))) (fun _ h9 => h9) rfl (by decide +kernel) rfl rfl (Nat.le_of_ble_eq_true rfl) rfl (cl_8 i_h0) dX8_copy_48 (fun f_136 H locs e_137 hI hS => ?_)
  have k_139 : f_136 h0 = .inr (8, [.int x_2, .ref (gr g h0 1), .int x_22, .int x_59, .int x_81, .long x_103, .int x_125, .ref (gr g h0 7), .int x_8, .int x_9, .int x_10, .int x_11, .int x_12, .int x_13, .int x_14, .int x_15, .int x_16, .int x_17]) := by rw [e_137]; exact va_up_self _ _ _
  have kp_138 := Kp.put kp_117 i_h0 (by decide) e_137
  refine lv_aload_n hx hb dX8_copy_51 rfl (lv_at hl 0 rfl) ?_
  refine k_get (ci := 8) (v := .ref (gr g h0 7)) (C := RX8) (T := TX8) (N := 18) hx hb hts (fun _ h0_ => List.mem_cons_of_mem _ (List.mem_append_right _ (List.mem_append_left _ h0_))) hown hK hI i_h0.1 k_139 rfl 7 (by decide) (hts (.fieldLink RX8 21 "DeadlineShare$Task" "lag" "LDeadlineShare$Wide;") (List.mem_cons_of_mem _ (List.mem_append_left _ (List.mem_of_getElem? (i := 10) rfl)))) (fun _ h9 => h9) rfl dX8_copy_52 ?_
  have i_141 := kw_8_7 hG i_h0
  refine lv_aload_n hx hb dX8_copy_55 rfl (lv_at hl 1 rfl) ?_
  obtain ⟨x_143, x_144, x_145, x_146, x_147, x_148, x_149, x_150, x_151, x_152, x_153, x_154, x_155, x_156, x_157, x_158, k_142⟩ := op_8 hI i_p1
  refine k_get (ci := 8) (v := .ref (gr g p1 7)) (C := RX8) (T := TX8) (N := 18) hx hb hts (fun _ h0_ => List.mem_cons_of_mem _ (List.mem_append_right _ (List.mem_append_left _ h0_))) hown hK hI i_p1.1 k_142 rfl 7 (by decide) (hts (.fieldLink RX8 21 "DeadlineShare$Task" "lag" "LDeadlineShare$Wide;") (List.mem_cons_of_mem _ (List.mem_append_left _ (List.mem_of_getElem? (i := 10) rfl)))) (fun _ h9 => h9) rfl dX8_copy_56 ?_
  have i_160 := kw_8_7 hG i_p1
  obtain ⟨x_162, x_163, k_161⟩ := op_10 hI i_141
  refine va_callv (va_runV (As := [.ref (gr g p1 7)]) (rest := []) ⟨hx, hb, hml, hown, hts⟩ (c_X10_copy l dC dI g A hG f_136 (gr g h0 7) (gr g p1 7) i_141 i_160) (cwV 1 hts (gi_V (fun w_ h0_ => ⟨List.mem_cons_of_mem _ (List.mem_append_right _ (List.mem_append_right _ (List.mem_append_right _ (List.mem_append_left _ h0_)))), (tb_c_X10_copy w_ h0_).2⟩) (List.mem_cons_of_mem _ (List.mem_append_left _ (List.mem_of_getElem? (i := 11) rfl))) (List.mem_cons_of_mem _ (List.mem_append_left _ (List.mem_of_getElem? (i := 12) rfl))) (List.mem_cons_of_mem _ (List.mem_append_left _ (List.mem_of_getElem? (i := 13) rfl))) (List.mem_cons_of_mem _ (List.mem_append_left _ (List.mem_of_getElem? (i := 14) rfl)))) rfl rfl rfl (by decide +kernel) ⟨Nat.le_of_ble_eq_true rfl, Nat.le_of_ble_eq_true rfl⟩) ⟨fun a U g mk q => ⟨q.1, q.2.calling rfl rfl⟩, k_recv hK hI i_141.1 k_161 (ci := 10) rfl, fun U hU hW => ⟨rfl, kIn.of hI hK hE hS hU hW⟩⟩ rfl rfl hl.1 rfl (lv_room (Nat.le_of_ble_eq_true rfl)) dX8_copy_59 ⟨Nat.le_of_ble_eq_true rfl, Nat.le_of_ble_eq_true rfl⟩) hS (fun q _ h => h) (fun q h => h) (fun u t H1 locs ht hvm _ hB hz1 hk1 hS => ?_)
  obtain ⟨f_164, hI, kc_166⟩ := hB
  rw [ht] at hI
  have k_167 : f_164 h0 = .inr (8, [.int x_2, .ref (gr g h0 1), .int x_22, .int x_59, .int x_81, .long x_103, .int x_125, .ref (gr g h0 7), .int x_8, .int x_9, .int x_10, .int x_11, .int x_12, .int x_13, .int x_14, .int x_15, .int x_16, .int x_17]) := Kp.at kc_166 i_h0 (by decide) k_139
  have k_168 : f_164 p1 = .inr (8, [.int x_143, .ref (gr g p1 1), .int x_144, .int x_145, .int x_146, .long x_147, .int x_148, .ref (gr g p1 7), .int x_149, .int x_150, .int x_151, .int x_152, .int x_153, .int x_154, .int x_155, .int x_156, .int x_157, .int x_158]) := Kp.at kc_166 i_p1 (by decide) k_142
  have kp_169 := Kp.call kp_138 kc_166 (by decide)
  generalize H1 = H at hI hS ⊢
  refine W.widen (k := 0) (n := 0) (Nat.le_of_ble_eq_true rfl) (Nat.le_of_ble_eq_true rfl) ?_
  refine lv_aload_n hx hb dX8_copy_62 rfl (lv_at hl 0 rfl) ?_
  refine lv_aload_n hx hb dX8_copy_63 rfl (lv_at hl 1 rfl) ?_
  refine k_get (ci := 8) (v := .int x_149) (C := RX8) (T := TX8) (N := 18) hx hb hts (fun _ h0_ => List.mem_cons_of_mem _ (List.mem_append_right _ (List.mem_append_left _ h0_))) hown hK hI i_p1.1 k_168 rfl 8 (by decide) (hts (.fieldLink RX8 52 "DeadlineShare$Task" "lagWeight" "I") (List.mem_cons_of_mem _ (List.mem_append_left _ (List.mem_of_getElem? (i := 15) rfl)))) (fun _ h9 => h9) rfl dX8_copy_64 ?_
  refine k_put (ci := 8) (v := .int x_149) (ty := .int) (C := RX8) (T := TX8) (N := 18) hx hb hts (fun _ h0_ => List.mem_cons_of_mem _ (List.mem_append_right _ (List.mem_append_left _ h0_))) tyX8 tyX8_ok nmX8 hown hK hI hS i_h0.1 k_167 rfl 8 (by decide) (hts (.fieldLink RX8 52 "DeadlineShare$Task" "lagWeight" "I") (List.mem_cons_of_mem _ (List.mem_append_left _ (List.mem_of_getElem? (i := 15) rfl)))) (fun _ h9 => h9) rfl (by decide +kernel) rfl rfl (Nat.le_of_ble_eq_true rfl) rfl (cl_8 i_h0) dX8_copy_67 (fun f_170 H locs e_171 hI hS => ?_)
  have k_173 : f_170 h0 = .inr (8, [.int x_2, .ref (gr g h0 1), .int x_22, .int x_59, .int x_81, .long x_103, .int x_125, .ref (gr g h0 7), .int x_149, .int x_9, .int x_10, .int x_11, .int x_12, .int x_13, .int x_14, .int x_15, .int x_16, .int x_17]) := by rw [e_171]; exact va_up_self _ _ _
  have kp_172 := Kp.put kp_169 i_h0 (by decide) e_171
  refine lv_aload_n hx hb dX8_copy_70 rfl (lv_at hl 0 rfl) ?_
  refine lv_aload_n hx hb dX8_copy_71 rfl (lv_at hl 1 rfl) ?_
  obtain ⟨x_175, x_176, x_177, x_178, x_179, x_180, x_181, x_182, x_183, x_184, x_185, x_186, x_187, x_188, x_189, x_190, k_174⟩ := op_8 hI i_p1
  refine k_get (ci := 8) (v := .int x_182) (C := RX8) (T := TX8) (N := 18) hx hb hts (fun _ h0_ => List.mem_cons_of_mem _ (List.mem_append_right _ (List.mem_append_left _ h0_))) hown hK hI i_p1.1 k_174 rfl 9 (by decide) (hts (.fieldLink RX8 55 "DeadlineShare$Task" "served" "I") (List.mem_cons_of_mem _ (List.mem_append_left _ (List.mem_of_getElem? (i := 16) rfl)))) (fun _ h9 => h9) rfl dX8_copy_72 ?_
  refine k_put (ci := 8) (v := .int x_182) (ty := .int) (C := RX8) (T := TX8) (N := 18) hx hb hts (fun _ h0_ => List.mem_cons_of_mem _ (List.mem_append_right _ (List.mem_append_left _ h0_))) tyX8 tyX8_ok nmX8 hown hK hI hS i_h0.1 k_173 rfl 9 (by decide) (hts (.fieldLink RX8 55 "DeadlineShare$Task" "served" "I") (List.mem_cons_of_mem _ (List.mem_append_left _ (List.mem_of_getElem? (i := 16) rfl)))) (fun _ h9 => h9) rfl (by decide +kernel) rfl rfl (Nat.le_of_ble_eq_true rfl) rfl (cl_8 i_h0) dX8_copy_75 (fun f_191 H locs e_192 hI hS => ?_)
  have k_194 : f_191 h0 = .inr (8, [.int x_2, .ref (gr g h0 1), .int x_22, .int x_59, .int x_81, .long x_103, .int x_125, .ref (gr g h0 7), .int x_149, .int x_182, .int x_10, .int x_11, .int x_12, .int x_13, .int x_14, .int x_15, .int x_16, .int x_17]) := by rw [e_192]; exact va_up_self _ _ _
  have kp_193 := Kp.put kp_172 i_h0 (by decide) e_192
  refine lv_aload_n hx hb dX8_copy_78 rfl (lv_at hl 0 rfl) ?_
  refine lv_aload_n hx hb dX8_copy_79 rfl (lv_at hl 1 rfl) ?_
  obtain ⟨x_196, x_197, x_198, x_199, x_200, x_201, x_202, x_203, x_204, x_205, x_206, x_207, x_208, x_209, x_210, x_211, k_195⟩ := op_8 hI i_p1
  refine k_get (ci := 8) (v := .int x_204) (C := RX8) (T := TX8) (N := 18) hx hb hts (fun _ h0_ => List.mem_cons_of_mem _ (List.mem_append_right _ (List.mem_append_left _ h0_))) hown hK hI i_p1.1 k_195 rfl 10 (by decide) (hts (.fieldLink RX8 58 "DeadlineShare$Task" "requests" "I") (List.mem_cons_of_mem _ (List.mem_append_left _ (List.mem_of_getElem? (i := 17) rfl)))) (fun _ h9 => h9) rfl dX8_copy_80 ?_
  refine k_put (ci := 8) (v := .int x_204) (ty := .int) (C := RX8) (T := TX8) (N := 18) hx hb hts (fun _ h0_ => List.mem_cons_of_mem _ (List.mem_append_right _ (List.mem_append_left _ h0_))) tyX8 tyX8_ok nmX8 hown hK hI hS i_h0.1 k_194 rfl 10 (by decide) (hts (.fieldLink RX8 58 "DeadlineShare$Task" "requests" "I") (List.mem_cons_of_mem _ (List.mem_append_left _ (List.mem_of_getElem? (i := 17) rfl)))) (fun _ h9 => h9) rfl (by decide +kernel) rfl rfl (Nat.le_of_ble_eq_true rfl) rfl (cl_8 i_h0) dX8_copy_83 (fun f_212 H locs e_213 hI hS => ?_)
  have k_215 : f_212 h0 = .inr (8, [.int x_2, .ref (gr g h0 1), .int x_22, .int x_59, .int x_81, .long x_103, .int x_125, .ref (gr g h0 7), .int x_149, .int x_182, .int x_204, .int x_11, .int x_12, .int x_13, .int x_14, .int x_15, .int x_16, .int x_17]) := by rw [e_213]; exact va_up_self _ _ _
  have kp_214 := Kp.put kp_193 i_h0 (by decide) e_213
  refine lv_aload_n hx hb dX8_copy_86 rfl (lv_at hl 0 rfl) ?_
  refine lv_aload_n hx hb dX8_copy_87 rfl (lv_at hl 1 rfl) ?_
  obtain ⟨x_217, x_218, x_219, x_220, x_221, x_222, x_223, x_224, x_225, x_226, x_227, x_228, x_229, x_230, x_231, x_232, k_216⟩ := op_8 hI i_p1
  refine k_get (ci := 8) (v := .int x_226) (C := RX8) (T := TX8) (N := 18) hx hb hts (fun _ h0_ => List.mem_cons_of_mem _ (List.mem_append_right _ (List.mem_append_left _ h0_))) hown hK hI i_p1.1 k_216 rfl 11 (by decide) (hts (.fieldLink RX8 61 "DeadlineShare$Task" "late" "I") (List.mem_cons_of_mem _ (List.mem_append_left _ (List.mem_of_getElem? (i := 18) rfl)))) (fun _ h9 => h9) rfl dX8_copy_88 ?_
  refine k_put (ci := 8) (v := .int x_226) (ty := .int) (C := RX8) (T := TX8) (N := 18) hx hb hts (fun _ h0_ => List.mem_cons_of_mem _ (List.mem_append_right _ (List.mem_append_left _ h0_))) tyX8 tyX8_ok nmX8 hown hK hI hS i_h0.1 k_215 rfl 11 (by decide) (hts (.fieldLink RX8 61 "DeadlineShare$Task" "late" "I") (List.mem_cons_of_mem _ (List.mem_append_left _ (List.mem_of_getElem? (i := 18) rfl)))) (fun _ h9 => h9) rfl (by decide +kernel) rfl rfl (Nat.le_of_ble_eq_true rfl) rfl (cl_8 i_h0) dX8_copy_91 (fun f_233 H locs e_234 hI hS => ?_)
  have k_236 : f_233 h0 = .inr (8, [.int x_2, .ref (gr g h0 1), .int x_22, .int x_59, .int x_81, .long x_103, .int x_125, .ref (gr g h0 7), .int x_149, .int x_182, .int x_204, .int x_226, .int x_12, .int x_13, .int x_14, .int x_15, .int x_16, .int x_17]) := by rw [e_234]; exact va_up_self _ _ _
  have kp_235 := Kp.put kp_214 i_h0 (by decide) e_234
  refine lv_aload_n hx hb dX8_copy_94 rfl (lv_at hl 0 rfl) ?_
  refine lv_aload_n hx hb dX8_copy_95 rfl (lv_at hl 1 rfl) ?_
  obtain ⟨x_238, x_239, x_240, x_241, x_242, x_243, x_244, x_245, x_246, x_247, x_248, x_249, x_250, x_251, x_252, x_253, k_237⟩ := op_8 hI i_p1
  refine k_get (ci := 8) (v := .int x_248) (C := RX8) (T := TX8) (N := 18) hx hb hts (fun _ h0_ => List.mem_cons_of_mem _ (List.mem_append_right _ (List.mem_append_left _ h0_))) hown hK hI i_p1.1 k_237 rfl 12 (by decide) (hts (.fieldLink RX8 64 "DeadlineShare$Task" "wait" "I") (List.mem_cons_of_mem _ (List.mem_append_left _ (List.mem_of_getElem? (i := 19) rfl)))) (fun _ h9 => h9) rfl dX8_copy_96 ?_
  refine k_put (ci := 8) (v := .int x_248) (ty := .int) (C := RX8) (T := TX8) (N := 18) hx hb hts (fun _ h0_ => List.mem_cons_of_mem _ (List.mem_append_right _ (List.mem_append_left _ h0_))) tyX8 tyX8_ok nmX8 hown hK hI hS i_h0.1 k_236 rfl 12 (by decide) (hts (.fieldLink RX8 64 "DeadlineShare$Task" "wait" "I") (List.mem_cons_of_mem _ (List.mem_append_left _ (List.mem_of_getElem? (i := 19) rfl)))) (fun _ h9 => h9) rfl (by decide +kernel) rfl rfl (Nat.le_of_ble_eq_true rfl) rfl (cl_8 i_h0) dX8_copy_99 (fun f_254 H locs e_255 hI hS => ?_)
  have k_257 : f_254 h0 = .inr (8, [.int x_2, .ref (gr g h0 1), .int x_22, .int x_59, .int x_81, .long x_103, .int x_125, .ref (gr g h0 7), .int x_149, .int x_182, .int x_204, .int x_226, .int x_248, .int x_13, .int x_14, .int x_15, .int x_16, .int x_17]) := by rw [e_255]; exact va_up_self _ _ _
  have kp_256 := Kp.put kp_235 i_h0 (by decide) e_255
  refine lv_aload_n hx hb dX8_copy_102 rfl (lv_at hl 0 rfl) ?_
  refine lv_aload_n hx hb dX8_copy_103 rfl (lv_at hl 1 rfl) ?_
  obtain ⟨x_259, x_260, x_261, x_262, x_263, x_264, x_265, x_266, x_267, x_268, x_269, x_270, x_271, x_272, x_273, x_274, k_258⟩ := op_8 hI i_p1
  refine k_get (ci := 8) (v := .int x_270) (C := RX8) (T := TX8) (N := 18) hx hb hts (fun _ h0_ => List.mem_cons_of_mem _ (List.mem_append_right _ (List.mem_append_left _ h0_))) hown hK hI i_p1.1 k_258 rfl 13 (by decide) (hts (.fieldLink RX8 67 "DeadlineShare$Task" "longest" "I") (List.mem_cons_of_mem _ (List.mem_append_left _ (List.mem_of_getElem? (i := 20) rfl)))) (fun _ h9 => h9) rfl dX8_copy_104 ?_
  refine k_put (ci := 8) (v := .int x_270) (ty := .int) (C := RX8) (T := TX8) (N := 18) hx hb hts (fun _ h0_ => List.mem_cons_of_mem _ (List.mem_append_right _ (List.mem_append_left _ h0_))) tyX8 tyX8_ok nmX8 hown hK hI hS i_h0.1 k_257 rfl 13 (by decide) (hts (.fieldLink RX8 67 "DeadlineShare$Task" "longest" "I") (List.mem_cons_of_mem _ (List.mem_append_left _ (List.mem_of_getElem? (i := 20) rfl)))) (fun _ h9 => h9) rfl (by decide +kernel) rfl rfl (Nat.le_of_ble_eq_true rfl) rfl (cl_8 i_h0) dX8_copy_107 (fun f_275 H locs e_276 hI hS => ?_)
  have k_278 : f_275 h0 = .inr (8, [.int x_2, .ref (gr g h0 1), .int x_22, .int x_59, .int x_81, .long x_103, .int x_125, .ref (gr g h0 7), .int x_149, .int x_182, .int x_204, .int x_226, .int x_248, .int x_270, .int x_14, .int x_15, .int x_16, .int x_17]) := by rw [e_276]; exact va_up_self _ _ _
  have kp_277 := Kp.put kp_256 i_h0 (by decide) e_276
  refine lv_aload_n hx hb dX8_copy_110 rfl (lv_at hl 0 rfl) ?_
  refine lv_aload_n hx hb dX8_copy_111 rfl (lv_at hl 1 rfl) ?_
  obtain ⟨x_280, x_281, x_282, x_283, x_284, x_285, x_286, x_287, x_288, x_289, x_290, x_291, x_292, x_293, x_294, x_295, k_279⟩ := op_8 hI i_p1
  refine k_get (ci := 8) (v := .int x_292) (C := RX8) (T := TX8) (N := 18) hx hb hts (fun _ h0_ => List.mem_cons_of_mem _ (List.mem_append_right _ (List.mem_append_left _ h0_))) hown hK hI i_p1.1 k_279 rfl 14 (by decide) (hts (.fieldLink RX8 70 "DeadlineShare$Task" "napTill" "I") (List.mem_cons_of_mem _ (List.mem_append_left _ (List.mem_of_getElem? (i := 21) rfl)))) (fun _ h9 => h9) rfl dX8_copy_112 ?_
  refine k_put (ci := 8) (v := .int x_292) (ty := .int) (C := RX8) (T := TX8) (N := 18) hx hb hts (fun _ h0_ => List.mem_cons_of_mem _ (List.mem_append_right _ (List.mem_append_left _ h0_))) tyX8 tyX8_ok nmX8 hown hK hI hS i_h0.1 k_278 rfl 14 (by decide) (hts (.fieldLink RX8 70 "DeadlineShare$Task" "napTill" "I") (List.mem_cons_of_mem _ (List.mem_append_left _ (List.mem_of_getElem? (i := 21) rfl)))) (fun _ h9 => h9) rfl (by decide +kernel) rfl rfl (Nat.le_of_ble_eq_true rfl) rfl (cl_8 i_h0) dX8_copy_115 (fun f_296 H locs e_297 hI hS => ?_)
  have k_299 : f_296 h0 = .inr (8, [.int x_2, .ref (gr g h0 1), .int x_22, .int x_59, .int x_81, .long x_103, .int x_125, .ref (gr g h0 7), .int x_149, .int x_182, .int x_204, .int x_226, .int x_248, .int x_270, .int x_292, .int x_15, .int x_16, .int x_17]) := by rw [e_297]; exact va_up_self _ _ _
  have kp_298 := Kp.put kp_277 i_h0 (by decide) e_297
  refine lv_aload_n hx hb dX8_copy_118 rfl (lv_at hl 0 rfl) ?_
  refine lv_aload_n hx hb dX8_copy_119 rfl (lv_at hl 1 rfl) ?_
  obtain ⟨x_301, x_302, x_303, x_304, x_305, x_306, x_307, x_308, x_309, x_310, x_311, x_312, x_313, x_314, x_315, x_316, k_300⟩ := op_8 hI i_p1
  refine k_get (ci := 8) (v := .int x_314) (C := RX8) (T := TX8) (N := 18) hx hb hts (fun _ h0_ => List.mem_cons_of_mem _ (List.mem_append_right _ (List.mem_append_left _ h0_))) hown hK hI i_p1.1 k_300 rfl 15 (by decide) (hts (.fieldLink RX8 84 "DeadlineShare$Task" "budget" "I") (List.mem_cons_of_mem _ (List.mem_append_left _ (List.mem_of_getElem? (i := 22) rfl)))) (fun _ h9 => h9) rfl dX8_copy_120 ?_
  refine k_put (ci := 8) (v := .int x_314) (ty := .int) (C := RX8) (T := TX8) (N := 18) hx hb hts (fun _ h0_ => List.mem_cons_of_mem _ (List.mem_append_right _ (List.mem_append_left _ h0_))) tyX8 tyX8_ok nmX8 hown hK hI hS i_h0.1 k_299 rfl 15 (by decide) (hts (.fieldLink RX8 84 "DeadlineShare$Task" "budget" "I") (List.mem_cons_of_mem _ (List.mem_append_left _ (List.mem_of_getElem? (i := 22) rfl)))) (fun _ h9 => h9) rfl (by decide +kernel) rfl rfl (Nat.le_of_ble_eq_true rfl) rfl (cl_8 i_h0) dX8_copy_123 (fun f_317 H locs e_318 hI hS => ?_)
  have k_320 : f_317 h0 = .inr (8, [.int x_2, .ref (gr g h0 1), .int x_22, .int x_59, .int x_81, .long x_103, .int x_125, .ref (gr g h0 7), .int x_149, .int x_182, .int x_204, .int x_226, .int x_248, .int x_270, .int x_292, .int x_314, .int x_16, .int x_17]) := by rw [e_318]; exact va_up_self _ _ _
  have kp_319 := Kp.put kp_298 i_h0 (by decide) e_318
  refine lv_aload_n hx hb dX8_copy_126 rfl (lv_at hl 0 rfl) ?_
  refine lv_aload_n hx hb dX8_copy_127 rfl (lv_at hl 1 rfl) ?_
  obtain ⟨x_322, x_323, x_324, x_325, x_326, x_327, x_328, x_329, x_330, x_331, x_332, x_333, x_334, x_335, x_336, x_337, k_321⟩ := op_8 hI i_p1
  refine k_get (ci := 8) (v := .int x_336) (C := RX8) (T := TX8) (N := 18) hx hb hts (fun _ h0_ => List.mem_cons_of_mem _ (List.mem_append_right _ (List.mem_append_left _ h0_))) hown hK hI i_p1.1 k_321 rfl 16 (by decide) (hts (.fieldLink RX8 87 "DeadlineShare$Task" "quota" "I") (List.mem_cons_of_mem _ (List.mem_append_left _ (List.mem_of_getElem? (i := 23) rfl)))) (fun _ h9 => h9) rfl dX8_copy_128 ?_
  refine k_put (ci := 8) (v := .int x_336) (ty := .int) (C := RX8) (T := TX8) (N := 18) hx hb hts (fun _ h0_ => List.mem_cons_of_mem _ (List.mem_append_right _ (List.mem_append_left _ h0_))) tyX8 tyX8_ok nmX8 hown hK hI hS i_h0.1 k_320 rfl 16 (by decide) (hts (.fieldLink RX8 87 "DeadlineShare$Task" "quota" "I") (List.mem_cons_of_mem _ (List.mem_append_left _ (List.mem_of_getElem? (i := 23) rfl)))) (fun _ h9 => h9) rfl (by decide +kernel) rfl rfl (Nat.le_of_ble_eq_true rfl) rfl (cl_8 i_h0) dX8_copy_131 (fun f_338 H locs e_339 hI hS => ?_)
  have k_341 : f_338 h0 = .inr (8, [.int x_2, .ref (gr g h0 1), .int x_22, .int x_59, .int x_81, .long x_103, .int x_125, .ref (gr g h0 7), .int x_149, .int x_182, .int x_204, .int x_226, .int x_248, .int x_270, .int x_292, .int x_314, .int x_336, .int x_17]) := by rw [e_339]; exact va_up_self _ _ _
  have kp_340 := Kp.put kp_319 i_h0 (by decide) e_339
  refine lv_aload_n hx hb dX8_copy_134 rfl (lv_at hl 0 rfl) ?_
  refine lv_aload_n hx hb dX8_copy_135 rfl (lv_at hl 1 rfl) ?_
  obtain ⟨x_343, x_344, x_345, x_346, x_347, x_348, x_349, x_350, x_351, x_352, x_353, x_354, x_355, x_356, x_357, x_358, k_342⟩ := op_8 hI i_p1
  refine k_get (ci := 8) (v := .int x_358) (C := RX8) (T := TX8) (N := 18) hx hb hts (fun _ h0_ => List.mem_cons_of_mem _ (List.mem_append_right _ (List.mem_append_left _ h0_))) hown hK hI i_p1.1 k_342 rfl 17 (by decide) (hts (.fieldLink RX8 90 "DeadlineShare$Task" "period" "I") (List.mem_cons_of_mem _ (List.mem_append_left _ (List.mem_of_getElem? (i := 24) rfl)))) (fun _ h9 => h9) rfl dX8_copy_136 ?_
  refine k_put (ci := 8) (v := .int x_358) (ty := .int) (C := RX8) (T := TX8) (N := 18) hx hb hts (fun _ h0_ => List.mem_cons_of_mem _ (List.mem_append_right _ (List.mem_append_left _ h0_))) tyX8 tyX8_ok nmX8 hown hK hI hS i_h0.1 k_341 rfl 17 (by decide) (hts (.fieldLink RX8 90 "DeadlineShare$Task" "period" "I") (List.mem_cons_of_mem _ (List.mem_append_left _ (List.mem_of_getElem? (i := 24) rfl)))) (fun _ h9 => h9) rfl (by decide +kernel) rfl rfl (Nat.le_of_ble_eq_true rfl) rfl (cl_8 i_h0) dX8_copy_139 (fun f_359 H locs e_360 hI hS => ?_)
  have k_362 : f_359 h0 = .inr (8, [.int x_2, .ref (gr g h0 1), .int x_22, .int x_59, .int x_81, .long x_103, .int x_125, .ref (gr g h0 7), .int x_149, .int x_182, .int x_204, .int x_226, .int x_248, .int x_270, .int x_292, .int x_314, .int x_336, .int x_358]) := by rw [e_360]; exact va_up_self _ _ _
  have kp_361 := Kp.put kp_340 i_h0 (by decide) e_360
  exact W.vret hx hb hr (fun t ht hW => ⟨⟨(), rfl, trivial, ⟨f_359, k_ret ht hI, kp_361⟩⟩, hS.F ht⟩) hS.2.2 dX8_copy_142
theorem tu_X2 : ∀ w ∈ u_ws RX2 TX2 1, q_g w := by
  intro w h
  unfold u_ws at h
  obtain ⟨j, hj, rfl⟩ := List.mem_map.mp h
  have hj := List.mem_range.mp hj
  match j, hj with
  | 0, _ => exact ⟨(List.mem_append_right _ (List.mem_of_getElem? (i := 123) (by decide +kernel))), good_of_word (by decide +kernel)⟩
  | (j9 + 1), h9 => exact absurd h9 (by omega)
theorem tw_139 : q_g (.methodLink RX2 15 arraycopyName) := ⟨(List.mem_append_right _ (List.mem_of_getElem? (i := 450) (by decide +kernel))), good_of_word (by decide +kernel)⟩
theorem tw_140 : q_g (.fieldLink RX2 11 "DeadlineShare$Log" "rows" "[J") := ⟨(List.mem_append_right _ (List.mem_of_getElem? (i := 122) (by decide +kernel))), good_of_word (by decide +kernel)⟩
theorem tw_141 : q_g (.code yX2_copy cX2_copy 2 none) := ⟨(List.mem_append_right _ (List.mem_of_getElem? (i := 449) (by decide +kernel))), good_of_word (by decide +kernel)⟩
def ow_c_X2_copy : List Cond := [.fieldLink RX2 11 "DeadlineShare$Log" "rows" "[J", .methodLink RX2 15 arraycopyName, .native arraycopyName, .static arraycopyName, .initialized "java/lang/System"]
def wq_c_X2_copy : List Cond := .code yX2_copy cX2_copy 2 none :: (ow_c_X2_copy ++ (u_ws RX2 TX2 1 ++ ([] : List Cond)))
theorem tb_c_X2_copy : ∀ w ∈ wq_c_X2_copy, q_g w := by
  unfold wq_c_X2_copy ow_c_X2_copy
  exact q_cons tw_141 (q_app (q_cons tw_140 (q_cons tw_139 (q_cons tw_113 (q_cons tw_112 (q_cons tw_111 q_nil))))) (q_app tu_X2 q_nil))
set_option maxHeartbeats 4000000 in
set_option maxRecDepth 100000 in
theorem c_X2_copy (l : Launch) (dC : Nat → ClassId) (dI : Nat → Nat → Nat) (g : kG) (A : Nat → Prop) (hG : kWf g) (f : Nat → va_E) (h0 : Nat) (p1 : Nat) (i_h0 : ik g 2 h0) (i_p1 : ik g 2 p1) : Met l yX2_copy wq_c_X2_copy ({ frames := 1, cells := 0, slots := 0, locals := 40 } : Room) (va_Pc [.ref h0, .ref p1] (fun U => kIn dC dI g A f U)) (va_Qv (fun (_ : Unit) => True) (fun (_ : Unit) t => ∃ f1 : Nat → va_E, Iv dC dI g A f1 t.heap ∧ Kp g [23] f f1) A) 0 0 A := by
  refine Met.ofW (cc := cX2_copy) (maxL := 2) (ret := none) (by decide) rfl ?_
  intro p e s m args below meth c s₁ B hml hv
  obtain ⟨rfl, hI, hK, hE⟩ := hv
  have hx := B.exec
  have hb := B.bytes
  have hr := B.returns
  have hts := atoms_spec (ws := wq_c_X2_copy) B.pre
  have hown : s.vm.findClass RX2 = some m.cls := findClass_of_methodNamed B.named
  have hlocks := B.notSynchronized
  have hS : va_S A s.heap s.heap [] := va_S.rf
  have hk0 : Kp g [23] f f := Kp.rf
  have hl := lv_entry ([.ref h0, .ref p1]) (n := 2) (Nat.le_of_ble_eq_true rfl)
  rw [lg_entry_eq]
  generalize (lg_sl ([.ref h0, .ref p1]) ++ List.replicate (2 - (lg_sl ([.ref h0, .ref p1])).length) Slot.unset).toArray = ls at hl ⊢
  have hl : lv_has ls 2 [(0, .ref h0), (1, .ref p1)] := hl
  refine lv_aload_n hx hb dX2_copy_0 rfl (lv_at hl 1 rfl) ?_
  have k_1 := op_2 hI i_p1
  refine k_get (ci := 2) (v := .ref (gr g p1 0)) (C := RX2) (T := TX2) (N := 1) hx hb hts (fun _ h0_ => List.mem_cons_of_mem _ (List.mem_append_right _ (List.mem_append_left _ h0_))) hown hK hI i_p1.1 k_1 rfl 0 (by decide) (hts (.fieldLink RX2 11 "DeadlineShare$Log" "rows" "[J") (List.mem_cons_of_mem _ (List.mem_append_left _ (List.mem_of_getElem? (i := 0) rfl)))) (fun _ h9 => h9) rfl dX2_copy_1 ?_
  have i_3 := kw_2_0 hG i_p1
  refine lv_iconst (v := 0) hx hb dX2_copy_4 (by decide) ?_
  refine lv_aload_n hx hb dX2_copy_5 rfl (lv_at hl 0 rfl) ?_
  have k_4 := op_2 hI i_h0
  refine k_get (ci := 2) (v := .ref (gr g h0 0)) (C := RX2) (T := TX2) (N := 1) hx hb hts (fun _ h0_ => List.mem_cons_of_mem _ (List.mem_append_right _ (List.mem_append_left _ h0_))) hown hK hI i_h0.1 k_4 rfl 0 (by decide) (hts (.fieldLink RX2 11 "DeadlineShare$Log" "rows" "[J") (List.mem_cons_of_mem _ (List.mem_append_left _ (List.mem_of_getElem? (i := 0) rfl)))) (fun _ h9 => h9) rfl dX2_copy_6 ?_
  have i_6 := kw_2_0 hG i_h0
  refine lv_iconst (v := 0) hx hb dX2_copy_9 (by decide) ?_
  refine lv_sipush (v := 128) hx hb dX2_copy_10 (by decide) ?_
  obtain ⟨q_8, k_7⟩ := op_23 hI i_3
  obtain ⟨q_10, k_9⟩ := op_23 hI i_6
  refine k_copyl hx hb (by rw [hml]; exact hl.1.symm) hown (hts (.methodLink RX2 15 arraycopyName) (List.mem_cons_of_mem _ (List.mem_append_left _ (List.mem_of_getElem? (i := 1) rfl)))) (hts (.native arraycopyName) (List.mem_cons_of_mem _ (List.mem_append_left _ (List.mem_of_getElem? (i := 2) rfl)))) (hts (.static arraycopyName) (List.mem_cons_of_mem _ (List.mem_append_left _ (List.mem_of_getElem? (i := 3) rfl)))) (hts (.initialized "java/lang/System") (List.mem_cons_of_mem _ (List.mem_append_left _ (List.mem_of_getElem? (i := 4) rfl)))) hK hI hS i_3.1 i_6.1 1 k_7 k_9 rfl rfl (by decide) (by decide) (by decide) (by decide) (by decide) (fun _ _ => rfl) (Nat.le_of_ble_eq_true rfl) (Nat.le_of_ble_eq_true rfl) (cl_23 i_6) dX2_copy_13 (fun f_11 H locs e_12 hI hS => ?_)
  generalize eq_13 : va_cpy q_8 q_10 (Int32.toNatClampNeg 0) (Int32.toNatClampNeg 0) (Int32.toNatClampNeg 128) = q_13 at e_12
  have k_15 : f_11 p1 = .inr (2, [.ref (gr g p1 0)]) := by rw [e_12, va_up_ne _ _ (ik_ne i_p1 i_6 (by decide))]; exact k_1
  have k_16 : f_11 h0 = .inr (2, [.ref (gr g h0 0)]) := by rw [e_12, va_up_ne _ _ (ik_ne i_h0 i_6 (by decide))]; exact k_4
  have k_17 : f_11 (gr g h0 0) = .inl (gc g 1, 128, .inr (.inl q_13)) := by rw [e_12]; exact va_up_self _ _ _
  have kp_14 := Kp.put hk0 i_6 (by decide) e_12
  exact W.vret hx hb hr (fun t ht hW => ⟨⟨(), rfl, trivial, ⟨f_11, k_ret ht hI, kp_14⟩⟩, hS.F ht⟩) hS.2.2 dX2_copy_16
