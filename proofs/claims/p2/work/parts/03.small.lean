theorem tu_X8 : ∀ w ∈ u_ws RX8 TX8 18, q_g w := by
  intro w h
  unfold u_ws at h
  obtain ⟨j, hj, rfl⟩ := List.mem_map.mp h
  have hj := List.mem_range.mp hj
  match j, hj with
  | 0, _ => exact ⟨(List.mem_append_right _ (List.mem_of_getElem? (i := 192) (by decide +kernel))), good_of_word (by decide +kernel)⟩
  | 1, _ => exact ⟨(List.mem_append_right _ (List.mem_of_getElem? (i := 194) (by decide +kernel))), good_of_word (by decide +kernel)⟩
  | 2, _ => exact ⟨(List.mem_append_right _ (List.mem_of_getElem? (i := 196) (by decide +kernel))), good_of_word (by decide +kernel)⟩
  | 3, _ => exact ⟨(List.mem_append_right _ (List.mem_of_getElem? (i := 198) (by decide +kernel))), good_of_word (by decide +kernel)⟩
  | 4, _ => exact ⟨(List.mem_append_right _ (List.mem_of_getElem? (i := 200) (by decide +kernel))), good_of_word (by decide +kernel)⟩
  | 5, _ => exact ⟨(List.mem_append_right _ (List.mem_of_getElem? (i := 202) (by decide +kernel))), good_of_word (by decide +kernel)⟩
  | 6, _ => exact ⟨(List.mem_append_right _ (List.mem_of_getElem? (i := 204) (by decide +kernel))), good_of_word (by decide +kernel)⟩
  | 7, _ => exact ⟨(List.mem_append_right _ (List.mem_of_getElem? (i := 206) (by decide +kernel))), good_of_word (by decide +kernel)⟩
  | 8, _ => exact ⟨(List.mem_append_right _ (List.mem_of_getElem? (i := 208) (by decide +kernel))), good_of_word (by decide +kernel)⟩
  | 9, _ => exact ⟨(List.mem_append_right _ (List.mem_of_getElem? (i := 210) (by decide +kernel))), good_of_word (by decide +kernel)⟩
  | 10, _ => exact ⟨(List.mem_append_right _ (List.mem_of_getElem? (i := 212) (by decide +kernel))), good_of_word (by decide +kernel)⟩
  | 11, _ => exact ⟨(List.mem_append_right _ (List.mem_of_getElem? (i := 214) (by decide +kernel))), good_of_word (by decide +kernel)⟩
  | 12, _ => exact ⟨(List.mem_append_right _ (List.mem_of_getElem? (i := 216) (by decide +kernel))), good_of_word (by decide +kernel)⟩
  | 13, _ => exact ⟨(List.mem_append_right _ (List.mem_of_getElem? (i := 218) (by decide +kernel))), good_of_word (by decide +kernel)⟩
  | 14, _ => exact ⟨(List.mem_append_right _ (List.mem_of_getElem? (i := 220) (by decide +kernel))), good_of_word (by decide +kernel)⟩
  | 15, _ => exact ⟨(List.mem_append_right _ (List.mem_of_getElem? (i := 222) (by decide +kernel))), good_of_word (by decide +kernel)⟩
  | 16, _ => exact ⟨(List.mem_append_right _ (List.mem_of_getElem? (i := 224) (by decide +kernel))), good_of_word (by decide +kernel)⟩
  | 17, _ => exact ⟨(List.mem_append_right _ (List.mem_of_getElem? (i := 226) (by decide +kernel))), good_of_word (by decide +kernel)⟩
  | (j9 + 18), h9 => exact absurd h9 (by omega)
theorem tw_0 : q_g (.fieldLink RX8 38 "DeadlineShare$Task" "state" "I") := ⟨(List.mem_append_right _ (List.mem_of_getElem? (i := 160) (by decide +kernel))), good_of_word (by decide +kernel)⟩
theorem tw_1 : q_g (.code yX8_isOn cX8_isOn 1 (some .boolean)) := ⟨(List.mem_append_right _ (List.mem_of_getElem? (i := 553) (by decide +kernel))), good_of_word (by decide +kernel)⟩
def ow_c_X8_isOn : List Cond := [.fieldLink RX8 38 "DeadlineShare$Task" "state" "I"]
def wq_c_X8_isOn : List Cond := .code yX8_isOn cX8_isOn 1 (some .boolean) :: (ow_c_X8_isOn ++ (u_ws RX8 TX8 18 ++ ([] : List Cond)))
theorem tb_c_X8_isOn : ∀ w ∈ wq_c_X8_isOn, q_g w := by
  unfold wq_c_X8_isOn ow_c_X8_isOn
  exact q_cons tw_1 (q_app (q_cons tw_0 q_nil) (q_app tu_X8 q_nil))
set_option maxHeartbeats 4000000 in
set_option maxRecDepth 100000 in
theorem c_X8_isOn (l : Launch) (dC : Nat → ClassId) (dI : Nat → Nat → Nat) (g : kG) (A : Nat → Prop) (hG : kWf g) (f : Nat → va_E) (h0 : Nat) (i_h0 : ik g 8 h0) : Met l yX8_isOn wq_c_X8_isOn ({ frames := 0, cells := 0, slots := 0, locals := 0 } : Room) (va_Pc [.ref h0] (fun U => kIn dC dI g A f U)) (va_Qi (fun (r : Int32) (_ : Unit) => True) (fun (_ : Unit) t => Iv dC dI g A f t.heap) A) 0 0 A := by
  refine Met.ofW (cc := cX8_isOn) (maxL := 1) (ret := (some .boolean)) (by decide) rfl ?_
  intro p e s m args below meth c s₁ B hml hv
  obtain ⟨rfl, hI, hK, hE⟩ := hv
  have hx := B.exec
  have hb := B.bytes
  have hr := B.returns
  have hts := atoms_spec (ws := wq_c_X8_isOn) B.pre
  have hown : s.vm.findClass RX8 = some m.cls := findClass_of_methodNamed B.named
  have hlocks := B.notSynchronized
  have hS : va_S A s.heap s.heap [] := va_S.rf
  have hl := lv_entry ([.ref h0]) (n := 1) (Nat.le_of_ble_eq_true rfl)
  rw [lg_entry_eq]
  generalize (lg_sl ([.ref h0]) ++ List.replicate (1 - (lg_sl ([.ref h0])).length) Slot.unset).toArray = ls at hl ⊢
  have hl : lv_has ls 1 [(0, .ref h0)] := hl
  refine lv_aload_n hx hb dX8_isOn_0 rfl (lv_at hl 0 rfl) ?_
  obtain ⟨x_2, x_3, x_4, x_5, x_6, x_7, x_8, x_9, x_10, x_11, x_12, x_13, x_14, x_15, x_16, x_17, k_1⟩ := op_8 hI i_h0
  refine k_get (ci := 8) (v := .int x_5) (C := RX8) (T := TX8) (N := 18) hx hb hts (fun _ h0_ => List.mem_cons_of_mem _ (List.mem_append_right _ (List.mem_append_left _ h0_))) hown hK hI i_h0.1 k_1 rfl 4 (by decide) (hts (.fieldLink RX8 38 "DeadlineShare$Task" "state" "I") (List.mem_cons_of_mem _ (List.mem_append_left _ (List.mem_of_getElem? (i := 0) rfl)))) (fun _ h9 => h9) rfl dX8_isOn_1 ?_
  refine lv_iconst (v := 1) hx hb dX8_isOn_4 (by decide) ?_
  refine lv_icmp_ne (tgt := 12) hx hb dX8_isOn_5 (by decide) (fun c_18 => ?_) (fun c_18 => ?_)
  · have c_18 := kn_eq rfl (by decide : Int32.toInt 1 = 1) c_18
    refine lv_iconst (v := 0) hx hb dX8_isOn_12 (by decide) ?_
    exact W.zret (v := 0) hx hb hr rfl (fun t ht hW => ⟨⟨0, (), rfl, trivial, by rw [ht]; exact hI⟩, hS.F ht⟩) hS.2.2 dX8_isOn_13
  · have c_18 := kc_eq rfl (by decide : Int32.toInt 1 = 1) c_18
    refine lv_iconst (v := 1) hx hb dX8_isOn_8 (by decide) ?_
    refine lv_goto (tgt := 13) hx hb dX8_isOn_9 (by decide) ?_
    exact W.zret (v := 1) hx hb hr rfl (fun t ht hW => ⟨⟨1, (), rfl, trivial, by rw [ht]; exact hI⟩, hS.F ht⟩) hS.2.2 dX8_isOn_13
theorem tu_X10 : ∀ w ∈ u_ws RX10 TX10 2, q_g w := by
  intro w h
  unfold u_ws at h
  obtain ⟨j, hj, rfl⟩ := List.mem_map.mp h
  have hj := List.mem_range.mp hj
  match j, hj with
  | 0, _ => exact ⟨(List.mem_append_right _ (List.mem_of_getElem? (i := 135) (by decide +kernel))), good_of_word (by decide +kernel)⟩
  | 1, _ => exact ⟨(List.mem_append_right _ (List.mem_of_getElem? (i := 137) (by decide +kernel))), good_of_word (by decide +kernel)⟩
  | (j9 + 2), h9 => exact absurd h9 (by omega)
theorem tw_2 : q_g (.fieldLink RX10 15 "DeadlineShare$Wide" "low" "J") := ⟨(List.mem_append_right _ (List.mem_of_getElem? (i := 134) (by decide +kernel))), good_of_word (by decide +kernel)⟩
theorem tw_3 : q_g (.constantLong RX10 13 (4294967295)) := ⟨(List.mem_append_right _ (List.mem_of_getElem? (i := 470) (by decide +kernel))), good_of_word (by decide +kernel)⟩
theorem tw_4 : q_g (.fieldLink RX10 9 "DeadlineShare$Wide" "high" "J") := ⟨(List.mem_append_right _ (List.mem_of_getElem? (i := 133) (by decide +kernel))), good_of_word (by decide +kernel)⟩
theorem tw_5 : q_g (.code yX10_set cX10_set 3 none) := ⟨(List.mem_append_right _ (List.mem_of_getElem? (i := 469) (by decide +kernel))), good_of_word (by decide +kernel)⟩
def ow_c_X10_set : List Cond := [.fieldLink RX10 9 "DeadlineShare$Wide" "high" "J", .constantLong RX10 13 (4294967295), .fieldLink RX10 15 "DeadlineShare$Wide" "low" "J"]
def wq_c_X10_set : List Cond := .code yX10_set cX10_set 3 none :: (ow_c_X10_set ++ (u_ws RX10 TX10 2 ++ ([] : List Cond)))
theorem tb_c_X10_set : ∀ w ∈ wq_c_X10_set, q_g w := by
  unfold wq_c_X10_set ow_c_X10_set
  exact q_cons tw_5 (q_app (q_cons tw_4 (q_cons tw_3 (q_cons tw_2 q_nil))) (q_app tu_X10 q_nil))
set_option maxHeartbeats 4000000 in
set_option maxRecDepth 100000 in
theorem c_X10_set (l : Launch) (dC : Nat → ClassId) (dI : Nat → Nat → Nat) (g : kG) (A : Nat → Prop) (hG : kWf g) (f : Nat → va_E) (h0 : Nat) (p1 : Int64) (i_h0 : ik g 10 h0) : Met l yX10_set wq_c_X10_set ({ frames := 0, cells := 0, slots := 0, locals := 0 } : Room) (va_Pc [.ref h0, .long p1] (fun U => kIn dC dI g A f U)) (va_Qv (fun (_ : Unit) => True) (fun (_ : Unit) t => ∃ f1 : Nat → va_E, Iv dC dI g A f1 t.heap ∧ Kp g [10] f f1) A) 0 0 A := by
  refine Met.ofW (cc := cX10_set) (maxL := 3) (ret := none) (by decide) rfl ?_
  intro p e s m args below meth c s₁ B hml hv
  obtain ⟨rfl, hI, hK, hE⟩ := hv
  have hx := B.exec
  have hb := B.bytes
  have hr := B.returns
  have hts := atoms_spec (ws := wq_c_X10_set) B.pre
  have hown : s.vm.findClass RX10 = some m.cls := findClass_of_methodNamed B.named
  have hlocks := B.notSynchronized
  have hS : va_S A s.heap s.heap [] := va_S.rf
  have hk0 : Kp g [10] f f := Kp.rf
  have hl := lv_entry ([.ref h0, .long p1]) (n := 3) (Nat.le_of_ble_eq_true rfl)
  rw [lg_entry_eq]
  generalize (lg_sl ([.ref h0, .long p1]) ++ List.replicate (3 - (lg_sl ([.ref h0, .long p1])).length) Slot.unset).toArray = ls at hl ⊢
  have hl : lv_has ls 3 [(0, .ref h0), (1, .long p1)] := hl
  refine lv_aload_n hx hb dX10_set_0 rfl (lv_at hl 0 rfl) ?_
  refine lv_lload_n hx hb dX10_set_1 rfl (lv_at hl 1 rfl) ?_
  refine lv_bipush (v := 32) hx hb dX10_set_2 (by decide) ?_
  refine lv_lshr hx hb dX10_set_4 rfl ?_
  refine lv_topl (fun v_1 ev_1 => ?_)
  obtain ⟨x_3, x_4, k_2⟩ := op_10 hI i_h0
  refine k_put (ci := 10) (v := .long v_1) (ty := .long) (C := RX10) (T := TX10) (N := 2) hx hb hts (fun _ h0_ => List.mem_cons_of_mem _ (List.mem_append_right _ (List.mem_append_left _ h0_))) tyX10 tyX10_ok nmX10 hown hK hI hS i_h0.1 k_2 rfl 0 (by decide) (hts (.fieldLink RX10 9 "DeadlineShare$Wide" "high" "J") (List.mem_cons_of_mem _ (List.mem_append_left _ (List.mem_of_getElem? (i := 0) rfl)))) (fun _ h9 => h9) rfl (by decide +kernel) rfl rfl (Nat.le_of_ble_eq_true rfl) rfl (cl_10 i_h0) dX10_set_5 (fun f_5 H locs e_6 hI hS => ?_)
  have k_8 : f_5 h0 = .inr (10, [.long v_1, .long x_4]) := by rw [e_6]; exact va_up_self _ _ _
  have kp_7 := Kp.put hk0 i_h0 (by decide) e_6
  refine lv_aload_n hx hb dX10_set_8 rfl (lv_at hl 0 rfl) ?_
  refine lv_lload_n hx hb dX10_set_9 rfl (lv_at hl 1 rfl) ?_
  refine lv_ldc2 hx hb hown (hts (.constantLong RX10 13 (4294967295)) (List.mem_cons_of_mem _ (List.mem_append_left _ (List.mem_of_getElem? (i := 1) rfl)))) dX10_set_10 ?_
  refine lv_land hx hb dX10_set_13 ?_
  refine lv_topl (fun v_9 ev_9 => ?_)
  refine k_put (ci := 10) (v := .long v_9) (ty := .long) (C := RX10) (T := TX10) (N := 2) hx hb hts (fun _ h0_ => List.mem_cons_of_mem _ (List.mem_append_right _ (List.mem_append_left _ h0_))) tyX10 tyX10_ok nmX10 hown hK hI hS i_h0.1 k_8 rfl 1 (by decide) (hts (.fieldLink RX10 15 "DeadlineShare$Wide" "low" "J") (List.mem_cons_of_mem _ (List.mem_append_left _ (List.mem_of_getElem? (i := 2) rfl)))) (fun _ h9 => h9) rfl (by decide +kernel) rfl rfl (Nat.le_of_ble_eq_true rfl) rfl (cl_10 i_h0) dX10_set_14 (fun f_10 H locs e_11 hI hS => ?_)
  have k_13 : f_10 h0 = .inr (10, [.long v_1, .long v_9]) := by rw [e_11]; exact va_up_self _ _ _
  have kp_12 := Kp.put kp_7 i_h0 (by decide) e_11
  exact W.vret hx hb hr (fun t ht hW => ⟨⟨(), rfl, trivial, ⟨f_10, by rw [ht]; exact hI, kp_12⟩⟩, hS.F ht⟩) hS.2.2 dX10_set_17
theorem tw_6 : q_g (.code yX10_addTimes cX10_addTimes 7 none) := ⟨(List.mem_append_right _ (List.mem_of_getElem? (i := 507) (by decide +kernel))), good_of_word (by decide +kernel)⟩
def ow_c_X10_addTimes : List Cond := [.fieldLink RX10 15 "DeadlineShare$Wide" "low" "J", .constantLong RX10 13 (4294967295), .fieldLink RX10 9 "DeadlineShare$Wide" "high" "J"]
def wq_c_X10_addTimes : List Cond := .code yX10_addTimes cX10_addTimes 7 none :: (ow_c_X10_addTimes ++ (u_ws RX10 TX10 2 ++ ([] : List Cond)))
theorem tb_c_X10_addTimes : ∀ w ∈ wq_c_X10_addTimes, q_g w := by
  unfold wq_c_X10_addTimes ow_c_X10_addTimes
  exact q_cons tw_6 (q_app (q_cons tw_2 (q_cons tw_3 (q_cons tw_4 q_nil))) (q_app tu_X10 q_nil))
set_option maxHeartbeats 4000000 in
set_option maxRecDepth 100000 in
theorem c_X10_addTimes (l : Launch) (dC : Nat → ClassId) (dI : Nat → Nat → Nat) (g : kG) (A : Nat → Prop) (hG : kWf g) (f : Nat → va_E) (h0 : Nat) (p1 : Int64) (p2 : Int64) (i_h0 : ik g 10 h0) : Met l yX10_addTimes wq_c_X10_addTimes ({ frames := 0, cells := 0, slots := 0, locals := 0 } : Room) (va_Pc [.ref h0, .long p1, .long p2] (fun U => kIn dC dI g A f U)) (va_Qv (fun (_ : Unit) => True) (fun (_ : Unit) t => ∃ f1 : Nat → va_E, Iv dC dI g A f1 t.heap ∧ Kp g [10] f f1) A) 0 0 A := by
  refine Met.ofW (cc := cX10_addTimes) (maxL := 7) (ret := none) (by decide) rfl ?_
  intro p e s m args below meth c s₁ B hml hv
  obtain ⟨rfl, hI, hK, hE⟩ := hv
  have hx := B.exec
  have hb := B.bytes
  have hr := B.returns
  have hts := atoms_spec (ws := wq_c_X10_addTimes) B.pre
  have hown : s.vm.findClass RX10 = some m.cls := findClass_of_methodNamed B.named
  have hlocks := B.notSynchronized
  have hS : va_S A s.heap s.heap [] := va_S.rf
  have hk0 : Kp g [10] f f := Kp.rf
  have hl := lv_entry ([.ref h0, .long p1, .long p2]) (n := 7) (Nat.le_of_ble_eq_true rfl)
  rw [lg_entry_eq]
  generalize (lg_sl ([.ref h0, .long p1, .long p2]) ++ List.replicate (7 - (lg_sl ([.ref h0, .long p1, .long p2])).length) Slot.unset).toArray = ls at hl ⊢
  have hl : lv_has ls 7 [(0, .ref h0), (1, .long p1), (3, .long p2)] := hl
  refine lv_aload_n hx hb dX10_addTimes_0 rfl (lv_at hl 0 rfl) ?_
  obtain ⟨x_2, x_3, k_1⟩ := op_10 hI i_h0
  refine k_get (ci := 10) (v := .long x_3) (C := RX10) (T := TX10) (N := 2) hx hb hts (fun _ h0_ => List.mem_cons_of_mem _ (List.mem_append_right _ (List.mem_append_left _ h0_))) hown hK hI i_h0.1 k_1 rfl 1 (by decide) (hts (.fieldLink RX10 15 "DeadlineShare$Wide" "low" "J") (List.mem_cons_of_mem _ (List.mem_append_left _ (List.mem_of_getElem? (i := 0) rfl)))) (fun _ h9 => h9) rfl dX10_addTimes_1 ?_
  refine lv_lload_n hx hb dX10_addTimes_4 rfl (lv_at hl 1 rfl) ?_
  refine lv_lload_n hx hb dX10_addTimes_5 rfl (lv_at hl 2 rfl) ?_
  refine lv_ldc2 hx hb hown (hts (.constantLong RX10 13 (4294967295)) (List.mem_cons_of_mem _ (List.mem_append_left _ (List.mem_of_getElem? (i := 1) rfl)))) dX10_addTimes_6 ?_
  refine lv_land hx hb dX10_addTimes_9 ?_
  refine lv_topl (fun v_4 ev_4 => ?_)
  refine lv_lmul hx hb dX10_addTimes_10 ?_
  refine lv_topl (fun v_5 ev_5 => ?_)
  refine lv_ladd hx hb dX10_addTimes_11 ?_
  refine lv_topl (fun v_6 ev_6 => ?_)
  refine lv_lstore (lv' := [(5, .long v_6), (0, .ref h0), (1, .long p1), (3, .long p2)]) hx hb dX10_addTimes_12 hl (by decide) rfl (fun ls hl => ?_)
  refine lv_aload_n hx hb dX10_addTimes_14 rfl (lv_at hl 1 rfl) ?_
  refine lv_dup hx hb dX10_addTimes_15 rfl ?_
  refine k_get (ci := 10) (v := .long x_2) (C := RX10) (T := TX10) (N := 2) hx hb hts (fun _ h0_ => List.mem_cons_of_mem _ (List.mem_append_right _ (List.mem_append_left _ h0_))) hown hK hI i_h0.1 k_1 rfl 0 (by decide) (hts (.fieldLink RX10 9 "DeadlineShare$Wide" "high" "J") (List.mem_cons_of_mem _ (List.mem_append_left _ (List.mem_of_getElem? (i := 2) rfl)))) (fun _ h9 => h9) rfl dX10_addTimes_16 ?_
  refine lv_lload_n hx hb dX10_addTimes_19 rfl (lv_at hl 2 rfl) ?_
  refine lv_lload_n hx hb dX10_addTimes_20 rfl (lv_at hl 3 rfl) ?_
  refine lv_bipush (v := 32) hx hb dX10_addTimes_21 (by decide) ?_
  refine lv_lshr hx hb dX10_addTimes_23 rfl ?_
  refine lv_topl (fun v_7 ev_7 => ?_)
  refine lv_lmul hx hb dX10_addTimes_24 ?_
  refine lv_topl (fun v_8 ev_8 => ?_)
  refine lv_lload hx hb dX10_addTimes_25 (lv_at hl 0 rfl) ?_
  refine lv_bipush (v := 32) hx hb dX10_addTimes_27 (by decide) ?_
  refine lv_lshr hx hb dX10_addTimes_29 rfl ?_
  refine lv_topl (fun v_9 ev_9 => ?_)
  refine lv_ladd hx hb dX10_addTimes_30 ?_
  refine lv_topl (fun v_10 ev_10 => ?_)
  refine lv_ladd hx hb dX10_addTimes_31 ?_
  refine lv_topl (fun v_11 ev_11 => ?_)
  refine k_put (ci := 10) (v := .long v_11) (ty := .long) (C := RX10) (T := TX10) (N := 2) hx hb hts (fun _ h0_ => List.mem_cons_of_mem _ (List.mem_append_right _ (List.mem_append_left _ h0_))) tyX10 tyX10_ok nmX10 hown hK hI hS i_h0.1 k_1 rfl 0 (by decide) (hts (.fieldLink RX10 9 "DeadlineShare$Wide" "high" "J") (List.mem_cons_of_mem _ (List.mem_append_left _ (List.mem_of_getElem? (i := 2) rfl)))) (fun _ h9 => h9) rfl (by decide +kernel) rfl rfl (Nat.le_of_ble_eq_true rfl) rfl (cl_10 i_h0) dX10_addTimes_32 (fun f_12 H locs e_13 hI hS => ?_)
  have k_15 : f_12 h0 = .inr (10, [.long v_11, .long x_3]) := by rw [e_13]; exact va_up_self _ _ _
  have kp_14 := Kp.put hk0 i_h0 (by decide) e_13
  refine lv_aload_n hx hb dX10_addTimes_35 rfl (lv_at hl 1 rfl) ?_
  refine lv_lload hx hb dX10_addTimes_36 (lv_at hl 0 rfl) ?_
  refine lv_ldc2 hx hb hown (hts (.constantLong RX10 13 (4294967295)) (List.mem_cons_of_mem _ (List.mem_append_left _ (List.mem_of_getElem? (i := 1) rfl)))) dX10_addTimes_38 ?_
  refine lv_land hx hb dX10_addTimes_41 ?_
  refine lv_topl (fun v_16 ev_16 => ?_)
  refine k_put (ci := 10) (v := .long v_16) (ty := .long) (C := RX10) (T := TX10) (N := 2) hx hb hts (fun _ h0_ => List.mem_cons_of_mem _ (List.mem_append_right _ (List.mem_append_left _ h0_))) tyX10 tyX10_ok nmX10 hown hK hI hS i_h0.1 k_15 rfl 1 (by decide) (hts (.fieldLink RX10 15 "DeadlineShare$Wide" "low" "J") (List.mem_cons_of_mem _ (List.mem_append_left _ (List.mem_of_getElem? (i := 0) rfl)))) (fun _ h9 => h9) rfl (by decide +kernel) rfl rfl (Nat.le_of_ble_eq_true rfl) rfl (cl_10 i_h0) dX10_addTimes_42 (fun f_17 H locs e_18 hI hS => ?_)
  have k_20 : f_17 h0 = .inr (10, [.long v_11, .long v_16]) := by rw [e_18]; exact va_up_self _ _ _
  have kp_19 := Kp.put kp_14 i_h0 (by decide) e_18
  exact W.vret hx hb hr (fun t ht hW => ⟨⟨(), rfl, trivial, ⟨f_17, by rw [ht]; exact hI, kp_19⟩⟩, hS.F ht⟩) hS.2.2 dX10_addTimes_45
theorem tu_X6 : ∀ w ∈ u_ws RX6 TX6 10, q_g w := by
  intro w h
  unfold u_ws at h
  obtain ⟨j, hj, rfl⟩ := List.mem_map.mp h
  have hj := List.mem_range.mp hj
  match j, hj with
  | 0, _ => exact ⟨(List.mem_append_right _ (List.mem_of_getElem? (i := 245) (by decide +kernel))), good_of_word (by decide +kernel)⟩
  | 1, _ => exact ⟨(List.mem_append_right _ (List.mem_of_getElem? (i := 247) (by decide +kernel))), good_of_word (by decide +kernel)⟩
  | 2, _ => exact ⟨(List.mem_append_right _ (List.mem_of_getElem? (i := 249) (by decide +kernel))), good_of_word (by decide +kernel)⟩
  | 3, _ => exact ⟨(List.mem_append_right _ (List.mem_of_getElem? (i := 251) (by decide +kernel))), good_of_word (by decide +kernel)⟩
  | 4, _ => exact ⟨(List.mem_append_right _ (List.mem_of_getElem? (i := 253) (by decide +kernel))), good_of_word (by decide +kernel)⟩
  | 5, _ => exact ⟨(List.mem_append_right _ (List.mem_of_getElem? (i := 255) (by decide +kernel))), good_of_word (by decide +kernel)⟩
  | 6, _ => exact ⟨(List.mem_append_right _ (List.mem_of_getElem? (i := 257) (by decide +kernel))), good_of_word (by decide +kernel)⟩
  | 7, _ => exact ⟨(List.mem_append_right _ (List.mem_of_getElem? (i := 259) (by decide +kernel))), good_of_word (by decide +kernel)⟩
  | 8, _ => exact ⟨(List.mem_append_right _ (List.mem_of_getElem? (i := 261) (by decide +kernel))), good_of_word (by decide +kernel)⟩
  | 9, _ => exact ⟨(List.mem_append_right _ (List.mem_of_getElem? (i := 263) (by decide +kernel))), good_of_word (by decide +kernel)⟩
  | (j9 + 10), h9 => exact absurd h9 (by omega)
theorem tw_7 : q_g (.selects RX10 yX10_addTimes yX10_addTimes) := ⟨(List.mem_append_right _ (List.mem_of_getElem? (i := 506) (by decide +kernel))), good_of_word (by decide +kernel)⟩
theorem tw_8 : q_g (.instanceMethod yX10_addTimes) := ⟨(List.mem_append_right _ (List.mem_of_getElem? (i := 505) (by decide +kernel))), good_of_word (by decide +kernel)⟩
theorem tw_9 : q_g (.methodLink RX6 82 yX10_addTimes) := ⟨(List.mem_append_right _ (List.mem_of_getElem? (i := 504) (by decide +kernel))), good_of_word (by decide +kernel)⟩
theorem tw_10 : q_g (.fieldLink RX6 79 "DeadlineShare$Task" "v" "J") := ⟨(List.mem_append_right _ (List.mem_of_getElem? (i := 164) (by decide +kernel))), good_of_word (by decide +kernel)⟩
theorem tw_11 : q_g (.fieldLink RX6 72 "DeadlineShare$Task" "weight" "I") := ⟨(List.mem_append_right _ (List.mem_of_getElem? (i := 155) (by decide +kernel))), good_of_word (by decide +kernel)⟩
theorem tw_12 : q_g (.fieldLink RX6 69 "DeadlineShare$Task" "state" "I") := ⟨(List.mem_append_right _ (List.mem_of_getElem? (i := 161) (by decide +kernel))), good_of_word (by decide +kernel)⟩
theorem tw_13 : q_g (.fieldLink RX6 11 "DeadlineShare$State" "tasks" "[LDeadlineShare$Task;") := ⟨(List.mem_append_right _ (List.mem_of_getElem? (i := 230) (by decide +kernel))), good_of_word (by decide +kernel)⟩
theorem tw_14 : q_g (.fieldLink RX6 61 "DeadlineShare$State" "rest" "J") := ⟨(List.mem_append_right _ (List.mem_of_getElem? (i := 240) (by decide +kernel))), good_of_word (by decide +kernel)⟩
theorem tw_15 : q_g (.fieldLink RX6 48 "DeadlineShare$State" "count" "I") := ⟨(List.mem_append_right _ (List.mem_of_getElem? (i := 236) (by decide +kernel))), good_of_word (by decide +kernel)⟩
theorem tw_16 : q_g (.initialized RX10) := ⟨(List.mem_append_right _ (List.mem_of_getElem? (i := 8) (by decide +kernel))), good_of_word (by decide +kernel)⟩
theorem tw_17 : q_g (.selects RX10 yX10_set yX10_set) := ⟨(List.mem_append_right _ (List.mem_of_getElem? (i := 468) (by decide +kernel))), good_of_word (by decide +kernel)⟩
theorem tw_18 : q_g (.instanceMethod yX10_set) := ⟨(List.mem_append_right _ (List.mem_of_getElem? (i := 467) (by decide +kernel))), good_of_word (by decide +kernel)⟩
theorem tw_19 : q_g (.methodLink RX6 75 yX10_set) := ⟨(List.mem_append_right _ (List.mem_of_getElem? (i := 503) (by decide +kernel))), good_of_word (by decide +kernel)⟩
theorem tw_20 : q_g (.fieldLink RX6 27 "DeadlineShare$State" "sum" "LDeadlineShare$Wide;") := ⟨(List.mem_append_right _ (List.mem_of_getElem? (i := 234) (by decide +kernel))), good_of_word (by decide +kernel)⟩
theorem tw_21 : q_g (.code yX6_sumUp cX6_sumUp 3 (some .int)) := ⟨(List.mem_append_right _ (List.mem_of_getElem? (i := 502) (by decide +kernel))), good_of_word (by decide +kernel)⟩
def ow_c_X6_sumUp : List Cond := [.fieldLink RX6 27 "DeadlineShare$State" "sum" "LDeadlineShare$Wide;", .methodLink RX6 75 yX10_set, .instanceMethod yX10_set, .selects RX10 yX10_set yX10_set, .initialized RX10, .fieldLink RX6 48 "DeadlineShare$State" "count" "I", .fieldLink RX6 61 "DeadlineShare$State" "rest" "J", .fieldLink RX6 11 "DeadlineShare$State" "tasks" "[LDeadlineShare$Task;", .fieldLink RX6 69 "DeadlineShare$Task" "state" "I", .fieldLink RX6 72 "DeadlineShare$Task" "weight" "I", .fieldLink RX6 79 "DeadlineShare$Task" "v" "J", .methodLink RX6 82 yX10_addTimes, .instanceMethod yX10_addTimes, .selects RX10 yX10_addTimes yX10_addTimes]
def wq_c_X6_sumUp : List Cond := .code yX6_sumUp cX6_sumUp 3 (some .int) :: (ow_c_X6_sumUp ++ (u_ws RX6 TX6 10 ++ (wq_c_X10_set ++ (u_ws RX8 TX8 18 ++ (wq_c_X10_addTimes ++ ([] : List Cond))))))
theorem tb_c_X6_sumUp : ∀ w ∈ wq_c_X6_sumUp, q_g w := by
  unfold wq_c_X6_sumUp ow_c_X6_sumUp
  exact q_cons tw_21 (q_app (q_cons tw_20 (q_cons tw_19 (q_cons tw_18 (q_cons tw_17 (q_cons tw_16 (q_cons tw_15 (q_cons tw_14 (q_cons tw_13 (q_cons tw_12 (q_cons tw_11 (q_cons tw_10 (q_cons tw_9 (q_cons tw_8 (q_cons tw_7 q_nil)))))))))))))) (q_app tu_X6 (q_app tb_c_X10_set (q_app tu_X8 (q_app tb_c_X10_addTimes q_nil)))))
set_option maxHeartbeats 4000000 in
set_option maxRecDepth 100000 in
theorem c_X6_sumUp (l : Launch) (dC : Nat → ClassId) (dI : Nat → Nat → Nat) (g : kG) (A : Nat → Prop) (hG : kWf g) (f : Nat → va_E) (h0 : Nat) (i_h0 : ik g 6 h0) : Met l yX6_sumUp wq_c_X6_sumUp ({ frames := 1, cells := 0, slots := 0, locals := 26 } : Room) (va_Pc [.ref h0] (fun U => kIn dC dI g A f U)) (va_Qi (fun (r : Int32) (_ : Unit) => True) (fun (_ : Unit) t => ∃ f1 : Nat → va_E, Iv dC dI g A f1 t.heap ∧ Kp g [10] f f1) A) 0 0 A := by
  refine Met.ofW (cc := cX6_sumUp) (maxL := 3) (ret := (some .int)) (by decide) rfl ?_
  intro p e s m args below meth c s₁ B hml hv
  obtain ⟨rfl, hI, hK, hE⟩ := hv
  have hx := B.exec
  have hb := B.bytes
  have hr := B.returns
  have hts := atoms_spec (ws := wq_c_X6_sumUp) B.pre
  have hown : s.vm.findClass RX6 = some m.cls := findClass_of_methodNamed B.named
  have hlocks := B.notSynchronized
  have hS : va_S A s.heap s.heap [] := va_S.rf
  have hk0 : Kp g [10] f f := Kp.rf
  have hl := lv_entry ([.ref h0]) (n := 3) (Nat.le_of_ble_eq_true rfl)
  rw [lg_entry_eq]
  generalize (lg_sl ([.ref h0]) ++ List.replicate (3 - (lg_sl ([.ref h0])).length) Slot.unset).toArray = ls at hl ⊢
  have hl : lv_has ls 3 [(0, .ref h0)] := hl
  refine lv_iconst (v := 0) hx hb dX6_sumUp_0 (by decide) ?_
  refine lv_istore_n (lv' := [(1, .int 0), (0, .ref h0)]) hx hb dX6_sumUp_1 rfl hl (by decide) rfl (fun ls hl => ?_)
  refine lv_aload_n hx hb dX6_sumUp_2 rfl (lv_at hl 1 rfl) ?_
  obtain ⟨x_2, x_3, x_4, x_5, x_6, k_1, b_7, b_8⟩ := op_6 hI i_h0
  refine k_get (ci := 6) (v := .ref (gr g h0 3)) (C := RX6) (T := TX6) (N := 10) hx hb hts (fun _ h0_ => List.mem_cons_of_mem _ (List.mem_append_right _ (List.mem_append_left _ h0_))) hown hK hI i_h0.1 k_1 rfl 3 (by decide) (hts (.fieldLink RX6 27 "DeadlineShare$State" "sum" "LDeadlineShare$Wide;") (List.mem_cons_of_mem _ (List.mem_append_left _ (List.mem_of_getElem? (i := 0) rfl)))) (fun _ h9 => h9) rfl dX6_sumUp_3 ?_
  have i_10 := kw_6_3 hG i_h0
  refine lv_lconst (v := 0) hx hb dX6_sumUp_6 (by decide) ?_
  obtain ⟨x_12, x_13, k_11⟩ := op_10 hI i_10
  refine va_callv (va_runV (As := [.long 0]) (rest := []) ⟨hx, hb, hml, hown, hts⟩ (c_X10_set l dC dI g A hG f (gr g h0 3) 0 i_10) (cwV 1 hts (gi_V (fun w_ h0_ => ⟨List.mem_cons_of_mem _ (List.mem_append_right _ (List.mem_append_right _ (List.mem_append_left _ h0_))), (tb_c_X10_set w_ h0_).2⟩) (List.mem_cons_of_mem _ (List.mem_append_left _ (List.mem_of_getElem? (i := 1) rfl))) (List.mem_cons_of_mem _ (List.mem_append_left _ (List.mem_of_getElem? (i := 2) rfl))) (List.mem_cons_of_mem _ (List.mem_append_left _ (List.mem_of_getElem? (i := 3) rfl))) (List.mem_cons_of_mem _ (List.mem_append_left _ (List.mem_of_getElem? (i := 4) rfl)))) rfl rfl rfl (by decide +kernel) ⟨Nat.le_of_ble_eq_true rfl, Nat.le_of_ble_eq_true rfl⟩) ⟨fun a U g mk q => ⟨q.1, q.2.calling rfl rfl⟩, k_recv hK hI i_10.1 k_11 (ci := 10) rfl, fun U hU hW => ⟨rfl, kIn.of hI hK hE hS hU hW⟩⟩ rfl rfl hl.1 rfl (lv_room (Nat.le_of_ble_eq_true rfl)) dX6_sumUp_7 ⟨Nat.le_of_ble_eq_true rfl, Nat.le_of_ble_eq_true rfl⟩) hS (fun q _ h => h) (fun q h => h) (fun u t H1 locs ht hvm _ hB hz1 hk1 hS => ?_)
  obtain ⟨f_14, hI, kc_16⟩ := hB
  rw [ht] at hI
  have k_18 : f_14 h0 = .inr (6, [.ref (gr g h0 0), .ref (gr g h0 1), .ref (gr g h0 2), .ref (gr g h0 3), .ref (gr g h0 4), .int x_2, .int x_3, .long x_4, .int x_5, .int x_6]) := Kp.at kc_16 i_h0 (by decide) k_1
  have kp_19 := Kp.call hk0 kc_16 (by decide)
  generalize H1 = H at hI hS ⊢
  refine W.widen (k := 0) (n := 0) (Nat.le_of_ble_eq_true rfl) (Nat.le_of_ble_eq_true rfl) ?_
  refine lv_iconst (v := 0) hx hb dX6_sumUp_10 (by decide) ?_
  refine lv_istore_n (lv' := [(2, .int 0), (1, .int 0), (0, .ref h0)]) hx hb dX6_sumUp_11 rfl hl (by decide) rfl (fun ls hl => ?_)
  have K_12 : ∀ (nn : Nat) (y_20 : Int32) (y_21 : Int32) (f_22 : Nat → va_E) (H : Heap) (locs : List Loc) (ls : Array Slot), (12 - y_20.toInt).toNat < nn → Iv dC dI g A f_22 H → va_S A s.heap H locs → f_22 h0 = .inr (6, [.ref (gr g h0 0), .ref (gr g h0 1), .ref (gr g h0 2), .ref (gr g h0 3), .ref (gr g h0 4), .int x_2, .int x_3, .long x_4, .int x_5, .int x_6]) → Kp g [10] f f_22 → 0 ≤ y_20.toInt → lv_has ls 3 [(2, .int y_20), (1, .int y_21), (0, .ref h0)] → W p l e (headSpec wq_c_X6_sumUp ({ frames := 1, cells := 0, slots := 0, locals := 26 } : Room)).room s m ([.ref h0].toArray) below meth c H locs 0 0 (MQ below (va_Qi (fun (r : Int32) (_ : Unit) => True) (fun (_ : Unit) t => ∃ f1 : Nat → va_E, Iv dC dI g A f1 t.heap ∧ Kp g [10] f f1) A) ([.ref h0].toArray) s 0 0 A) (F0 m 12 ls []) := by
    intro nn
    induction nn with
    | zero => intro y_20 y_21 f_22 H locs ls m_26; exact absurd m_26 (Nat.not_lt_zero _)
    | succ nn ih =>
      intro y_20 y_21 f_22 H locs ls m_26 hI hS k_23 kp_24 t_25 hl
      refine lv_iload_n hx hb dX6_sumUp_12 rfl (lv_at hl 0 rfl) ?_
      refine lv_aload_n hx hb dX6_sumUp_13 rfl (lv_at hl 2 rfl) ?_
      refine k_get (ci := 6) (v := .int x_2) (C := RX6) (T := TX6) (N := 10) hx hb hts (fun _ h0_ => List.mem_cons_of_mem _ (List.mem_append_right _ (List.mem_append_left _ h0_))) hown hK hI i_h0.1 k_23 rfl 5 (by decide) (hts (.fieldLink RX6 48 "DeadlineShare$State" "count" "I") (List.mem_cons_of_mem _ (List.mem_append_left _ (List.mem_of_getElem? (i := 5) rfl)))) (fun _ h9 => h9) rfl dX6_sumUp_14 ?_
      refine lv_icmp_ge (tgt := 77) hx hb dX6_sumUp_17 (by decide) (fun c_27 => ?_) (fun c_27 => ?_)
      · have c_27 := kc_le rfl rfl c_27
        refine lv_iload_n hx hb dX6_sumUp_77 rfl (lv_at hl 1 rfl) ?_
        refine lv_if_le (tgt := 83) hx hb dX6_sumUp_78 (by decide) (fun c_28 => ?_) (fun c_28 => ?_)
        · have c_28 := kc_le rfl (by decide : Int32.toInt 0 = 0) c_28
          refine lv_aload_n hx hb dX6_sumUp_83 rfl (lv_at hl 2 rfl) ?_
          refine k_get (ci := 6) (v := .ref (gr g h0 3)) (C := RX6) (T := TX6) (N := 10) hx hb hts (fun _ h0_ => List.mem_cons_of_mem _ (List.mem_append_right _ (List.mem_append_left _ h0_))) hown hK hI i_h0.1 k_23 rfl 3 (by decide) (hts (.fieldLink RX6 27 "DeadlineShare$State" "sum" "LDeadlineShare$Wide;") (List.mem_cons_of_mem _ (List.mem_append_left _ (List.mem_of_getElem? (i := 0) rfl)))) (fun _ h9 => h9) rfl dX6_sumUp_84 ?_
          refine lv_aload_n hx hb dX6_sumUp_87 rfl (lv_at hl 2 rfl) ?_
          refine k_get (ci := 6) (v := .long x_4) (C := RX6) (T := TX6) (N := 10) hx hb hts (fun _ h0_ => List.mem_cons_of_mem _ (List.mem_append_right _ (List.mem_append_left _ h0_))) hown hK hI i_h0.1 k_23 rfl 7 (by decide) (hts (.fieldLink RX6 61 "DeadlineShare$State" "rest" "J") (List.mem_cons_of_mem _ (List.mem_append_left _ (List.mem_of_getElem? (i := 6) rfl)))) (fun _ h9 => h9) rfl dX6_sumUp_88 ?_
          obtain ⟨x_32, x_33, k_31⟩ := op_10 hI i_10
          refine va_callv (va_runV (As := [.long x_4]) (rest := []) ⟨hx, hb, hml, hown, hts⟩ (c_X10_set l dC dI g A hG f_22 (gr g h0 3) x_4 i_10) (cwV 1 hts (gi_V (fun w_ h0_ => ⟨List.mem_cons_of_mem _ (List.mem_append_right _ (List.mem_append_right _ (List.mem_append_left _ h0_))), (tb_c_X10_set w_ h0_).2⟩) (List.mem_cons_of_mem _ (List.mem_append_left _ (List.mem_of_getElem? (i := 1) rfl))) (List.mem_cons_of_mem _ (List.mem_append_left _ (List.mem_of_getElem? (i := 2) rfl))) (List.mem_cons_of_mem _ (List.mem_append_left _ (List.mem_of_getElem? (i := 3) rfl))) (List.mem_cons_of_mem _ (List.mem_append_left _ (List.mem_of_getElem? (i := 4) rfl)))) rfl rfl rfl (by decide +kernel) ⟨Nat.le_of_ble_eq_true rfl, Nat.le_of_ble_eq_true rfl⟩) ⟨fun a U g mk q => ⟨q.1, q.2.calling rfl rfl⟩, k_recv hK hI i_10.1 k_31 (ci := 10) rfl, fun U hU hW => ⟨rfl, kIn.of hI hK hE hS hU hW⟩⟩ rfl rfl hl.1 rfl (lv_room (Nat.le_of_ble_eq_true rfl)) dX6_sumUp_91 ⟨Nat.le_of_ble_eq_true rfl, Nat.le_of_ble_eq_true rfl⟩) hS (fun q _ h => h) (fun q h => h) (fun u t H1 locs ht hvm _ hB hz1 hk1 hS => ?_)
          obtain ⟨f_34, hI, kc_36⟩ := hB
          rw [ht] at hI
          have k_38 : f_34 h0 = .inr (6, [.ref (gr g h0 0), .ref (gr g h0 1), .ref (gr g h0 2), .ref (gr g h0 3), .ref (gr g h0 4), .int x_2, .int x_3, .long x_4, .int x_5, .int x_6]) := Kp.at kc_36 i_h0 (by decide) k_23
          have kp_39 := Kp.call kp_24 kc_36 (by decide)
          generalize H1 = H at hI hS ⊢
          refine W.widen (k := 0) (n := 0) (Nat.le_of_ble_eq_true rfl) (Nat.le_of_ble_eq_true rfl) ?_
          refine lv_iconst (v := 1) hx hb dX6_sumUp_94 (by decide) ?_
          exact W.iret (v := 1) hx hb hr (fun t ht hW => ⟨⟨1, (), rfl, trivial, ⟨f_34, by rw [ht]; exact hI, kp_39⟩⟩, hS.F ht⟩) hS.2.2 dX6_sumUp_95
        · have c_28 := kn_le rfl (by decide : Int32.toInt 0 = 0) c_28
          refine lv_iload_n hx hb dX6_sumUp_81 rfl (lv_at hl 1 rfl) ?_
          exact W.iret (v := y_21) hx hb hr (fun t ht hW => ⟨⟨y_21, (), rfl, trivial, ⟨f_22, by rw [ht]; exact hI, kp_24⟩⟩, hS.F ht⟩) hS.2.2 dX6_sumUp_82
      · have c_27 := kn_le rfl rfl c_27
        refine lv_aload_n hx hb dX6_sumUp_20 rfl (lv_at hl 2 rfl) ?_
        refine k_get (ci := 6) (v := .ref (gr g h0 1)) (C := RX6) (T := TX6) (N := 10) hx hb hts (fun _ h0_ => List.mem_cons_of_mem _ (List.mem_append_right _ (List.mem_append_left _ h0_))) hown hK hI i_h0.1 k_23 rfl 1 (by decide) (hts (.fieldLink RX6 11 "DeadlineShare$State" "tasks" "[LDeadlineShare$Task;") (List.mem_cons_of_mem _ (List.mem_append_left _ (List.mem_of_getElem? (i := 7) rfl)))) (fun _ h9 => h9) rfl dX6_sumUp_21 ?_
        have i_41 := kw_6_1 hG i_h0
        refine lv_iload_n hx hb dX6_sumUp_24 rfl (lv_at hl 0 rfl) ?_
        obtain ⟨q_43, k_42, b_44⟩ := op_20 hI i_41
        refine k_aald hx hb hK hI i_41.1 4 k_42 rfl (vp_in_iff.mpr (by omega)) b_44 (fun _ hj => kw_20 hG i_41 hj) dX6_sumUp_25 (fun a_45 i_46 => ?_)
        obtain ⟨x_48, x_49, x_50, x_51, x_52, x_53, x_54, x_55, x_56, x_57, x_58, x_59, x_60, x_61, x_62, x_63, k_47⟩ := op_8 hI i_46
        refine k_get (ci := 8) (v := .int x_51) (C := RX8) (T := TX8) (N := 18) hx hb hts (fun _ h0_ => List.mem_cons_of_mem _ (List.mem_append_right _ (List.mem_append_right _ (List.mem_append_right _ (List.mem_append_left _ h0_))))) hown hK hI i_46.1 k_47 rfl 4 (by decide) (hts (.fieldLink RX6 69 "DeadlineShare$Task" "state" "I") (List.mem_cons_of_mem _ (List.mem_append_left _ (List.mem_of_getElem? (i := 8) rfl)))) (fun _ h9 => h9) rfl dX6_sumUp_26 ?_
        refine lv_iconst (v := 1) hx hb dX6_sumUp_29 (by decide) ?_
        have J_71 : ∀ (y_64 : Int32) (f_65 : Nat → va_E) (H : Heap) (locs : List Loc) (ls : Array Slot), Iv dC dI g A f_65 H → va_S A s.heap H locs → f_65 h0 = .inr (6, [.ref (gr g h0 0), .ref (gr g h0 1), .ref (gr g h0 2), .ref (gr g h0 3), .ref (gr g h0 4), .int x_2, .int x_3, .long x_4, .int x_5, .int x_6]) → f_65 (gr g h0 1) = .inl (gc g 4, 12, .inr (.inr (.inr (.inr q_43)))) → f_65 a_45 = .inr (8, [.int x_48, .ref (gr g a_45 1), .int x_49, .int x_50, .int x_51, .long x_52, .int x_53, .ref (gr g a_45 7), .int x_54, .int x_55, .int x_56, .int x_57, .int x_58, .int x_59, .int x_60, .int x_61, .int x_62, .int x_63]) → Kp g [10] f f_65 → lv_has ls 3 [(2, .int y_20), (1, .int y_64), (0, .ref h0)] → W p l e (headSpec wq_c_X6_sumUp ({ frames := 1, cells := 0, slots := 0, locals := 26 } : Room)).room s m ([.ref h0].toArray) below meth c H locs 0 0 (MQ below (va_Qi (fun (r : Int32) (_ : Unit) => True) (fun (_ : Unit) t => ∃ f1 : Nat → va_E, Iv dC dI g A f1 t.heap ∧ Kp g [10] f f1) A) ([.ref h0].toArray) s 0 0 A) (F0 m 71 ls []) := by
          intro y_64 f_65 H locs ls hI hS k_66 k_67 k_68 kp_69 hl
          obtain ⟨v_70, ev_70⟩ : ∃ y : Int32, y = y_20 + Int32.ofInt 1 := ⟨_, rfl⟩
          refine lv_iinc (v := v_70) (lv' := [(2, .int v_70), (1, .int y_64), (0, .ref h0)]) hx hb dX6_sumUp_71 hl (k := 0) rfl ev_70.symm (by decide) rfl (fun ls hl => ?_)
          have tv_70 := k_inc y_20
          rw [← ev_70] at tv_70
          refine lv_goto (tgt := 12) hx hb dX6_sumUp_74 (by decide) ?_
          exact ih v_70 y_64 f_65 _ _ _ (by omega) hI hS k_66 kp_69 (by omega) (lv_sub hl [0, 1, 2] rfl)
        refine lv_icmp_ne (tgt := 71) hx hb dX6_sumUp_30 (by decide) (fun c_71 => ?_) (fun c_71 => ?_)
        · have c_71 := kn_eq rfl (by decide : Int32.toInt 1 = 1) c_71
          exact J_71 y_21 f_22 _ _ _ hI hS k_23 k_42 k_47 kp_24 (lv_sub hl [0, 1, 2] rfl)
        · have c_71 := kc_eq rfl (by decide : Int32.toInt 1 = 1) c_71
          refine lv_aload_n hx hb dX6_sumUp_33 rfl (lv_at hl 2 rfl) ?_
          refine k_get (ci := 6) (v := .ref (gr g h0 3)) (C := RX6) (T := TX6) (N := 10) hx hb hts (fun _ h0_ => List.mem_cons_of_mem _ (List.mem_append_right _ (List.mem_append_left _ h0_))) hown hK hI i_h0.1 k_23 rfl 3 (by decide) (hts (.fieldLink RX6 27 "DeadlineShare$State" "sum" "LDeadlineShare$Wide;") (List.mem_cons_of_mem _ (List.mem_append_left _ (List.mem_of_getElem? (i := 0) rfl)))) (fun _ h9 => h9) rfl dX6_sumUp_34 ?_
          refine lv_aload_n hx hb dX6_sumUp_37 rfl (lv_at hl 2 rfl) ?_
          refine k_get (ci := 6) (v := .ref (gr g h0 1)) (C := RX6) (T := TX6) (N := 10) hx hb hts (fun _ h0_ => List.mem_cons_of_mem _ (List.mem_append_right _ (List.mem_append_left _ h0_))) hown hK hI i_h0.1 k_23 rfl 1 (by decide) (hts (.fieldLink RX6 11 "DeadlineShare$State" "tasks" "[LDeadlineShare$Task;") (List.mem_cons_of_mem _ (List.mem_append_left _ (List.mem_of_getElem? (i := 7) rfl)))) (fun _ h9 => h9) rfl dX6_sumUp_38 ?_
          refine lv_iload_n hx hb dX6_sumUp_41 rfl (lv_at hl 0 rfl) ?_
          refine k_aald hx hb hK hI i_41.1 4 k_42 rfl (vp_in_iff.mpr (by omega)) b_44 (fun _ hj => kw_20 hG i_41 hj) dX6_sumUp_42 (fun a_76 i_77 => ?_)
          obtain ⟨x_79, x_80, x_81, x_82, x_83, x_84, x_85, x_86, x_87, x_88, x_89, x_90, x_91, x_92, x_93, x_94, k_78⟩ := op_8 hI i_77
          refine k_get (ci := 8) (v := .int x_80) (C := RX8) (T := TX8) (N := 18) hx hb hts (fun _ h0_ => List.mem_cons_of_mem _ (List.mem_append_right _ (List.mem_append_right _ (List.mem_append_right _ (List.mem_append_left _ h0_))))) hown hK hI i_77.1 k_78 rfl 2 (by decide) (hts (.fieldLink RX6 72 "DeadlineShare$Task" "weight" "I") (List.mem_cons_of_mem _ (List.mem_append_left _ (List.mem_of_getElem? (i := 9) rfl)))) (fun _ h9 => h9) rfl dX6_sumUp_43 ?_
          refine lv_i2l (v := x_80.toInt64) hx hb dX6_sumUp_46 rfl ?_
          refine lv_aload_n hx hb dX6_sumUp_47 rfl (lv_at hl 2 rfl) ?_
          refine k_get (ci := 6) (v := .ref (gr g h0 1)) (C := RX6) (T := TX6) (N := 10) hx hb hts (fun _ h0_ => List.mem_cons_of_mem _ (List.mem_append_right _ (List.mem_append_left _ h0_))) hown hK hI i_h0.1 k_23 rfl 1 (by decide) (hts (.fieldLink RX6 11 "DeadlineShare$State" "tasks" "[LDeadlineShare$Task;") (List.mem_cons_of_mem _ (List.mem_append_left _ (List.mem_of_getElem? (i := 7) rfl)))) (fun _ h9 => h9) rfl dX6_sumUp_48 ?_
          refine lv_iload_n hx hb dX6_sumUp_51 rfl (lv_at hl 0 rfl) ?_
          refine k_aald hx hb hK hI i_41.1 4 k_42 rfl (vp_in_iff.mpr (by omega)) b_44 (fun _ hj => kw_20 hG i_41 hj) dX6_sumUp_52 (fun a_97 i_98 => ?_)
          obtain ⟨x_100, x_101, x_102, x_103, x_104, x_105, x_106, x_107, x_108, x_109, x_110, x_111, x_112, x_113, x_114, x_115, k_99⟩ := op_8 hI i_98
          refine k_get (ci := 8) (v := .long x_104) (C := RX8) (T := TX8) (N := 18) hx hb hts (fun _ h0_ => List.mem_cons_of_mem _ (List.mem_append_right _ (List.mem_append_right _ (List.mem_append_right _ (List.mem_append_left _ h0_))))) hown hK hI i_98.1 k_99 rfl 5 (by decide) (hts (.fieldLink RX6 79 "DeadlineShare$Task" "v" "J") (List.mem_cons_of_mem _ (List.mem_append_left _ (List.mem_of_getElem? (i := 10) rfl)))) (fun _ h9 => h9) rfl dX6_sumUp_53 ?_
          obtain ⟨x_117, x_118, k_116⟩ := op_10 hI i_10
          refine va_callv (va_runV (As := [.long x_80.toInt64, .long x_104]) (rest := []) ⟨hx, hb, hml, hown, hts⟩ (c_X10_addTimes l dC dI g A hG f_22 (gr g h0 3) x_80.toInt64 x_104 i_10) (cwV 2 hts (gi_V (fun w_ h0_ => ⟨List.mem_cons_of_mem _ (List.mem_append_right _ (List.mem_append_right _ (List.mem_append_right _ (List.mem_append_right _ (List.mem_append_left _ h0_))))), (tb_c_X10_addTimes w_ h0_).2⟩) (List.mem_cons_of_mem _ (List.mem_append_left _ (List.mem_of_getElem? (i := 11) rfl))) (List.mem_cons_of_mem _ (List.mem_append_left _ (List.mem_of_getElem? (i := 12) rfl))) (List.mem_cons_of_mem _ (List.mem_append_left _ (List.mem_of_getElem? (i := 13) rfl))) (List.mem_cons_of_mem _ (List.mem_append_left _ (List.mem_of_getElem? (i := 4) rfl)))) rfl rfl rfl (by decide +kernel) ⟨Nat.le_of_ble_eq_true rfl, Nat.le_of_ble_eq_true rfl⟩) ⟨fun a U g mk q => ⟨q.1, q.2.calling rfl rfl⟩, k_recv hK hI i_10.1 k_116 (ci := 10) rfl, fun U hU hW => ⟨rfl, kIn.of hI hK hE hS hU hW⟩⟩ rfl rfl hl.1 rfl (lv_room (Nat.le_of_ble_eq_true rfl)) dX6_sumUp_56 ⟨Nat.le_of_ble_eq_true rfl, Nat.le_of_ble_eq_true rfl⟩) hS (fun q _ h => h) (fun q h => h) (fun u t H1 locs ht hvm _ hB hz1 hk1 hS => ?_)
          obtain ⟨f_119, hI, kc_121⟩ := hB
          rw [ht] at hI
          have k_123 : f_119 h0 = .inr (6, [.ref (gr g h0 0), .ref (gr g h0 1), .ref (gr g h0 2), .ref (gr g h0 3), .ref (gr g h0 4), .int x_2, .int x_3, .long x_4, .int x_5, .int x_6]) := Kp.at kc_121 i_h0 (by decide) k_23
          have k_124 : f_119 (gr g h0 1) = .inl (gc g 4, 12, .inr (.inr (.inr (.inr q_43)))) := Kp.at kc_121 i_41 (by decide) k_42
          have k_125 : f_119 a_45 = .inr (8, [.int x_48, .ref (gr g a_45 1), .int x_49, .int x_50, .int x_51, .long x_52, .int x_53, .ref (gr g a_45 7), .int x_54, .int x_55, .int x_56, .int x_57, .int x_58, .int x_59, .int x_60, .int x_61, .int x_62, .int x_63]) := Kp.at kc_121 i_46 (by decide) k_47
          have k_126 : f_119 a_76 = .inr (8, [.int x_79, .ref (gr g a_76 1), .int x_80, .int x_81, .int x_82, .long x_83, .int x_84, .ref (gr g a_76 7), .int x_85, .int x_86, .int x_87, .int x_88, .int x_89, .int x_90, .int x_91, .int x_92, .int x_93, .int x_94]) := Kp.at kc_121 i_77 (by decide) k_78
          have k_127 : f_119 a_97 = .inr (8, [.int x_100, .ref (gr g a_97 1), .int x_101, .int x_102, .int x_103, .long x_104, .int x_105, .ref (gr g a_97 7), .int x_106, .int x_107, .int x_108, .int x_109, .int x_110, .int x_111, .int x_112, .int x_113, .int x_114, .int x_115]) := Kp.at kc_121 i_98 (by decide) k_99
          have kp_128 := Kp.call kp_24 kc_121 (by decide)
          generalize H1 = H at hI hS ⊢
          refine W.widen (k := 0) (n := 0) (Nat.le_of_ble_eq_true rfl) (Nat.le_of_ble_eq_true rfl) ?_
          refine lv_iload_n hx hb dX6_sumUp_59 rfl (lv_at hl 1 rfl) ?_
          refine lv_aload_n hx hb dX6_sumUp_60 rfl (lv_at hl 2 rfl) ?_
          refine k_get (ci := 6) (v := .ref (gr g h0 1)) (C := RX6) (T := TX6) (N := 10) hx hb hts (fun _ h0_ => List.mem_cons_of_mem _ (List.mem_append_right _ (List.mem_append_left _ h0_))) hown hK hI i_h0.1 k_123 rfl 1 (by decide) (hts (.fieldLink RX6 11 "DeadlineShare$State" "tasks" "[LDeadlineShare$Task;") (List.mem_cons_of_mem _ (List.mem_append_left _ (List.mem_of_getElem? (i := 7) rfl)))) (fun _ h9 => h9) rfl dX6_sumUp_61 ?_
          refine lv_iload_n hx hb dX6_sumUp_64 rfl (lv_at hl 0 rfl) ?_
          refine k_aald hx hb hK hI i_41.1 4 k_124 rfl (vp_in_iff.mpr (by omega)) b_44 (fun _ hj => kw_20 hG i_41 hj) dX6_sumUp_65 (fun a_131 i_132 => ?_)
          obtain ⟨x_134, x_135, x_136, x_137, x_138, x_139, x_140, x_141, x_142, x_143, x_144, x_145, x_146, x_147, x_148, x_149, k_133⟩ := op_8 hI i_132
          refine k_get (ci := 8) (v := .int x_135) (C := RX8) (T := TX8) (N := 18) hx hb hts (fun _ h0_ => List.mem_cons_of_mem _ (List.mem_append_right _ (List.mem_append_right _ (List.mem_append_right _ (List.mem_append_left _ h0_))))) hown hK hI i_132.1 k_133 rfl 2 (by decide) (hts (.fieldLink RX6 72 "DeadlineShare$Task" "weight" "I") (List.mem_cons_of_mem _ (List.mem_append_left _ (List.mem_of_getElem? (i := 9) rfl)))) (fun _ h9 => h9) rfl dX6_sumUp_66 ?_
          refine lv_iadd hx hb dX6_sumUp_69 ?_
          refine lv_topi (fun v_150 ev_150 => ?_)
          have tv_150 := k_ad y_21 x_135
          rw [← ev_150] at tv_150
          refine lv_istore_n (lv' := [(1, .int v_150), (2, .int y_20), (0, .ref h0)]) hx hb dX6_sumUp_70 rfl hl (by decide) rfl (fun ls hl => ?_)
          exact J_71 v_150 f_119 _ _ _ hI hS k_123 k_124 k_125 kp_128 (lv_sub hl [1, 0, 2] rfl)
  exact K_12 _ 0 0 f_14 _ _ _ (Nat.lt_succ_self _) hI hS k_18 kp_19 (by omega) (lv_sub hl [0, 1, 2] rfl)
theorem tw_22 : q_g (.code yX6_has cX6_has 2 (some .boolean)) := ⟨(List.mem_append_right _ (List.mem_of_getElem? (i := 482) (by decide +kernel))), good_of_word (by decide +kernel)⟩
def ow_c_X6_has : List Cond := [.fieldLink RX6 48 "DeadlineShare$State" "count" "I"]
def wq_c_X6_has : List Cond := .code yX6_has cX6_has 2 (some .boolean) :: (ow_c_X6_has ++ (u_ws RX6 TX6 10 ++ ([] : List Cond)))
theorem tb_c_X6_has : ∀ w ∈ wq_c_X6_has, q_g w := by
  unfold wq_c_X6_has ow_c_X6_has
  exact q_cons tw_22 (q_app (q_cons tw_15 q_nil) (q_app tu_X6 q_nil))
set_option maxHeartbeats 4000000 in
set_option maxRecDepth 100000 in
theorem c_X6_has (l : Launch) (dC : Nat → ClassId) (dI : Nat → Nat → Nat) (g : kG) (A : Nat → Prop) (hG : kWf g) (f : Nat → va_E) (h0 : Nat) (p1 : Int32) (i_h0 : ik g 6 h0) : Met l yX6_has wq_c_X6_has ({ frames := 0, cells := 0, slots := 0, locals := 0 } : Room) (va_Pc [.ref h0, .int p1] (fun U => kIn dC dI g A f U)) (va_Qi (fun (r : Int32) (_ : Unit) => r.toInt = 0 ∨ (0 ≤ p1.toInt ∧ p1.toInt < 12)) (fun (_ : Unit) t => Iv dC dI g A f t.heap) A) 0 0 A := by
  refine Met.ofW (cc := cX6_has) (maxL := 2) (ret := (some .boolean)) (by decide) rfl ?_
  intro p e s m args below meth c s₁ B hml hv
  obtain ⟨rfl, hI, hK, hE⟩ := hv
  have hx := B.exec
  have hb := B.bytes
  have hr := B.returns
  have hts := atoms_spec (ws := wq_c_X6_has) B.pre
  have hown : s.vm.findClass RX6 = some m.cls := findClass_of_methodNamed B.named
  have hlocks := B.notSynchronized
  have hS : va_S A s.heap s.heap [] := va_S.rf
  have hl := lv_entry ([.ref h0, .int p1]) (n := 2) (Nat.le_of_ble_eq_true rfl)
  rw [lg_entry_eq]
  generalize (lg_sl ([.ref h0, .int p1]) ++ List.replicate (2 - (lg_sl ([.ref h0, .int p1])).length) Slot.unset).toArray = ls at hl ⊢
  have hl : lv_has ls 2 [(0, .ref h0), (1, .int p1)] := hl
  refine lv_iload_n hx hb dX6_has_0 rfl (lv_at hl 1 rfl) ?_
  refine lv_if_lt (tgt := 16) hx hb dX6_has_1 (by decide) (fun c_1 => ?_) (fun c_1 => ?_)
  · have c_1 := kc_lt rfl (by decide : Int32.toInt 0 = 0) c_1
    refine lv_iconst (v := 0) hx hb dX6_has_16 (by decide) ?_
    have w_2 : (0 : Int32).toInt = 0 ∨ (0 ≤ p1.toInt ∧ p1.toInt < 12) := by rw [show Int32.toInt (0) = 0 from by decide]; omega
    exact W.zret (v := 0) hx hb hr rfl (fun t ht hW => ⟨⟨0, (), rfl, w_2, by rw [ht]; exact hI⟩, hS.F ht⟩) hS.2.2 dX6_has_17
  · have c_1 := kn_lt rfl (by decide : Int32.toInt 0 = 0) c_1
    refine lv_iload_n hx hb dX6_has_4 rfl (lv_at hl 1 rfl) ?_
    refine lv_aload_n hx hb dX6_has_5 rfl (lv_at hl 0 rfl) ?_
    obtain ⟨x_4, x_5, x_6, x_7, x_8, k_3, b_9, b_10⟩ := op_6 hI i_h0
    refine k_get (ci := 6) (v := .int x_4) (C := RX6) (T := TX6) (N := 10) hx hb hts (fun _ h0_ => List.mem_cons_of_mem _ (List.mem_append_right _ (List.mem_append_left _ h0_))) hown hK hI i_h0.1 k_3 rfl 5 (by decide) (hts (.fieldLink RX6 48 "DeadlineShare$State" "count" "I") (List.mem_cons_of_mem _ (List.mem_append_left _ (List.mem_of_getElem? (i := 0) rfl)))) (fun _ h9 => h9) rfl dX6_has_6 ?_
    refine lv_icmp_ge (tgt := 16) hx hb dX6_has_9 (by decide) (fun c_11 => ?_) (fun c_11 => ?_)
    · have c_11 := kc_le rfl rfl c_11
      refine lv_iconst (v := 0) hx hb dX6_has_16 (by decide) ?_
      have w_12 : (0 : Int32).toInt = 0 ∨ (0 ≤ p1.toInt ∧ p1.toInt < 12) := by rw [show Int32.toInt (0) = 0 from by decide]; omega
      exact W.zret (v := 0) hx hb hr rfl (fun t ht hW => ⟨⟨0, (), rfl, w_12, by rw [ht]; exact hI⟩, hS.F ht⟩) hS.2.2 dX6_has_17
    · have c_11 := kn_le rfl rfl c_11
      refine lv_iconst (v := 1) hx hb dX6_has_12 (by decide) ?_
      refine lv_goto (tgt := 17) hx hb dX6_has_13 (by decide) ?_
      have w_13 : (1 : Int32).toInt = 0 ∨ (0 ≤ p1.toInt ∧ p1.toInt < 12) := by rw [show Int32.toInt (1) = 1 from by decide]; omega
      exact W.zret (v := 1) hx hb hr rfl (fun t ht hW => ⟨⟨1, (), rfl, w_13, by rw [ht]; exact hI⟩, hS.F ht⟩) hS.2.2 dX6_has_17
theorem tw_23 : q_g (.code yX6_weightOfAll cX6_weightOfAll 3 (some .int)) := ⟨(List.mem_append_right _ (List.mem_of_getElem? (i := 494) (by decide +kernel))), good_of_word (by decide +kernel)⟩
def ow_c_X6_weightOfAll : List Cond := [.fieldLink RX6 48 "DeadlineShare$State" "count" "I", .fieldLink RX6 11 "DeadlineShare$State" "tasks" "[LDeadlineShare$Task;", .fieldLink RX6 69 "DeadlineShare$Task" "state" "I", .fieldLink RX6 72 "DeadlineShare$Task" "weight" "I"]
def wq_c_X6_weightOfAll : List Cond := .code yX6_weightOfAll cX6_weightOfAll 3 (some .int) :: (ow_c_X6_weightOfAll ++ (u_ws RX6 TX6 10 ++ (u_ws RX8 TX8 18 ++ ([] : List Cond))))
theorem tb_c_X6_weightOfAll : ∀ w ∈ wq_c_X6_weightOfAll, q_g w := by
  unfold wq_c_X6_weightOfAll ow_c_X6_weightOfAll
  exact q_cons tw_23 (q_app (q_cons tw_15 (q_cons tw_13 (q_cons tw_12 (q_cons tw_11 q_nil)))) (q_app tu_X6 (q_app tu_X8 q_nil)))
set_option maxHeartbeats 4000000 in
set_option maxRecDepth 100000 in
theorem c_X6_weightOfAll (l : Launch) (dC : Nat → ClassId) (dI : Nat → Nat → Nat) (g : kG) (A : Nat → Prop) (hG : kWf g) (f : Nat → va_E) (h0 : Nat) (i_h0 : ik g 6 h0) : Met l yX6_weightOfAll wq_c_X6_weightOfAll ({ frames := 0, cells := 0, slots := 0, locals := 0 } : Room) (va_Pc [.ref h0] (fun U => kIn dC dI g A f U)) (va_Qi (fun (r : Int32) (_ : Unit) => True) (fun (_ : Unit) t => Iv dC dI g A f t.heap) A) 0 0 A := by
  refine Met.ofW (cc := cX6_weightOfAll) (maxL := 3) (ret := (some .int)) (by decide) rfl ?_
  intro p e s m args below meth c s₁ B hml hv
  obtain ⟨rfl, hI, hK, hE⟩ := hv
  have hx := B.exec
  have hb := B.bytes
  have hr := B.returns
  have hts := atoms_spec (ws := wq_c_X6_weightOfAll) B.pre
  have hown : s.vm.findClass RX6 = some m.cls := findClass_of_methodNamed B.named
  have hlocks := B.notSynchronized
  have hS : va_S A s.heap s.heap [] := va_S.rf
  have hl := lv_entry ([.ref h0]) (n := 3) (Nat.le_of_ble_eq_true rfl)
  rw [lg_entry_eq]
  generalize (lg_sl ([.ref h0]) ++ List.replicate (3 - (lg_sl ([.ref h0])).length) Slot.unset).toArray = ls at hl ⊢
  have hl : lv_has ls 3 [(0, .ref h0)] := hl
  refine lv_iconst (v := 0) hx hb dX6_weightOfAll_0 (by decide) ?_
  refine lv_istore_n (lv' := [(1, .int 0), (0, .ref h0)]) hx hb dX6_weightOfAll_1 rfl hl (by decide) rfl (fun ls hl => ?_)
  refine lv_iconst (v := 0) hx hb dX6_weightOfAll_2 (by decide) ?_
  refine lv_istore_n (lv' := [(2, .int 0), (1, .int 0), (0, .ref h0)]) hx hb dX6_weightOfAll_3 rfl hl (by decide) rfl (fun ls hl => ?_)
  have K_4 : ∀ (nn : Nat) (y_1 : Int32) (y_2 : Int32) (H : Heap) (locs : List Loc) (ls : Array Slot), (12 - y_1.toInt).toNat < nn → Iv dC dI g A f H → va_S A s.heap H locs → 0 ≤ y_1.toInt → lv_has ls 3 [(2, .int y_1), (1, .int y_2), (0, .ref h0)] → W p l e (headSpec wq_c_X6_weightOfAll ({ frames := 0, cells := 0, slots := 0, locals := 0 } : Room)).room s m ([.ref h0].toArray) below meth c H locs 0 0 (MQ below (va_Qi (fun (r : Int32) (_ : Unit) => True) (fun (_ : Unit) t => Iv dC dI g A f t.heap) A) ([.ref h0].toArray) s 0 0 A) (F0 m 4 ls []) := by
    intro nn
    induction nn with
    | zero => intro y_1 y_2 H locs ls m_4; exact absurd m_4 (Nat.not_lt_zero _)
    | succ nn ih =>
      intro y_1 y_2 H locs ls m_4 hI hS t_3 hl
      refine lv_iload_n hx hb dX6_weightOfAll_4 rfl (lv_at hl 0 rfl) ?_
      refine lv_aload_n hx hb dX6_weightOfAll_5 rfl (lv_at hl 2 rfl) ?_
      obtain ⟨x_6, x_7, x_8, x_9, x_10, k_5, b_11, b_12⟩ := op_6 hI i_h0
      refine k_get (ci := 6) (v := .int x_6) (C := RX6) (T := TX6) (N := 10) hx hb hts (fun _ h0_ => List.mem_cons_of_mem _ (List.mem_append_right _ (List.mem_append_left _ h0_))) hown hK hI i_h0.1 k_5 rfl 5 (by decide) (hts (.fieldLink RX6 48 "DeadlineShare$State" "count" "I") (List.mem_cons_of_mem _ (List.mem_append_left _ (List.mem_of_getElem? (i := 0) rfl)))) (fun _ h9 => h9) rfl dX6_weightOfAll_6 ?_
      refine lv_icmp_ge (tgt := 43) hx hb dX6_weightOfAll_9 (by decide) (fun c_13 => ?_) (fun c_13 => ?_)
      · have c_13 := kc_le rfl rfl c_13
        refine lv_iload_n hx hb dX6_weightOfAll_43 rfl (lv_at hl 1 rfl) ?_
        exact W.iret (v := y_2) hx hb hr (fun t ht hW => ⟨⟨y_2, (), rfl, trivial, by rw [ht]; exact hI⟩, hS.F ht⟩) hS.2.2 dX6_weightOfAll_44
      · have c_13 := kn_le rfl rfl c_13
        refine lv_aload_n hx hb dX6_weightOfAll_12 rfl (lv_at hl 2 rfl) ?_
        refine k_get (ci := 6) (v := .ref (gr g h0 1)) (C := RX6) (T := TX6) (N := 10) hx hb hts (fun _ h0_ => List.mem_cons_of_mem _ (List.mem_append_right _ (List.mem_append_left _ h0_))) hown hK hI i_h0.1 k_5 rfl 1 (by decide) (hts (.fieldLink RX6 11 "DeadlineShare$State" "tasks" "[LDeadlineShare$Task;") (List.mem_cons_of_mem _ (List.mem_append_left _ (List.mem_of_getElem? (i := 1) rfl)))) (fun _ h9 => h9) rfl dX6_weightOfAll_13 ?_
        have i_15 := kw_6_1 hG i_h0
        refine lv_iload_n hx hb dX6_weightOfAll_16 rfl (lv_at hl 0 rfl) ?_
        obtain ⟨q_17, k_16, b_18⟩ := op_20 hI i_15
        refine k_aald hx hb hK hI i_15.1 4 k_16 rfl (vp_in_iff.mpr (by omega)) b_18 (fun _ hj => kw_20 hG i_15 hj) dX6_weightOfAll_17 (fun a_19 i_20 => ?_)
        obtain ⟨x_22, x_23, x_24, x_25, x_26, x_27, x_28, x_29, x_30, x_31, x_32, x_33, x_34, x_35, x_36, x_37, k_21⟩ := op_8 hI i_20
        refine k_get (ci := 8) (v := .int x_25) (C := RX8) (T := TX8) (N := 18) hx hb hts (fun _ h0_ => List.mem_cons_of_mem _ (List.mem_append_right _ (List.mem_append_right _ (List.mem_append_left _ h0_)))) hown hK hI i_20.1 k_21 rfl 4 (by decide) (hts (.fieldLink RX6 69 "DeadlineShare$Task" "state" "I") (List.mem_cons_of_mem _ (List.mem_append_left _ (List.mem_of_getElem? (i := 2) rfl)))) (fun _ h9 => h9) rfl dX6_weightOfAll_18 ?_
        refine lv_iconst (v := 1) hx hb dX6_weightOfAll_21 (by decide) ?_
        have J_37 : ∀ (y_38 : Int32) (H : Heap) (locs : List Loc) (ls : Array Slot), Iv dC dI g A f H → va_S A s.heap H locs → lv_has ls 3 [(2, .int y_1), (1, .int y_38), (0, .ref h0)] → W p l e (headSpec wq_c_X6_weightOfAll ({ frames := 0, cells := 0, slots := 0, locals := 0 } : Room)).room s m ([.ref h0].toArray) below meth c H locs 0 0 (MQ below (va_Qi (fun (r : Int32) (_ : Unit) => True) (fun (_ : Unit) t => Iv dC dI g A f t.heap) A) ([.ref h0].toArray) s 0 0 A) (F0 m 37 ls []) := by
          intro y_38 H locs ls hI hS  hl
          obtain ⟨v_39, ev_39⟩ : ∃ y : Int32, y = y_1 + Int32.ofInt 1 := ⟨_, rfl⟩
          refine lv_iinc (v := v_39) (lv' := [(2, .int v_39), (1, .int y_38), (0, .ref h0)]) hx hb dX6_weightOfAll_37 hl (k := 0) rfl ev_39.symm (by decide) rfl (fun ls hl => ?_)
          have tv_39 := k_inc y_1
          rw [← ev_39] at tv_39
          refine lv_goto (tgt := 4) hx hb dX6_weightOfAll_40 (by decide) ?_
          exact ih v_39 y_38 _ _ _ (by omega) hI hS (by omega) (lv_sub hl [0, 1, 2] rfl)
        refine lv_icmp_ne (tgt := 37) hx hb dX6_weightOfAll_22 (by decide) (fun c_40 => ?_) (fun c_40 => ?_)
        · have c_40 := kn_eq rfl (by decide : Int32.toInt 1 = 1) c_40
          exact J_37 y_2 _ _ _ hI hS  (lv_sub hl [0, 1, 2] rfl)
        · have c_40 := kc_eq rfl (by decide : Int32.toInt 1 = 1) c_40
          refine lv_iload_n hx hb dX6_weightOfAll_25 rfl (lv_at hl 1 rfl) ?_
          refine lv_aload_n hx hb dX6_weightOfAll_26 rfl (lv_at hl 2 rfl) ?_
          refine k_get (ci := 6) (v := .ref (gr g h0 1)) (C := RX6) (T := TX6) (N := 10) hx hb hts (fun _ h0_ => List.mem_cons_of_mem _ (List.mem_append_right _ (List.mem_append_left _ h0_))) hown hK hI i_h0.1 k_5 rfl 1 (by decide) (hts (.fieldLink RX6 11 "DeadlineShare$State" "tasks" "[LDeadlineShare$Task;") (List.mem_cons_of_mem _ (List.mem_append_left _ (List.mem_of_getElem? (i := 1) rfl)))) (fun _ h9 => h9) rfl dX6_weightOfAll_27 ?_
          refine lv_iload_n hx hb dX6_weightOfAll_30 rfl (lv_at hl 0 rfl) ?_
          refine k_aald hx hb hK hI i_15.1 4 k_16 rfl (vp_in_iff.mpr (by omega)) b_18 (fun _ hj => kw_20 hG i_15 hj) dX6_weightOfAll_31 (fun a_43 i_44 => ?_)
          obtain ⟨x_46, x_47, x_48, x_49, x_50, x_51, x_52, x_53, x_54, x_55, x_56, x_57, x_58, x_59, x_60, x_61, k_45⟩ := op_8 hI i_44
          refine k_get (ci := 8) (v := .int x_47) (C := RX8) (T := TX8) (N := 18) hx hb hts (fun _ h0_ => List.mem_cons_of_mem _ (List.mem_append_right _ (List.mem_append_right _ (List.mem_append_left _ h0_)))) hown hK hI i_44.1 k_45 rfl 2 (by decide) (hts (.fieldLink RX6 72 "DeadlineShare$Task" "weight" "I") (List.mem_cons_of_mem _ (List.mem_append_left _ (List.mem_of_getElem? (i := 3) rfl)))) (fun _ h9 => h9) rfl dX6_weightOfAll_32 ?_
          refine lv_iadd hx hb dX6_weightOfAll_35 ?_
          refine lv_topi (fun v_62 ev_62 => ?_)
          have tv_62 := k_ad y_2 x_47
          rw [← ev_62] at tv_62
          refine lv_istore_n (lv' := [(1, .int v_62), (2, .int y_1), (0, .ref h0)]) hx hb dX6_weightOfAll_36 rfl hl (by decide) rfl (fun ls hl => ?_)
          exact J_37 v_62 _ _ _ hI hS  (lv_sub hl [1, 0, 2] rfl)
  exact K_4 _ 0 0 _ _ _ (Nat.lt_succ_self _) hI hS (by omega) (lv_sub hl [0, 1, 2] rfl)
theorem tw_24 : q_g (.initialized RX8) := ⟨(List.mem_append_right _ (List.mem_of_getElem? (i := 9) (by decide +kernel))), good_of_word (by decide +kernel)⟩
theorem tw_25 : q_g (.selects RX8 yX8_isOn yX8_isOn) := ⟨(List.mem_append_right _ (List.mem_of_getElem? (i := 552) (by decide +kernel))), good_of_word (by decide +kernel)⟩
theorem tw_26 : q_g (.instanceMethod yX8_isOn) := ⟨(List.mem_append_right _ (List.mem_of_getElem? (i := 551) (by decide +kernel))), good_of_word (by decide +kernel)⟩
theorem tw_27 : q_g (.methodLink RX6 111 yX8_isOn) := ⟨(List.mem_append_right _ (List.mem_of_getElem? (i := 571) (by decide +kernel))), good_of_word (by decide +kernel)⟩
theorem tw_28 : q_g (.code yX6_atWeight cX6_atWeight 4 (some .int)) := ⟨(List.mem_append_right _ (List.mem_of_getElem? (i := 835) (by decide +kernel))), good_of_word (by decide +kernel)⟩
def ow_c_X6_atWeight : List Cond := [.fieldLink RX6 48 "DeadlineShare$State" "count" "I", .fieldLink RX6 11 "DeadlineShare$State" "tasks" "[LDeadlineShare$Task;", .methodLink RX6 111 yX8_isOn, .instanceMethod yX8_isOn, .selects RX8 yX8_isOn yX8_isOn, .initialized RX8, .fieldLink RX6 72 "DeadlineShare$Task" "weight" "I"]
def wq_c_X6_atWeight : List Cond := .code yX6_atWeight cX6_atWeight 4 (some .int) :: (ow_c_X6_atWeight ++ (u_ws RX6 TX6 10 ++ (wq_c_X8_isOn ++ (u_ws RX8 TX8 18 ++ ([] : List Cond)))))
theorem tb_c_X6_atWeight : ∀ w ∈ wq_c_X6_atWeight, q_g w := by
  unfold wq_c_X6_atWeight ow_c_X6_atWeight
  exact q_cons tw_28 (q_app (q_cons tw_15 (q_cons tw_13 (q_cons tw_27 (q_cons tw_26 (q_cons tw_25 (q_cons tw_24 (q_cons tw_11 q_nil))))))) (q_app tu_X6 (q_app tb_c_X8_isOn (q_app tu_X8 q_nil))))
set_option maxHeartbeats 4000000 in
set_option maxRecDepth 100000 in
theorem c_X6_atWeight (l : Launch) (dC : Nat → ClassId) (dI : Nat → Nat → Nat) (g : kG) (A : Nat → Prop) (hG : kWf g) (f : Nat → va_E) (h0 : Nat) (p1 : Int32) (i_h0 : ik g 6 h0) : Met l yX6_atWeight wq_c_X6_atWeight ({ frames := 1, cells := 0, slots := 0, locals := 20 } : Room) (va_Pc [.ref h0, .int p1] (fun U => kIn dC dI g A f U)) (va_Qi (fun (r : Int32) (_ : Unit) => True) (fun (_ : Unit) t => Iv dC dI g A f t.heap) A) 0 0 A := by
  refine Met.ofW (cc := cX6_atWeight) (maxL := 4) (ret := (some .int)) (by decide) rfl ?_
  intro p e s m args below meth c s₁ B hml hv
  obtain ⟨rfl, hI, hK, hE⟩ := hv
  have hx := B.exec
  have hb := B.bytes
  have hr := B.returns
  have hts := atoms_spec (ws := wq_c_X6_atWeight) B.pre
  have hown : s.vm.findClass RX6 = some m.cls := findClass_of_methodNamed B.named
  have hlocks := B.notSynchronized
  have hS : va_S A s.heap s.heap [] := va_S.rf
  have hl := lv_entry ([.ref h0, .int p1]) (n := 4) (Nat.le_of_ble_eq_true rfl)
  rw [lg_entry_eq]
  generalize (lg_sl ([.ref h0, .int p1]) ++ List.replicate (4 - (lg_sl ([.ref h0, .int p1])).length) Slot.unset).toArray = ls at hl ⊢
  have hl : lv_has ls 4 [(0, .ref h0), (1, .int p1)] := hl
  refine lv_iload_n hx hb dX6_atWeight_0 rfl (lv_at hl 1 rfl) ?_
  refine lv_istore_n (lv' := [(2, .int p1), (0, .ref h0), (1, .int p1)]) hx hb dX6_atWeight_1 rfl hl (by decide) rfl (fun ls hl => ?_)
  refine lv_iconst (v := 0) hx hb dX6_atWeight_2 (by decide) ?_
  refine lv_istore_n (lv' := [(3, .int 0), (2, .int p1), (0, .ref h0), (1, .int p1)]) hx hb dX6_atWeight_3 rfl hl (by decide) rfl (fun ls hl => ?_)
  have K_4 : ∀ (nn : Nat) (y_1 : Int32) (y_2 : Int32) (H : Heap) (locs : List Loc) (ls : Array Slot), (12 - y_1.toInt).toNat < nn → Iv dC dI g A f H → va_S A s.heap H locs → 0 ≤ y_1.toInt → lv_has ls 4 [(3, .int y_1), (2, .int y_2), (0, .ref h0), (1, .int p1)] → W p l e (headSpec wq_c_X6_atWeight ({ frames := 1, cells := 0, slots := 0, locals := 20 } : Room)).room s m ([.ref h0, .int p1].toArray) below meth c H locs 0 0 (MQ below (va_Qi (fun (r : Int32) (_ : Unit) => True) (fun (_ : Unit) t => Iv dC dI g A f t.heap) A) ([.ref h0, .int p1].toArray) s 0 0 A) (F0 m 4 ls []) := by
    intro nn
    induction nn with
    | zero => intro y_1 y_2 H locs ls m_4; exact absurd m_4 (Nat.not_lt_zero _)
    | succ nn ih =>
      intro y_1 y_2 H locs ls m_4 hI hS t_3 hl
      refine lv_iload_n hx hb dX6_atWeight_4 rfl (lv_at hl 0 rfl) ?_
      refine lv_aload_n hx hb dX6_atWeight_5 rfl (lv_at hl 2 rfl) ?_
      obtain ⟨x_6, x_7, x_8, x_9, x_10, k_5, b_11, b_12⟩ := op_6 hI i_h0
      refine k_get (ci := 6) (v := .int x_6) (C := RX6) (T := TX6) (N := 10) hx hb hts (fun _ h0_ => List.mem_cons_of_mem _ (List.mem_append_right _ (List.mem_append_left _ h0_))) hown hK hI i_h0.1 k_5 rfl 5 (by decide) (hts (.fieldLink RX6 48 "DeadlineShare$State" "count" "I") (List.mem_cons_of_mem _ (List.mem_append_left _ (List.mem_of_getElem? (i := 0) rfl)))) (fun _ h9 => h9) rfl dX6_atWeight_6 ?_
      refine lv_icmp_ge (tgt := 48) hx hb dX6_atWeight_9 (by decide) (fun c_13 => ?_) (fun c_13 => ?_)
      · have c_13 := kc_le rfl rfl c_13
        refine lv_iconst (v := (-1)) hx hb dX6_atWeight_48 (by decide) ?_
        exact W.iret (v := (-1)) hx hb hr (fun t ht hW => ⟨⟨(-1), (), rfl, trivial, by rw [ht]; exact hI⟩, hS.F ht⟩) hS.2.2 dX6_atWeight_49
      · have c_13 := kn_le rfl rfl c_13
        refine lv_aload_n hx hb dX6_atWeight_12 rfl (lv_at hl 2 rfl) ?_
        refine k_get (ci := 6) (v := .ref (gr g h0 1)) (C := RX6) (T := TX6) (N := 10) hx hb hts (fun _ h0_ => List.mem_cons_of_mem _ (List.mem_append_right _ (List.mem_append_left _ h0_))) hown hK hI i_h0.1 k_5 rfl 1 (by decide) (hts (.fieldLink RX6 11 "DeadlineShare$State" "tasks" "[LDeadlineShare$Task;") (List.mem_cons_of_mem _ (List.mem_append_left _ (List.mem_of_getElem? (i := 1) rfl)))) (fun _ h9 => h9) rfl dX6_atWeight_13 ?_
        have i_15 := kw_6_1 hG i_h0
        refine lv_iload_n hx hb dX6_atWeight_16 rfl (lv_at hl 0 rfl) ?_
        obtain ⟨q_17, k_16, b_18⟩ := op_20 hI i_15
        refine k_aald hx hb hK hI i_15.1 4 k_16 rfl (vp_in_iff.mpr (by omega)) b_18 (fun _ hj => kw_20 hG i_15 hj) dX6_atWeight_17 (fun a_19 i_20 => ?_)
        obtain ⟨x_22, x_23, x_24, x_25, x_26, x_27, x_28, x_29, x_30, x_31, x_32, x_33, x_34, x_35, x_36, x_37, k_21⟩ := op_8 hI i_20
        refine va_calli (va_runV (As := []) (rest := []) ⟨hx, hb, hml, hown, hts⟩ (c_X8_isOn l dC dI g A hG f a_19 i_20) (cwV 0 hts (gi_V (fun w_ h0_ => ⟨List.mem_cons_of_mem _ (List.mem_append_right _ (List.mem_append_right _ (List.mem_append_left _ h0_))), (tb_c_X8_isOn w_ h0_).2⟩) (List.mem_cons_of_mem _ (List.mem_append_left _ (List.mem_of_getElem? (i := 2) rfl))) (List.mem_cons_of_mem _ (List.mem_append_left _ (List.mem_of_getElem? (i := 3) rfl))) (List.mem_cons_of_mem _ (List.mem_append_left _ (List.mem_of_getElem? (i := 4) rfl))) (List.mem_cons_of_mem _ (List.mem_append_left _ (List.mem_of_getElem? (i := 5) rfl)))) rfl rfl rfl (by decide +kernel) ⟨Nat.le_of_ble_eq_true rfl, Nat.le_of_ble_eq_true rfl⟩) ⟨fun a U g mk q => ⟨q.1, q.2.calling rfl rfl⟩, k_recv hK hI i_20.1 k_21 (ci := 8) rfl, fun U hU hW => ⟨rfl, kIn.of hI hK hE hS hU hW⟩⟩ rfl rfl hl.1 rfl (lv_room (Nat.le_of_ble_eq_true rfl)) dX6_atWeight_18 ⟨Nat.le_of_ble_eq_true rfl, Nat.le_of_ble_eq_true rfl⟩) hS (fun q _ h => h) (fun q h => h) (fun r_39 u t H1 locs ht hvm w_38 hB hz1 hk1 hS => ?_)
        have hI : Iv dC dI g A f t.heap := hB
        rw [ht] at hI
        generalize H1 = H at hI hS ⊢
        refine W.widen (k := 0) (n := 0) (Nat.le_of_ble_eq_true rfl) (Nat.le_of_ble_eq_true rfl) ?_
        have J_42 : ∀ (y_40 : Int32) (H : Heap) (locs : List Loc) (ls : Array Slot), Iv dC dI g A f H → va_S A s.heap H locs → lv_has ls 4 [(3, .int y_1), (2, .int y_40), (0, .ref h0), (1, .int p1)] → W p l e (headSpec wq_c_X6_atWeight ({ frames := 1, cells := 0, slots := 0, locals := 20 } : Room)).room s m ([.ref h0, .int p1].toArray) below meth c H locs 0 0 (MQ below (va_Qi (fun (r : Int32) (_ : Unit) => True) (fun (_ : Unit) t => Iv dC dI g A f t.heap) A) ([.ref h0, .int p1].toArray) s 0 0 A) (F0 m 42 ls []) := by
          intro y_40 H locs ls hI hS  hl
          obtain ⟨v_41, ev_41⟩ : ∃ y : Int32, y = y_1 + Int32.ofInt 1 := ⟨_, rfl⟩
          refine lv_iinc (v := v_41) (lv' := [(3, .int v_41), (2, .int y_40), (0, .ref h0), (1, .int p1)]) hx hb dX6_atWeight_42 hl (k := 0) rfl ev_41.symm (by decide) rfl (fun ls hl => ?_)
          have tv_41 := k_inc y_1
          rw [← ev_41] at tv_41
          refine lv_goto (tgt := 4) hx hb dX6_atWeight_45 (by decide) ?_
          exact ih v_41 y_40 _ _ _ (by omega) hI hS (by omega) (lv_sub hl [0, 1, 2, 3] rfl)
        refine lv_if_eq (tgt := 42) hx hb dX6_atWeight_21 (by decide) (fun c_42 => ?_) (fun c_42 => ?_)
        · have c_42 := kc_eq rfl (by decide : Int32.toInt 0 = 0) c_42
          exact J_42 y_2 _ _ _ hI hS  (lv_sub hl [0, 1, 2, 3] rfl)
        · have c_42 := kn_eq rfl (by decide : Int32.toInt 0 = 0) c_42
          refine lv_iload_n hx hb dX6_atWeight_24 rfl (lv_at hl 1 rfl) ?_
          refine lv_aload_n hx hb dX6_atWeight_25 rfl (lv_at hl 2 rfl) ?_
          refine k_get (ci := 6) (v := .ref (gr g h0 1)) (C := RX6) (T := TX6) (N := 10) hx hb hts (fun _ h0_ => List.mem_cons_of_mem _ (List.mem_append_right _ (List.mem_append_left _ h0_))) hown hK hI i_h0.1 k_5 rfl 1 (by decide) (hts (.fieldLink RX6 11 "DeadlineShare$State" "tasks" "[LDeadlineShare$Task;") (List.mem_cons_of_mem _ (List.mem_append_left _ (List.mem_of_getElem? (i := 1) rfl)))) (fun _ h9 => h9) rfl dX6_atWeight_26 ?_
          refine lv_iload_n hx hb dX6_atWeight_29 rfl (lv_at hl 0 rfl) ?_
          refine k_aald hx hb hK hI i_15.1 4 k_16 rfl (vp_in_iff.mpr (by omega)) b_18 (fun _ hj => kw_20 hG i_15 hj) dX6_atWeight_30 (fun a_45 i_46 => ?_)
          obtain ⟨x_48, x_49, x_50, x_51, x_52, x_53, x_54, x_55, x_56, x_57, x_58, x_59, x_60, x_61, x_62, x_63, k_47⟩ := op_8 hI i_46
          refine k_get (ci := 8) (v := .int x_49) (C := RX8) (T := TX8) (N := 18) hx hb hts (fun _ h0_ => List.mem_cons_of_mem _ (List.mem_append_right _ (List.mem_append_right _ (List.mem_append_right _ (List.mem_append_left _ h0_))))) hown hK hI i_46.1 k_47 rfl 2 (by decide) (hts (.fieldLink RX6 72 "DeadlineShare$Task" "weight" "I") (List.mem_cons_of_mem _ (List.mem_append_left _ (List.mem_of_getElem? (i := 6) rfl)))) (fun _ h9 => h9) rfl dX6_atWeight_31 ?_
          refine lv_isub hx hb dX6_atWeight_34 ?_
          refine lv_topi (fun v_64 ev_64 => ?_)
          have tv_64 := k_sb y_2 x_49
          rw [← ev_64] at tv_64
          refine lv_istore_n (lv' := [(2, .int v_64), (3, .int y_1), (0, .ref h0), (1, .int p1)]) hx hb dX6_atWeight_35 rfl hl (by decide) rfl (fun ls hl => ?_)
          refine lv_iload_n hx hb dX6_atWeight_36 rfl (lv_at hl 0 rfl) ?_
          refine lv_if_ge (tgt := 42) hx hb dX6_atWeight_37 (by decide) (fun c_65 => ?_) (fun c_65 => ?_)
          · have c_65 := kc_le (by decide : Int32.toInt 0 = 0) rfl c_65
            exact J_42 v_64 _ _ _ hI hS  (lv_sub hl [1, 0, 2, 3] rfl)
          · have c_65 := kn_le (by decide : Int32.toInt 0 = 0) rfl c_65
            refine lv_iload_n hx hb dX6_atWeight_40 rfl (lv_at hl 1 rfl) ?_
            exact W.iret (v := y_1) hx hb hr (fun t ht hW => ⟨⟨y_1, (), rfl, trivial, by rw [ht]; exact hI⟩, hS.F ht⟩) hS.2.2 dX6_atWeight_41
  exact K_4 _ 0 p1 _ _ _ (Nat.lt_succ_self _) hI hS (by omega) (lv_sub hl [0, 1, 2, 3] rfl)
theorem tu_X0 : ∀ w ∈ u_ws RX0 TX0 3, q_g w := by
  intro w h
  unfold u_ws at h
  obtain ⟨j, hj, rfl⟩ := List.mem_map.mp h
  have hj := List.mem_range.mp hj
  match j, hj with
  | 0, _ => exact ⟨(List.mem_append_right _ (List.mem_of_getElem? (i := 275) (by decide +kernel))), good_of_word (by decide +kernel)⟩
  | 1, _ => exact ⟨(List.mem_append_right _ (List.mem_of_getElem? (i := 277) (by decide +kernel))), good_of_word (by decide +kernel)⟩
  | 2, _ => exact ⟨(List.mem_append_right _ (List.mem_of_getElem? (i := 279) (by decide +kernel))), good_of_word (by decide +kernel)⟩
  | (j9 + 3), h9 => exact absurd h9 (by omega)
theorem tw_29 : q_g (.selects RX6 yX6_atWeight yX6_atWeight) := ⟨(List.mem_append_right _ (List.mem_of_getElem? (i := 834) (by decide +kernel))), good_of_word (by decide +kernel)⟩
theorem tw_30 : q_g (.instanceMethod yX6_atWeight) := ⟨(List.mem_append_right _ (List.mem_of_getElem? (i := 833) (by decide +kernel))), good_of_word (by decide +kernel)⟩
theorem tw_31 : q_g (.methodLink RX0 60 yX6_atWeight) := ⟨(List.mem_append_right _ (List.mem_of_getElem? (i := 832) (by decide +kernel))), good_of_word (by decide +kernel)⟩
theorem tw_32 : q_g (.constantLong RX0 58 (1000003)) := ⟨(List.mem_append_right _ (List.mem_of_getElem? (i := 831) (by decide +kernel))), good_of_word (by decide +kernel)⟩
theorem tw_33 : q_g (.constantLong RX0 56 (12345)) := ⟨(List.mem_append_right _ (List.mem_of_getElem? (i := 830) (by decide +kernel))), good_of_word (by decide +kernel)⟩
theorem tw_34 : q_g (.fieldLink RX0 24 "DeadlineShare$Chooser" "drawn" "J") := ⟨(List.mem_append_right _ (List.mem_of_getElem? (i := 274) (by decide +kernel))), good_of_word (by decide +kernel)⟩
theorem tw_35 : q_g (.constantLong RX0 54 (1103)) := ⟨(List.mem_append_right _ (List.mem_of_getElem? (i := 829) (by decide +kernel))), good_of_word (by decide +kernel)⟩
theorem tw_36 : q_g (.initialized RX6) := ⟨(List.mem_append_right _ (List.mem_of_getElem? (i := 6) (by decide +kernel))), good_of_word (by decide +kernel)⟩
theorem tw_37 : q_g (.selects RX6 yX6_weightOfAll yX6_weightOfAll) := ⟨(List.mem_append_right _ (List.mem_of_getElem? (i := 493) (by decide +kernel))), good_of_word (by decide +kernel)⟩
theorem tw_38 : q_g (.instanceMethod yX6_weightOfAll) := ⟨(List.mem_append_right _ (List.mem_of_getElem? (i := 492) (by decide +kernel))), good_of_word (by decide +kernel)⟩
theorem tw_39 : q_g (.methodLink RX0 51 yX6_weightOfAll) := ⟨(List.mem_append_right _ (List.mem_of_getElem? (i := 828) (by decide +kernel))), good_of_word (by decide +kernel)⟩
theorem tw_40 : q_g (.code yX0_byDraw cX0_byDraw 3 (some .int)) := ⟨(List.mem_append_right _ (List.mem_of_getElem? (i := 827) (by decide +kernel))), good_of_word (by decide +kernel)⟩
def ow_c_X0_byDraw : List Cond := [.methodLink RX0 51 yX6_weightOfAll, .instanceMethod yX6_weightOfAll, .selects RX6 yX6_weightOfAll yX6_weightOfAll, .initialized RX6, .constantLong RX0 54 (1103), .fieldLink RX0 24 "DeadlineShare$Chooser" "drawn" "J", .constantLong RX0 56 (12345), .constantLong RX0 58 (1000003), .methodLink RX0 60 yX6_atWeight, .instanceMethod yX6_atWeight, .selects RX6 yX6_atWeight yX6_atWeight]
def wq_c_X0_byDraw : List Cond := .code yX0_byDraw cX0_byDraw 3 (some .int) :: (ow_c_X0_byDraw ++ (wq_c_X6_weightOfAll ++ (u_ws RX0 TX0 3 ++ (wq_c_X6_atWeight ++ ([] : List Cond)))))
theorem tb_c_X0_byDraw : ∀ w ∈ wq_c_X0_byDraw, q_g w := by
  unfold wq_c_X0_byDraw ow_c_X0_byDraw
  exact q_cons tw_40 (q_app (q_cons tw_39 (q_cons tw_38 (q_cons tw_37 (q_cons tw_36 (q_cons tw_35 (q_cons tw_34 (q_cons tw_33 (q_cons tw_32 (q_cons tw_31 (q_cons tw_30 (q_cons tw_29 q_nil))))))))))) (q_app tb_c_X6_weightOfAll (q_app tu_X0 (q_app tb_c_X6_atWeight q_nil))))
set_option maxHeartbeats 4000000 in
set_option maxRecDepth 100000 in
theorem c_X0_byDraw (l : Launch) (dC : Nat → ClassId) (dI : Nat → Nat → Nat) (g : kG) (A : Nat → Prop) (hG : kWf g) (f : Nat → va_E) (h0 : Nat) (p1 : Nat) (i_h0 : ik g 0 h0) (i_p1 : ik g 6 p1) : Met l yX0_byDraw wq_c_X0_byDraw ({ frames := 2, cells := 0, slots := 0, locals := 43 } : Room) (va_Pc [.ref h0, .ref p1] (fun U => kIn dC dI g A f U)) (va_Qi (fun (r : Int32) (_ : Unit) => True) (fun (_ : Unit) t => ∃ f1 : Nat → va_E, Iv dC dI g A f1 t.heap ∧ Kp g [0] f f1) A) 0 0 A := by
  refine Met.ofW (cc := cX0_byDraw) (maxL := 3) (ret := (some .int)) (by decide) rfl ?_
  intro p e s m args below meth c s₁ B hml hv
  obtain ⟨rfl, hI, hK, hE⟩ := hv
  have hx := B.exec
  have hb := B.bytes
  have hr := B.returns
  have hts := atoms_spec (ws := wq_c_X0_byDraw) B.pre
  have hown : s.vm.findClass RX0 = some m.cls := findClass_of_methodNamed B.named
  have hlocks := B.notSynchronized
  have hS : va_S A s.heap s.heap [] := va_S.rf
  have hk0 : Kp g [0] f f := Kp.rf
  have hl := lv_entry ([.ref h0, .ref p1]) (n := 3) (Nat.le_of_ble_eq_true rfl)
  rw [lg_entry_eq]
  generalize (lg_sl ([.ref h0, .ref p1]) ++ List.replicate (3 - (lg_sl ([.ref h0, .ref p1])).length) Slot.unset).toArray = ls at hl ⊢
  have hl : lv_has ls 3 [(0, .ref h0), (1, .ref p1)] := hl
  refine lv_aload_n hx hb dX0_byDraw_0 rfl (lv_at hl 1 rfl) ?_
  obtain ⟨x_2, x_3, x_4, x_5, x_6, k_1, b_7, b_8⟩ := op_6 hI i_p1
  refine va_calli (va_runV (As := []) (rest := []) ⟨hx, hb, hml, hown, hts⟩ (c_X6_weightOfAll l dC dI g A hG f p1 i_p1) (cwV 0 hts (gi_V (fun w_ h0_ => ⟨List.mem_cons_of_mem _ (List.mem_append_right _ (List.mem_append_left _ h0_)), (tb_c_X6_weightOfAll w_ h0_).2⟩) (List.mem_cons_of_mem _ (List.mem_append_left _ (List.mem_of_getElem? (i := 0) rfl))) (List.mem_cons_of_mem _ (List.mem_append_left _ (List.mem_of_getElem? (i := 1) rfl))) (List.mem_cons_of_mem _ (List.mem_append_left _ (List.mem_of_getElem? (i := 2) rfl))) (List.mem_cons_of_mem _ (List.mem_append_left _ (List.mem_of_getElem? (i := 3) rfl)))) rfl rfl rfl (by decide +kernel) ⟨Nat.le_of_ble_eq_true rfl, Nat.le_of_ble_eq_true rfl⟩) ⟨fun a U g mk q => ⟨q.1, q.2.calling rfl rfl⟩, k_recv hK hI i_p1.1 k_1 (ci := 6) rfl, fun U hU hW => ⟨rfl, kIn.of hI hK hE hS hU hW⟩⟩ rfl rfl hl.1 rfl (lv_room (Nat.le_of_ble_eq_true rfl)) dX0_byDraw_1 ⟨Nat.le_of_ble_eq_true rfl, Nat.le_of_ble_eq_true rfl⟩) hS (fun q _ h => h) (fun q h => h) (fun r_10 u t H1 locs ht hvm w_9 hB hz1 hk1 hS => ?_)
  have hI : Iv dC dI g A f t.heap := hB
  rw [ht] at hI
  generalize H1 = H at hI hS ⊢
  refine W.widen (k := 0) (n := 0) (Nat.le_of_ble_eq_true rfl) (Nat.le_of_ble_eq_true rfl) ?_
  refine lv_istore_n (lv' := [(2, .int r_10), (0, .ref h0), (1, .ref p1)]) hx hb dX0_byDraw_4 rfl hl (by decide) rfl (fun ls hl => ?_)
  refine lv_iload_n hx hb dX0_byDraw_5 rfl (lv_at hl 0 rfl) ?_
  refine lv_if_gt (tgt := 11) hx hb dX0_byDraw_6 (by decide) (fun c_11 => ?_) (fun c_11 => ?_)
  · have c_11 := kc_lt (by decide : Int32.toInt 0 = 0) rfl c_11
    refine lv_aload_n hx hb dX0_byDraw_11 rfl (lv_at hl 1 rfl) ?_
    refine lv_ldc2 hx hb hown (hts (.constantLong RX0 54 (1103)) (List.mem_cons_of_mem _ (List.mem_append_left _ (List.mem_of_getElem? (i := 4) rfl)))) dX0_byDraw_12 ?_
    refine lv_aload_n hx hb dX0_byDraw_15 rfl (lv_at hl 1 rfl) ?_
    obtain ⟨x_13, x_14, k_12⟩ := op_0 hI i_h0
    refine k_get (ci := 0) (v := .long x_14) (C := RX0) (T := TX0) (N := 3) hx hb hts (fun _ h0_ => List.mem_cons_of_mem _ (List.mem_append_right _ (List.mem_append_right _ (List.mem_append_left _ h0_)))) hown hK hI i_h0.1 k_12 rfl 2 (by decide) (hts (.fieldLink RX0 24 "DeadlineShare$Chooser" "drawn" "J") (List.mem_cons_of_mem _ (List.mem_append_left _ (List.mem_of_getElem? (i := 5) rfl)))) (fun _ h9 => h9) rfl dX0_byDraw_16 ?_
    refine lv_lmul hx hb dX0_byDraw_19 ?_
    refine lv_topl (fun v_15 ev_15 => ?_)
    refine lv_ldc2 hx hb hown (hts (.constantLong RX0 56 (12345)) (List.mem_cons_of_mem _ (List.mem_append_left _ (List.mem_of_getElem? (i := 6) rfl)))) dX0_byDraw_20 ?_
    refine lv_ladd hx hb dX0_byDraw_23 ?_
    refine lv_topl (fun v_16 ev_16 => ?_)
    refine lv_ldc2 hx hb hown (hts (.constantLong RX0 58 (1000003)) (List.mem_cons_of_mem _ (List.mem_append_left _ (List.mem_of_getElem? (i := 7) rfl)))) dX0_byDraw_24 ?_
    refine lv_lrem hx hb dX0_byDraw_27 (by decide) ?_
    refine lv_topl (fun v_17 ev_17 => ?_)
    refine k_put (ci := 0) (v := .long v_17) (ty := .long) (C := RX0) (T := TX0) (N := 3) hx hb hts (fun _ h0_ => List.mem_cons_of_mem _ (List.mem_append_right _ (List.mem_append_right _ (List.mem_append_left _ h0_)))) tyX0 tyX0_ok nmX0 hown hK hI hS i_h0.1 k_12 rfl 2 (by decide) (hts (.fieldLink RX0 24 "DeadlineShare$Chooser" "drawn" "J") (List.mem_cons_of_mem _ (List.mem_append_left _ (List.mem_of_getElem? (i := 5) rfl)))) (fun _ h9 => h9) rfl (by decide +kernel) rfl rfl (Nat.le_of_ble_eq_true rfl) rfl (cl_0 i_h0) dX0_byDraw_28 (fun f_18 H locs e_19 hI hS => ?_)
    have k_21 : f_18 p1 = .inr (6, [.ref (gr g p1 0), .ref (gr g p1 1), .ref (gr g p1 2), .ref (gr g p1 3), .ref (gr g p1 4), .int x_2, .int x_3, .long x_4, .int x_5, .int x_6]) := by rw [e_19, va_up_ne _ _ (ik_ne i_p1 i_h0 (by decide))]; exact k_1
    have k_22 : f_18 h0 = .inr (0, [.ref (gr g h0 0), .int x_13, .long v_17]) := by rw [e_19]; exact va_up_self _ _ _
    have kp_20 := Kp.put hk0 i_h0 (by decide) e_19
    refine lv_aload_n hx hb dX0_byDraw_31 rfl (lv_at hl 2 rfl) ?_
    refine lv_aload_n hx hb dX0_byDraw_32 rfl (lv_at hl 1 rfl) ?_
    refine k_get (ci := 0) (v := .long v_17) (C := RX0) (T := TX0) (N := 3) hx hb hts (fun _ h0_ => List.mem_cons_of_mem _ (List.mem_append_right _ (List.mem_append_right _ (List.mem_append_left _ h0_)))) hown hK hI i_h0.1 k_22 rfl 2 (by decide) (hts (.fieldLink RX0 24 "DeadlineShare$Chooser" "drawn" "J") (List.mem_cons_of_mem _ (List.mem_append_left _ (List.mem_of_getElem? (i := 5) rfl)))) (fun _ h9 => h9) rfl dX0_byDraw_33 ?_
    refine lv_iload_n hx hb dX0_byDraw_36 rfl (lv_at hl 0 rfl) ?_
    refine lv_i2l (v := r_10.toInt64) hx hb dX0_byDraw_37 rfl ?_
    refine lv_lrem hx hb dX0_byDraw_38 (k_ne0L (by omega)) ?_
    refine lv_topl (fun v_23 ev_23 => ?_)
    refine lv_l2i (v := v_23.toInt32) hx hb dX0_byDraw_39 rfl ?_
    refine va_calli (va_runV (As := [.int v_23.toInt32]) (rest := []) ⟨hx, hb, hml, hown, hts⟩ (c_X6_atWeight l dC dI g A hG f_18 p1 v_23.toInt32 i_p1) (cwV 1 hts (gi_V (fun w_ h0_ => ⟨List.mem_cons_of_mem _ (List.mem_append_right _ (List.mem_append_right _ (List.mem_append_right _ (List.mem_append_left _ h0_)))), (tb_c_X6_atWeight w_ h0_).2⟩) (List.mem_cons_of_mem _ (List.mem_append_left _ (List.mem_of_getElem? (i := 8) rfl))) (List.mem_cons_of_mem _ (List.mem_append_left _ (List.mem_of_getElem? (i := 9) rfl))) (List.mem_cons_of_mem _ (List.mem_append_left _ (List.mem_of_getElem? (i := 10) rfl))) (List.mem_cons_of_mem _ (List.mem_append_left _ (List.mem_of_getElem? (i := 3) rfl)))) rfl rfl rfl (by decide +kernel) ⟨Nat.le_of_ble_eq_true rfl, Nat.le_of_ble_eq_true rfl⟩) ⟨fun a U g mk q => ⟨q.1, q.2.calling rfl rfl⟩, k_recv hK hI i_p1.1 k_21 (ci := 6) rfl, fun U hU hW => ⟨rfl, kIn.of hI hK hE hS hU hW⟩⟩ rfl rfl hl.1 rfl (lv_room (Nat.le_of_ble_eq_true rfl)) dX0_byDraw_40 ⟨Nat.le_of_ble_eq_true rfl, Nat.le_of_ble_eq_true rfl⟩) hS (fun q _ h => h) (fun q h => h) (fun r_25 u t H1 locs ht hvm w_24 hB hz1 hk1 hS => ?_)
    have hI : Iv dC dI g A f_18 t.heap := hB
    rw [ht] at hI
    generalize H1 = H at hI hS ⊢
    refine W.widen (k := 0) (n := 0) (Nat.le_of_ble_eq_true rfl) (Nat.le_of_ble_eq_true rfl) ?_
    exact W.iret (v := r_25) hx hb hr (fun t ht hW => ⟨⟨r_25, (), rfl, trivial, ⟨f_18, by rw [ht]; exact hI, kp_20⟩⟩, hS.F ht⟩) hS.2.2 dX0_byDraw_43
  · have c_11 := kn_lt (by decide : Int32.toInt 0 = 0) rfl c_11
    refine lv_iconst (v := (-1)) hx hb dX0_byDraw_9 (by decide) ?_
    exact W.iret (v := (-1)) hx hb hr (fun t ht hW => ⟨⟨(-1), (), rfl, trivial, ⟨f, by rw [ht]; exact hI, hk0⟩⟩, hS.F ht⟩) hS.2.2 dX0_byDraw_10
theorem tu_X5 : ∀ w ∈ u_ws RX5 TX5 5, q_g w := by
  intro w h
  unfold u_ws at h
  obtain ⟨j, hj, rfl⟩ := List.mem_map.mp h
  have hj := List.mem_range.mp hj
  match j, hj with
  | 0, _ => exact ⟨(List.mem_append_right _ (List.mem_of_getElem? (i := 88) (by decide +kernel))), good_of_word (by decide +kernel)⟩
  | 1, _ => exact ⟨(List.mem_append_right _ (List.mem_of_getElem? (i := 90) (by decide +kernel))), good_of_word (by decide +kernel)⟩
  | 2, _ => exact ⟨(List.mem_append_right _ (List.mem_of_getElem? (i := 92) (by decide +kernel))), good_of_word (by decide +kernel)⟩
  | 3, _ => exact ⟨(List.mem_append_right _ (List.mem_of_getElem? (i := 94) (by decide +kernel))), good_of_word (by decide +kernel)⟩
  | 4, _ => exact ⟨(List.mem_append_right _ (List.mem_of_getElem? (i := 96) (by decide +kernel))), good_of_word (by decide +kernel)⟩
  | (j9 + 5), h9 => exact absurd h9 (by omega)
theorem tw_41 : q_g (.fieldLink RX5 38 "DeadlineShare$Script" "timesBack" "I") := ⟨(List.mem_append_right _ (List.mem_of_getElem? (i := 87) (by decide +kernel))), good_of_word (by decide +kernel)⟩
theorem tw_42 : q_g (.fieldLink RX5 35 "DeadlineShare$Script" "toRun" "I") := ⟨(List.mem_append_right _ (List.mem_of_getElem? (i := 84) (by decide +kernel))), good_of_word (by decide +kernel)⟩
theorem tw_43 : q_g (.fieldLink RX5 32 "DeadlineShare$Script" "at" "I") := ⟨(List.mem_append_right _ (List.mem_of_getElem? (i := 81) (by decide +kernel))), good_of_word (by decide +kernel)⟩
theorem tw_44 : q_g (.fieldLink RX5 28 "DeadlineShare$Script" "size" "I") := ⟨(List.mem_append_right _ (List.mem_of_getElem? (i := 79) (by decide +kernel))), good_of_word (by decide +kernel)⟩
theorem tw_45 : q_g (.initialized "java/lang/System") := ⟨(List.mem_append_right _ (List.mem_of_getElem? (i := 14) (by decide +kernel))), good_of_word (by decide +kernel)⟩
theorem tw_46 : q_g (.static arraycopyName) := ⟨(List.mem_append_right _ (List.mem_of_getElem? (i := 440) (by decide +kernel))), good_of_word (by decide +kernel)⟩
theorem tw_47 : q_g (.native arraycopyName) := ⟨(List.mem_append_right _ (List.mem_of_getElem? (i := 441) (by decide +kernel))), good_of_word (by decide +kernel)⟩
theorem tw_48 : q_g (.methodLink RX5 41 arraycopyName) := ⟨(List.mem_append_right _ (List.mem_of_getElem? (i := 439) (by decide +kernel))), good_of_word (by decide +kernel)⟩
theorem tw_49 : q_g (.fieldLink RX5 11 "DeadlineShare$Script" "steps" "[I") := ⟨(List.mem_append_right _ (List.mem_of_getElem? (i := 78) (by decide +kernel))), good_of_word (by decide +kernel)⟩
theorem tw_50 : q_g (.code yX5_copy cX5_copy 2 none) := ⟨(List.mem_append_right _ (List.mem_of_getElem? (i := 438) (by decide +kernel))), good_of_word (by decide +kernel)⟩
def ow_c_X5_copy : List Cond := [.fieldLink RX5 11 "DeadlineShare$Script" "steps" "[I", .methodLink RX5 41 arraycopyName, .native arraycopyName, .static arraycopyName, .initialized "java/lang/System", .fieldLink RX5 28 "DeadlineShare$Script" "size" "I", .fieldLink RX5 32 "DeadlineShare$Script" "at" "I", .fieldLink RX5 35 "DeadlineShare$Script" "toRun" "I", .fieldLink RX5 38 "DeadlineShare$Script" "timesBack" "I"]
def wq_c_X5_copy : List Cond := .code yX5_copy cX5_copy 2 none :: (ow_c_X5_copy ++ (u_ws RX5 TX5 5 ++ ([] : List Cond)))
theorem tb_c_X5_copy : ∀ w ∈ wq_c_X5_copy, q_g w := by
  unfold wq_c_X5_copy ow_c_X5_copy
  exact q_cons tw_50 (q_app (q_cons tw_49 (q_cons tw_48 (q_cons tw_47 (q_cons tw_46 (q_cons tw_45 (q_cons tw_44 (q_cons tw_43 (q_cons tw_42 (q_cons tw_41 q_nil))))))))) (q_app tu_X5 q_nil))
set_option maxHeartbeats 4000000 in
set_option maxRecDepth 100000 in
theorem c_X5_copy (l : Launch) (dC : Nat → ClassId) (dI : Nat → Nat → Nat) (g : kG) (A : Nat → Prop) (hG : kWf g) (f : Nat → va_E) (h0 : Nat) (p1 : Nat) (i_h0 : ik g 5 h0) (i_p1 : ik g 5 p1) : Met l yX5_copy wq_c_X5_copy ({ frames := 1, cells := 0, slots := 0, locals := 40 } : Room) (va_Pc [.ref h0, .ref p1] (fun U => kIn dC dI g A f U)) (va_Qv (fun (_ : Unit) => True) (fun (_ : Unit) t => ∃ f1 : Nat → va_E, Iv dC dI g A f1 t.heap ∧ Kp g [5, 24] f f1) A) 0 0 A := by
  refine Met.ofW (cc := cX5_copy) (maxL := 2) (ret := none) (by decide) rfl ?_
  intro p e s m args below meth c s₁ B hml hv
  obtain ⟨rfl, hI, hK, hE⟩ := hv
  have hx := B.exec
  have hb := B.bytes
  have hr := B.returns
  have hts := atoms_spec (ws := wq_c_X5_copy) B.pre
  have hown : s.vm.findClass RX5 = some m.cls := findClass_of_methodNamed B.named
  have hlocks := B.notSynchronized
  have hS : va_S A s.heap s.heap [] := va_S.rf
  have hk0 : Kp g [5, 24] f f := Kp.rf
  have hl := lv_entry ([.ref h0, .ref p1]) (n := 2) (Nat.le_of_ble_eq_true rfl)
  rw [lg_entry_eq]
  generalize (lg_sl ([.ref h0, .ref p1]) ++ List.replicate (2 - (lg_sl ([.ref h0, .ref p1])).length) Slot.unset).toArray = ls at hl ⊢
  have hl : lv_has ls 2 [(0, .ref h0), (1, .ref p1)] := hl
  refine lv_aload_n hx hb dX5_copy_0 rfl (lv_at hl 1 rfl) ?_
  obtain ⟨x_2, x_3, x_4, x_5, k_1, b_6, b_7⟩ := op_5 hI i_p1
  refine k_get (ci := 5) (v := .ref (gr g p1 0)) (C := RX5) (T := TX5) (N := 5) hx hb hts (fun _ h0_ => List.mem_cons_of_mem _ (List.mem_append_right _ (List.mem_append_left _ h0_))) hown hK hI i_p1.1 k_1 rfl 0 (by decide) (hts (.fieldLink RX5 11 "DeadlineShare$Script" "steps" "[I") (List.mem_cons_of_mem _ (List.mem_append_left _ (List.mem_of_getElem? (i := 0) rfl)))) (fun _ h9 => h9) rfl dX5_copy_1 ?_
  have i_9 := kw_5_0 hG i_p1
  refine lv_iconst (v := 0) hx hb dX5_copy_4 (by decide) ?_
  refine lv_aload_n hx hb dX5_copy_5 rfl (lv_at hl 0 rfl) ?_
  obtain ⟨x_11, x_12, x_13, x_14, k_10, b_15, b_16⟩ := op_5 hI i_h0
  refine k_get (ci := 5) (v := .ref (gr g h0 0)) (C := RX5) (T := TX5) (N := 5) hx hb hts (fun _ h0_ => List.mem_cons_of_mem _ (List.mem_append_right _ (List.mem_append_left _ h0_))) hown hK hI i_h0.1 k_10 rfl 0 (by decide) (hts (.fieldLink RX5 11 "DeadlineShare$Script" "steps" "[I") (List.mem_cons_of_mem _ (List.mem_append_left _ (List.mem_of_getElem? (i := 0) rfl)))) (fun _ h9 => h9) rfl dX5_copy_6 ?_
  have i_18 := kw_5_0 hG i_h0
  refine lv_iconst (v := 0) hx hb dX5_copy_9 (by decide) ?_
  refine lv_bipush (v := 8) hx hb dX5_copy_10 (by decide) ?_
  obtain ⟨q_20, k_19⟩ := op_24 hI i_9
  obtain ⟨q_22, k_21⟩ := op_24 hI i_18
  refine k_copyi hx hb (by rw [hml]; exact hl.1.symm) hown (hts (.methodLink RX5 41 arraycopyName) (List.mem_cons_of_mem _ (List.mem_append_left _ (List.mem_of_getElem? (i := 1) rfl)))) (hts (.native arraycopyName) (List.mem_cons_of_mem _ (List.mem_append_left _ (List.mem_of_getElem? (i := 2) rfl)))) (hts (.static arraycopyName) (List.mem_cons_of_mem _ (List.mem_append_left _ (List.mem_of_getElem? (i := 3) rfl)))) (hts (.initialized "java/lang/System") (List.mem_cons_of_mem _ (List.mem_append_left _ (List.mem_of_getElem? (i := 4) rfl)))) hK hI hS i_9.1 i_18.1 0 k_19 k_21 rfl rfl (by decide) (by decide) (by decide) (by decide) (by decide) (fun _ _ => rfl) (Nat.le_of_ble_eq_true rfl) (Nat.le_of_ble_eq_true rfl) (cl_24 i_18) dX5_copy_12 (fun f_23 H locs e_24 hI hS => ?_)
  generalize eq_25 : va_cpy q_20 q_22 (Int32.toNatClampNeg 0) (Int32.toNatClampNeg 0) (Int32.toNatClampNeg 8) = q_25 at e_24
  have k_27 : f_23 p1 = .inr (5, [.ref (gr g p1 0), .int x_2, .int x_3, .int x_4, .int x_5]) := by rw [e_24, va_up_ne _ _ (ik_ne i_p1 i_18 (by decide))]; exact k_1
  have k_28 : f_23 h0 = .inr (5, [.ref (gr g h0 0), .int x_11, .int x_12, .int x_13, .int x_14]) := by rw [e_24, va_up_ne _ _ (ik_ne i_h0 i_18 (by decide))]; exact k_10
  have k_29 : f_23 (gr g h0 0) = .inl (gc g 0, 8, .inl q_25) := by rw [e_24]; exact va_up_self _ _ _
  have kp_26 := Kp.put hk0 i_18 (by decide) e_24
  refine lv_aload_n hx hb dX5_copy_15 rfl (lv_at hl 0 rfl) ?_
  refine lv_aload_n hx hb dX5_copy_16 rfl (lv_at hl 1 rfl) ?_
  refine k_get (ci := 5) (v := .int x_2) (C := RX5) (T := TX5) (N := 5) hx hb hts (fun _ h0_ => List.mem_cons_of_mem _ (List.mem_append_right _ (List.mem_append_left _ h0_))) hown hK hI i_p1.1 k_27 rfl 1 (by decide) (hts (.fieldLink RX5 28 "DeadlineShare$Script" "size" "I") (List.mem_cons_of_mem _ (List.mem_append_left _ (List.mem_of_getElem? (i := 5) rfl)))) (fun _ h9 => h9) rfl dX5_copy_17 ?_
  have b_30 : 0 ≤ Int32.toInt x_2 ∧ Int32.toInt x_2 ≤ 8 := by omega
  refine k_put (ci := 5) (v := .int x_2) (ty := .int) (C := RX5) (T := TX5) (N := 5) hx hb hts (fun _ h0_ => List.mem_cons_of_mem _ (List.mem_append_right _ (List.mem_append_left _ h0_))) tyX5 tyX5_ok nmX5 hown hK hI hS i_h0.1 k_28 rfl 1 (by decide) (hts (.fieldLink RX5 28 "DeadlineShare$Script" "size" "I") (List.mem_cons_of_mem _ (List.mem_append_left _ (List.mem_of_getElem? (i := 5) rfl)))) (fun _ h9 => h9) rfl (by decide +kernel) rfl rfl (Nat.le_of_ble_eq_true rfl) rfl (cl_5 i_h0 b_30) dX5_copy_20 (fun f_31 H locs e_32 hI hS => ?_)
  have k_34 : f_31 h0 = .inr (5, [.ref (gr g h0 0), .int x_2, .int x_12, .int x_13, .int x_14]) := by rw [e_32]; exact va_up_self _ _ _
  have k_35 : f_31 (gr g h0 0) = .inl (gc g 0, 8, .inl q_25) := by rw [e_32, va_up_ne _ _ (ik_ne i_18 i_h0 (by decide))]; exact k_29
  have kp_33 := Kp.put kp_26 i_h0 (by decide) e_32
  refine lv_aload_n hx hb dX5_copy_23 rfl (lv_at hl 0 rfl) ?_
  refine lv_aload_n hx hb dX5_copy_24 rfl (lv_at hl 1 rfl) ?_
  obtain ⟨x_37, x_38, x_39, x_40, k_36, b_41, b_42⟩ := op_5 hI i_p1
  refine k_get (ci := 5) (v := .int x_38) (C := RX5) (T := TX5) (N := 5) hx hb hts (fun _ h0_ => List.mem_cons_of_mem _ (List.mem_append_right _ (List.mem_append_left _ h0_))) hown hK hI i_p1.1 k_36 rfl 2 (by decide) (hts (.fieldLink RX5 32 "DeadlineShare$Script" "at" "I") (List.mem_cons_of_mem _ (List.mem_append_left _ (List.mem_of_getElem? (i := 6) rfl)))) (fun _ h9 => h9) rfl dX5_copy_25 ?_
  refine k_put (ci := 5) (v := .int x_38) (ty := .int) (C := RX5) (T := TX5) (N := 5) hx hb hts (fun _ h0_ => List.mem_cons_of_mem _ (List.mem_append_right _ (List.mem_append_left _ h0_))) tyX5 tyX5_ok nmX5 hown hK hI hS i_h0.1 k_34 rfl 2 (by decide) (hts (.fieldLink RX5 32 "DeadlineShare$Script" "at" "I") (List.mem_cons_of_mem _ (List.mem_append_left _ (List.mem_of_getElem? (i := 6) rfl)))) (fun _ h9 => h9) rfl (by decide +kernel) rfl rfl (Nat.le_of_ble_eq_true rfl) rfl (cl_5 i_h0 (by omega)) dX5_copy_28 (fun f_43 H locs e_44 hI hS => ?_)
  have k_46 : f_43 h0 = .inr (5, [.ref (gr g h0 0), .int x_2, .int x_38, .int x_13, .int x_14]) := by rw [e_44]; exact va_up_self _ _ _
  have k_47 : f_43 (gr g h0 0) = .inl (gc g 0, 8, .inl q_25) := by rw [e_44, va_up_ne _ _ (ik_ne i_18 i_h0 (by decide))]; exact k_35
  have kp_45 := Kp.put kp_33 i_h0 (by decide) e_44
  refine lv_aload_n hx hb dX5_copy_31 rfl (lv_at hl 0 rfl) ?_
  refine lv_aload_n hx hb dX5_copy_32 rfl (lv_at hl 1 rfl) ?_
  obtain ⟨x_49, x_50, x_51, x_52, k_48, b_53, b_54⟩ := op_5 hI i_p1
  refine k_get (ci := 5) (v := .int x_51) (C := RX5) (T := TX5) (N := 5) hx hb hts (fun _ h0_ => List.mem_cons_of_mem _ (List.mem_append_right _ (List.mem_append_left _ h0_))) hown hK hI i_p1.1 k_48 rfl 3 (by decide) (hts (.fieldLink RX5 35 "DeadlineShare$Script" "toRun" "I") (List.mem_cons_of_mem _ (List.mem_append_left _ (List.mem_of_getElem? (i := 7) rfl)))) (fun _ h9 => h9) rfl dX5_copy_33 ?_
  refine k_put (ci := 5) (v := .int x_51) (ty := .int) (C := RX5) (T := TX5) (N := 5) hx hb hts (fun _ h0_ => List.mem_cons_of_mem _ (List.mem_append_right _ (List.mem_append_left _ h0_))) tyX5 tyX5_ok nmX5 hown hK hI hS i_h0.1 k_46 rfl 3 (by decide) (hts (.fieldLink RX5 35 "DeadlineShare$Script" "toRun" "I") (List.mem_cons_of_mem _ (List.mem_append_left _ (List.mem_of_getElem? (i := 7) rfl)))) (fun _ h9 => h9) rfl (by decide +kernel) rfl rfl (Nat.le_of_ble_eq_true rfl) rfl (cl_5 i_h0 (by omega)) dX5_copy_36 (fun f_55 H locs e_56 hI hS => ?_)
  have k_58 : f_55 h0 = .inr (5, [.ref (gr g h0 0), .int x_2, .int x_38, .int x_51, .int x_14]) := by rw [e_56]; exact va_up_self _ _ _
  have k_59 : f_55 (gr g h0 0) = .inl (gc g 0, 8, .inl q_25) := by rw [e_56, va_up_ne _ _ (ik_ne i_18 i_h0 (by decide))]; exact k_47
  have kp_57 := Kp.put kp_45 i_h0 (by decide) e_56
  refine lv_aload_n hx hb dX5_copy_39 rfl (lv_at hl 0 rfl) ?_
  refine lv_aload_n hx hb dX5_copy_40 rfl (lv_at hl 1 rfl) ?_
  obtain ⟨x_61, x_62, x_63, x_64, k_60, b_65, b_66⟩ := op_5 hI i_p1
  refine k_get (ci := 5) (v := .int x_64) (C := RX5) (T := TX5) (N := 5) hx hb hts (fun _ h0_ => List.mem_cons_of_mem _ (List.mem_append_right _ (List.mem_append_left _ h0_))) hown hK hI i_p1.1 k_60 rfl 4 (by decide) (hts (.fieldLink RX5 38 "DeadlineShare$Script" "timesBack" "I") (List.mem_cons_of_mem _ (List.mem_append_left _ (List.mem_of_getElem? (i := 8) rfl)))) (fun _ h9 => h9) rfl dX5_copy_41 ?_
  refine k_put (ci := 5) (v := .int x_64) (ty := .int) (C := RX5) (T := TX5) (N := 5) hx hb hts (fun _ h0_ => List.mem_cons_of_mem _ (List.mem_append_right _ (List.mem_append_left _ h0_))) tyX5 tyX5_ok nmX5 hown hK hI hS i_h0.1 k_58 rfl 4 (by decide) (hts (.fieldLink RX5 38 "DeadlineShare$Script" "timesBack" "I") (List.mem_cons_of_mem _ (List.mem_append_left _ (List.mem_of_getElem? (i := 8) rfl)))) (fun _ h9 => h9) rfl (by decide +kernel) rfl rfl (Nat.le_of_ble_eq_true rfl) rfl (cl_5 i_h0 (by omega)) dX5_copy_44 (fun f_67 H locs e_68 hI hS => ?_)
  have k_70 : f_67 h0 = .inr (5, [.ref (gr g h0 0), .int x_2, .int x_38, .int x_51, .int x_64]) := by rw [e_68]; exact va_up_self _ _ _
  have k_71 : f_67 (gr g h0 0) = .inl (gc g 0, 8, .inl q_25) := by rw [e_68, va_up_ne _ _ (ik_ne i_18 i_h0 (by decide))]; exact k_59
  have kp_69 := Kp.put kp_57 i_h0 (by decide) e_68
  exact W.vret hx hb hr (fun t ht hW => ⟨⟨(), rfl, trivial, ⟨f_67, by rw [ht]; exact hI, kp_69⟩⟩, hS.F ht⟩) hS.2.2 dX5_copy_47
theorem tw_51 : q_g (.code yX5_drop cX5_drop 1 none) := ⟨(List.mem_append_right _ (List.mem_of_getElem? (i := 465) (by decide +kernel))), good_of_word (by decide +kernel)⟩
def ow_c_X5_drop : List Cond := [.fieldLink RX5 28 "DeadlineShare$Script" "size" "I", .fieldLink RX5 32 "DeadlineShare$Script" "at" "I", .fieldLink RX5 35 "DeadlineShare$Script" "toRun" "I", .fieldLink RX5 38 "DeadlineShare$Script" "timesBack" "I"]
def wq_c_X5_drop : List Cond := .code yX5_drop cX5_drop 1 none :: (ow_c_X5_drop ++ (u_ws RX5 TX5 5 ++ ([] : List Cond)))
theorem tb_c_X5_drop : ∀ w ∈ wq_c_X5_drop, q_g w := by
  unfold wq_c_X5_drop ow_c_X5_drop
  exact q_cons tw_51 (q_app (q_cons tw_44 (q_cons tw_43 (q_cons tw_42 (q_cons tw_41 q_nil)))) (q_app tu_X5 q_nil))
set_option maxHeartbeats 4000000 in
set_option maxRecDepth 100000 in
theorem c_X5_drop (l : Launch) (dC : Nat → ClassId) (dI : Nat → Nat → Nat) (g : kG) (A : Nat → Prop) (hG : kWf g) (f : Nat → va_E) (h0 : Nat) (i_h0 : ik g 5 h0) : Met l yX5_drop wq_c_X5_drop ({ frames := 0, cells := 0, slots := 0, locals := 0 } : Room) (va_Pc [.ref h0] (fun U => kIn dC dI g A f U)) (va_Qv (fun (_ : Unit) => True) (fun (_ : Unit) t => ∃ f1 : Nat → va_E, Iv dC dI g A f1 t.heap ∧ Kp g [5] f f1) A) 0 0 A := by
  refine Met.ofW (cc := cX5_drop) (maxL := 1) (ret := none) (by decide) rfl ?_
  intro p e s m args below meth c s₁ B hml hv
  obtain ⟨rfl, hI, hK, hE⟩ := hv
  have hx := B.exec
  have hb := B.bytes
  have hr := B.returns
  have hts := atoms_spec (ws := wq_c_X5_drop) B.pre
  have hown : s.vm.findClass RX5 = some m.cls := findClass_of_methodNamed B.named
  have hlocks := B.notSynchronized
  have hS : va_S A s.heap s.heap [] := va_S.rf
  have hk0 : Kp g [5] f f := Kp.rf
  have hl := lv_entry ([.ref h0]) (n := 1) (Nat.le_of_ble_eq_true rfl)
  rw [lg_entry_eq]
  generalize (lg_sl ([.ref h0]) ++ List.replicate (1 - (lg_sl ([.ref h0])).length) Slot.unset).toArray = ls at hl ⊢
  have hl : lv_has ls 1 [(0, .ref h0)] := hl
  refine lv_aload_n hx hb dX5_drop_0 rfl (lv_at hl 0 rfl) ?_
  refine lv_iconst (v := 0) hx hb dX5_drop_1 (by decide) ?_
  obtain ⟨x_2, x_3, x_4, x_5, k_1, b_6, b_7⟩ := op_5 hI i_h0
  have b_8 : 0 ≤ Int32.toInt 0 ∧ Int32.toInt 0 ≤ 8 := (by decide)
  refine k_put (ci := 5) (v := .int 0) (ty := .int) (C := RX5) (T := TX5) (N := 5) hx hb hts (fun _ h0_ => List.mem_cons_of_mem _ (List.mem_append_right _ (List.mem_append_left _ h0_))) tyX5 tyX5_ok nmX5 hown hK hI hS i_h0.1 k_1 rfl 1 (by decide) (hts (.fieldLink RX5 28 "DeadlineShare$Script" "size" "I") (List.mem_cons_of_mem _ (List.mem_append_left _ (List.mem_of_getElem? (i := 0) rfl)))) (fun _ h9 => h9) rfl (by decide +kernel) rfl rfl (Nat.le_of_ble_eq_true rfl) rfl (cl_5 i_h0 b_8) dX5_drop_2 (fun f_9 H locs e_10 hI hS => ?_)
  have k_12 : f_9 h0 = .inr (5, [.ref (gr g h0 0), .int 0, .int x_3, .int x_4, .int x_5]) := by rw [e_10]; exact va_up_self _ _ _
  have kp_11 := Kp.put hk0 i_h0 (by decide) e_10
  refine lv_aload_n hx hb dX5_drop_5 rfl (lv_at hl 0 rfl) ?_
  refine lv_iconst (v := 0) hx hb dX5_drop_6 (by decide) ?_
  refine k_put (ci := 5) (v := .int 0) (ty := .int) (C := RX5) (T := TX5) (N := 5) hx hb hts (fun _ h0_ => List.mem_cons_of_mem _ (List.mem_append_right _ (List.mem_append_left _ h0_))) tyX5 tyX5_ok nmX5 hown hK hI hS i_h0.1 k_12 rfl 2 (by decide) (hts (.fieldLink RX5 32 "DeadlineShare$Script" "at" "I") (List.mem_cons_of_mem _ (List.mem_append_left _ (List.mem_of_getElem? (i := 1) rfl)))) (fun _ h9 => h9) rfl (by decide +kernel) rfl rfl (Nat.le_of_ble_eq_true rfl) rfl (cl_5 i_h0 (by omega)) dX5_drop_7 (fun f_13 H locs e_14 hI hS => ?_)
  have k_16 : f_13 h0 = .inr (5, [.ref (gr g h0 0), .int 0, .int 0, .int x_4, .int x_5]) := by rw [e_14]; exact va_up_self _ _ _
  have kp_15 := Kp.put kp_11 i_h0 (by decide) e_14
  refine lv_aload_n hx hb dX5_drop_10 rfl (lv_at hl 0 rfl) ?_
  refine lv_iconst (v := 0) hx hb dX5_drop_11 (by decide) ?_
  refine k_put (ci := 5) (v := .int 0) (ty := .int) (C := RX5) (T := TX5) (N := 5) hx hb hts (fun _ h0_ => List.mem_cons_of_mem _ (List.mem_append_right _ (List.mem_append_left _ h0_))) tyX5 tyX5_ok nmX5 hown hK hI hS i_h0.1 k_16 rfl 3 (by decide) (hts (.fieldLink RX5 35 "DeadlineShare$Script" "toRun" "I") (List.mem_cons_of_mem _ (List.mem_append_left _ (List.mem_of_getElem? (i := 2) rfl)))) (fun _ h9 => h9) rfl (by decide +kernel) rfl rfl (Nat.le_of_ble_eq_true rfl) rfl (cl_5 i_h0 (by omega)) dX5_drop_12 (fun f_17 H locs e_18 hI hS => ?_)
  have k_20 : f_17 h0 = .inr (5, [.ref (gr g h0 0), .int 0, .int 0, .int 0, .int x_5]) := by rw [e_18]; exact va_up_self _ _ _
  have kp_19 := Kp.put kp_15 i_h0 (by decide) e_18
  refine lv_aload_n hx hb dX5_drop_15 rfl (lv_at hl 0 rfl) ?_
  refine lv_iconst (v := 0) hx hb dX5_drop_16 (by decide) ?_
  refine k_put (ci := 5) (v := .int 0) (ty := .int) (C := RX5) (T := TX5) (N := 5) hx hb hts (fun _ h0_ => List.mem_cons_of_mem _ (List.mem_append_right _ (List.mem_append_left _ h0_))) tyX5 tyX5_ok nmX5 hown hK hI hS i_h0.1 k_20 rfl 4 (by decide) (hts (.fieldLink RX5 38 "DeadlineShare$Script" "timesBack" "I") (List.mem_cons_of_mem _ (List.mem_append_left _ (List.mem_of_getElem? (i := 3) rfl)))) (fun _ h9 => h9) rfl (by decide +kernel) rfl rfl (Nat.le_of_ble_eq_true rfl) rfl (cl_5 i_h0 (by omega)) dX5_drop_17 (fun f_21 H locs e_22 hI hS => ?_)
  have k_24 : f_21 h0 = .inr (5, [.ref (gr g h0 0), .int 0, .int 0, .int 0, .int 0]) := by rw [e_22]; exact va_up_self _ _ _
  have kp_23 := Kp.put kp_19 i_h0 (by decide) e_22
  exact W.vret hx hb hr (fun t ht hW => ⟨⟨(), rfl, trivial, ⟨f_21, by rw [ht]; exact hI, kp_23⟩⟩, hS.F ht⟩) hS.2.2 dX5_drop_20
theorem tw_52 : q_g (.code yX6_howManyAre cX6_howManyAre 4 (some .int)) := ⟨(List.mem_append_right _ (List.mem_of_getElem? (i := 1072) (by decide +kernel))), good_of_word (by decide +kernel)⟩
def ow_c_X6_howManyAre : List Cond := [.fieldLink RX6 48 "DeadlineShare$State" "count" "I", .fieldLink RX6 11 "DeadlineShare$State" "tasks" "[LDeadlineShare$Task;", .fieldLink RX6 69 "DeadlineShare$Task" "state" "I"]
def wq_c_X6_howManyAre : List Cond := .code yX6_howManyAre cX6_howManyAre 4 (some .int) :: (ow_c_X6_howManyAre ++ (u_ws RX6 TX6 10 ++ (u_ws RX8 TX8 18 ++ ([] : List Cond))))
theorem tb_c_X6_howManyAre : ∀ w ∈ wq_c_X6_howManyAre, q_g w := by
  unfold wq_c_X6_howManyAre ow_c_X6_howManyAre
  exact q_cons tw_52 (q_app (q_cons tw_15 (q_cons tw_13 (q_cons tw_12 q_nil))) (q_app tu_X6 (q_app tu_X8 q_nil)))
set_option maxHeartbeats 4000000 in
set_option maxRecDepth 100000 in
theorem c_X6_howManyAre (l : Launch) (dC : Nat → ClassId) (dI : Nat → Nat → Nat) (g : kG) (A : Nat → Prop) (hG : kWf g) (f : Nat → va_E) (h0 : Nat) (p1 : Int32) (i_h0 : ik g 6 h0) : Met l yX6_howManyAre wq_c_X6_howManyAre ({ frames := 0, cells := 0, slots := 0, locals := 0 } : Room) (va_Pc [.ref h0, .int p1] (fun U => kIn dC dI g A f U)) (va_Qi (fun (r : Int32) (_ : Unit) => True) (fun (_ : Unit) t => Iv dC dI g A f t.heap) A) 0 0 A := by
  refine Met.ofW (cc := cX6_howManyAre) (maxL := 4) (ret := (some .int)) (by decide) rfl ?_
  intro p e s m args below meth c s₁ B hml hv
  obtain ⟨rfl, hI, hK, hE⟩ := hv
  have hx := B.exec
  have hb := B.bytes
  have hr := B.returns
  have hts := atoms_spec (ws := wq_c_X6_howManyAre) B.pre
  have hown : s.vm.findClass RX6 = some m.cls := findClass_of_methodNamed B.named
  have hlocks := B.notSynchronized
  have hS : va_S A s.heap s.heap [] := va_S.rf
  have hl := lv_entry ([.ref h0, .int p1]) (n := 4) (Nat.le_of_ble_eq_true rfl)
  rw [lg_entry_eq]
  generalize (lg_sl ([.ref h0, .int p1]) ++ List.replicate (4 - (lg_sl ([.ref h0, .int p1])).length) Slot.unset).toArray = ls at hl ⊢
  have hl : lv_has ls 4 [(0, .ref h0), (1, .int p1)] := hl
  refine lv_iconst (v := 0) hx hb dX6_howManyAre_0 (by decide) ?_
  refine lv_istore_n (lv' := [(2, .int 0), (0, .ref h0), (1, .int p1)]) hx hb dX6_howManyAre_1 rfl hl (by decide) rfl (fun ls hl => ?_)
  refine lv_iconst (v := 0) hx hb dX6_howManyAre_2 (by decide) ?_
  refine lv_istore_n (lv' := [(3, .int 0), (2, .int 0), (0, .ref h0), (1, .int p1)]) hx hb dX6_howManyAre_3 rfl hl (by decide) rfl (fun ls hl => ?_)
  have K_4 : ∀ (nn : Nat) (y_1 : Int32) (y_2 : Int32) (H : Heap) (locs : List Loc) (ls : Array Slot), (12 - y_1.toInt).toNat < nn → Iv dC dI g A f H → va_S A s.heap H locs → 0 ≤ y_1.toInt → lv_has ls 4 [(3, .int y_1), (2, .int y_2), (0, .ref h0), (1, .int p1)] → W p l e (headSpec wq_c_X6_howManyAre ({ frames := 0, cells := 0, slots := 0, locals := 0 } : Room)).room s m ([.ref h0, .int p1].toArray) below meth c H locs 0 0 (MQ below (va_Qi (fun (r : Int32) (_ : Unit) => True) (fun (_ : Unit) t => Iv dC dI g A f t.heap) A) ([.ref h0, .int p1].toArray) s 0 0 A) (F0 m 4 ls []) := by
    intro nn
    induction nn with
    | zero => intro y_1 y_2 H locs ls m_4; exact absurd m_4 (Nat.not_lt_zero _)
    | succ nn ih =>
      intro y_1 y_2 H locs ls m_4 hI hS t_3 hl
      refine lv_iload_n hx hb dX6_howManyAre_4 rfl (lv_at hl 0 rfl) ?_
      refine lv_aload_n hx hb dX6_howManyAre_5 rfl (lv_at hl 2 rfl) ?_
      obtain ⟨x_6, x_7, x_8, x_9, x_10, k_5, b_11, b_12⟩ := op_6 hI i_h0
      refine k_get (ci := 6) (v := .int x_6) (C := RX6) (T := TX6) (N := 10) hx hb hts (fun _ h0_ => List.mem_cons_of_mem _ (List.mem_append_right _ (List.mem_append_left _ h0_))) hown hK hI i_h0.1 k_5 rfl 5 (by decide) (hts (.fieldLink RX6 48 "DeadlineShare$State" "count" "I") (List.mem_cons_of_mem _ (List.mem_append_left _ (List.mem_of_getElem? (i := 0) rfl)))) (fun _ h9 => h9) rfl dX6_howManyAre_6 ?_
      refine lv_icmp_ge (tgt := 34) hx hb dX6_howManyAre_9 (by decide) (fun c_13 => ?_) (fun c_13 => ?_)
      · have c_13 := kc_le rfl rfl c_13
        refine lv_iload_n hx hb dX6_howManyAre_34 rfl (lv_at hl 1 rfl) ?_
        exact W.iret (v := y_2) hx hb hr (fun t ht hW => ⟨⟨y_2, (), rfl, trivial, by rw [ht]; exact hI⟩, hS.F ht⟩) hS.2.2 dX6_howManyAre_35
      · have c_13 := kn_le rfl rfl c_13
        refine lv_aload_n hx hb dX6_howManyAre_12 rfl (lv_at hl 2 rfl) ?_
        refine k_get (ci := 6) (v := .ref (gr g h0 1)) (C := RX6) (T := TX6) (N := 10) hx hb hts (fun _ h0_ => List.mem_cons_of_mem _ (List.mem_append_right _ (List.mem_append_left _ h0_))) hown hK hI i_h0.1 k_5 rfl 1 (by decide) (hts (.fieldLink RX6 11 "DeadlineShare$State" "tasks" "[LDeadlineShare$Task;") (List.mem_cons_of_mem _ (List.mem_append_left _ (List.mem_of_getElem? (i := 1) rfl)))) (fun _ h9 => h9) rfl dX6_howManyAre_13 ?_
        have i_15 := kw_6_1 hG i_h0
        refine lv_iload_n hx hb dX6_howManyAre_16 rfl (lv_at hl 0 rfl) ?_
        obtain ⟨q_17, k_16, b_18⟩ := op_20 hI i_15
        refine k_aald hx hb hK hI i_15.1 4 k_16 rfl (vp_in_iff.mpr (by omega)) b_18 (fun _ hj => kw_20 hG i_15 hj) dX6_howManyAre_17 (fun a_19 i_20 => ?_)
        obtain ⟨x_22, x_23, x_24, x_25, x_26, x_27, x_28, x_29, x_30, x_31, x_32, x_33, x_34, x_35, x_36, x_37, k_21⟩ := op_8 hI i_20
        refine k_get (ci := 8) (v := .int x_25) (C := RX8) (T := TX8) (N := 18) hx hb hts (fun _ h0_ => List.mem_cons_of_mem _ (List.mem_append_right _ (List.mem_append_right _ (List.mem_append_left _ h0_)))) hown hK hI i_20.1 k_21 rfl 4 (by decide) (hts (.fieldLink RX6 69 "DeadlineShare$Task" "state" "I") (List.mem_cons_of_mem _ (List.mem_append_left _ (List.mem_of_getElem? (i := 2) rfl)))) (fun _ h9 => h9) rfl dX6_howManyAre_18 ?_
        refine lv_iload_n hx hb dX6_howManyAre_21 rfl (lv_at hl 3 rfl) ?_
        have J_28 : ∀ (y_38 : Int32) (H : Heap) (locs : List Loc) (ls : Array Slot), Iv dC dI g A f H → va_S A s.heap H locs → lv_has ls 4 [(3, .int y_1), (2, .int y_38), (0, .ref h0), (1, .int p1)] → W p l e (headSpec wq_c_X6_howManyAre ({ frames := 0, cells := 0, slots := 0, locals := 0 } : Room)).room s m ([.ref h0, .int p1].toArray) below meth c H locs 0 0 (MQ below (va_Qi (fun (r : Int32) (_ : Unit) => True) (fun (_ : Unit) t => Iv dC dI g A f t.heap) A) ([.ref h0, .int p1].toArray) s 0 0 A) (F0 m 28 ls []) := by
          intro y_38 H locs ls hI hS  hl
          obtain ⟨v_39, ev_39⟩ : ∃ y : Int32, y = y_1 + Int32.ofInt 1 := ⟨_, rfl⟩
          refine lv_iinc (v := v_39) (lv' := [(3, .int v_39), (2, .int y_38), (0, .ref h0), (1, .int p1)]) hx hb dX6_howManyAre_28 hl (k := 0) rfl ev_39.symm (by decide) rfl (fun ls hl => ?_)
          have tv_39 := k_inc y_1
          rw [← ev_39] at tv_39
          refine lv_goto (tgt := 4) hx hb dX6_howManyAre_31 (by decide) ?_
          exact ih v_39 y_38 _ _ _ (by omega) hI hS (by omega) (lv_sub hl [0, 1, 2, 3] rfl)
        refine lv_icmp_ne (tgt := 28) hx hb dX6_howManyAre_22 (by decide) (fun c_40 => ?_) (fun c_40 => ?_)
        · have c_40 := kn_eq rfl rfl c_40
          exact J_28 y_2 _ _ _ hI hS  (lv_sub hl [0, 1, 2, 3] rfl)
        · have c_40 := kc_eq rfl rfl c_40
          obtain ⟨v_41, ev_41⟩ : ∃ y : Int32, y = y_2 + Int32.ofInt 1 := ⟨_, rfl⟩
          refine lv_iinc (v := v_41) (lv' := [(2, .int v_41), (3, .int y_1), (0, .ref h0), (1, .int p1)]) hx hb dX6_howManyAre_25 hl (k := 1) rfl ev_41.symm (by decide) rfl (fun ls hl => ?_)
          have tv_41 := k_inc y_2
          rw [← ev_41] at tv_41
          exact J_28 v_41 _ _ _ hI hS  (lv_sub hl [1, 0, 2, 3] rfl)
  exact K_4 _ 0 0 _ _ _ (Nat.lt_succ_self _) hI hS (by omega) (lv_sub hl [0, 1, 2, 3] rfl)
theorem tw_53 : q_g (.constant RX9 16 (1000000)) := ⟨(List.mem_append_right _ (List.mem_of_getElem? (i := 365) (by decide +kernel))), good_of_word (by decide +kernel)⟩
theorem tw_54 : q_g (.code yX9_allows cX9_allows 3 (some .boolean)) := ⟨(List.mem_append_right _ (List.mem_of_getElem? (i := 364) (by decide +kernel))), good_of_word (by decide +kernel)⟩
def ow_c_X9_allows : List Cond := [.constant RX9 16 (1000000)]
def wq_c_X9_allows : List Cond := .code yX9_allows cX9_allows 3 (some .boolean) :: (ow_c_X9_allows ++ ([] : List Cond))
theorem tb_c_X9_allows : ∀ w ∈ wq_c_X9_allows, q_g w := by
  unfold wq_c_X9_allows ow_c_X9_allows
  exact q_cons tw_54 (q_app (q_cons tw_53 q_nil) q_nil)
set_option maxHeartbeats 4000000 in
set_option maxRecDepth 100000 in
theorem c_X9_allows (l : Launch) (dC : Nat → ClassId) (dI : Nat → Nat → Nat) (g : kG) (A : Nat → Prop) (hG : kWf g) (f : Nat → va_E) (h0 : Nat) (p1 : Int32) (p2 : Int32) (i_h0 : ik g 9 h0) : Met l yX9_allows wq_c_X9_allows ({ frames := 0, cells := 0, slots := 0, locals := 0 } : Room) (va_Pc [.ref h0, .int p1, .int p2] (fun U => kIn dC dI g A f U)) (va_Qi (fun (r : Int32) (_ : Unit) => True) (fun (_ : Unit) t => Iv dC dI g A f t.heap) A) 0 0 A := by
  refine Met.ofW (cc := cX9_allows) (maxL := 3) (ret := (some .boolean)) (by decide) rfl ?_
  intro p e s m args below meth c s₁ B hml hv
  obtain ⟨rfl, hI, hK, hE⟩ := hv
  have hx := B.exec
  have hb := B.bytes
  have hr := B.returns
  have hts := atoms_spec (ws := wq_c_X9_allows) B.pre
  have hown : s.vm.findClass RX9 = some m.cls := findClass_of_methodNamed B.named
  have hlocks := B.notSynchronized
  have hS : va_S A s.heap s.heap [] := va_S.rf
  have hl := lv_entry ([.ref h0, .int p1, .int p2]) (n := 3) (Nat.le_of_ble_eq_true rfl)
  rw [lg_entry_eq]
  generalize (lg_sl ([.ref h0, .int p1, .int p2]) ++ List.replicate (3 - (lg_sl ([.ref h0, .int p1, .int p2])).length) Slot.unset).toArray = ls at hl ⊢
  have hl : lv_has ls 3 [(0, .ref h0), (1, .int p1), (2, .int p2)] := hl
  refine lv_iload_n hx hb dX9_allows_0 rfl (lv_at hl 1 rfl) ?_
  by_cases h_1 : p1 = 0
  · refine k_topi (y := 0) h_1 ?_
    refine lv_tableIn (tgt := 28) hx hb dX9_allows_1 (by decide) (by decide) rfl (by decide) ?_
    have h_1 := kc_eq rfl (by decide : Int32.toInt 0 = 0) h_1
    refine lv_iload_n hx hb dX9_allows_28 rfl (lv_at hl 2 rfl) ?_
    refine lv_if_lt (tgt := 41) hx hb dX9_allows_29 (by decide) (fun c_2 => ?_) (fun c_2 => ?_)
    · have c_2 := kc_lt rfl (by decide : Int32.toInt 0 = 0) c_2
      refine lv_iconst (v := 0) hx hb dX9_allows_41 (by decide) ?_
      exact W.zret (v := 0) hx hb hr rfl (fun t ht hW => ⟨⟨0, (), rfl, trivial, by rw [ht]; exact hI⟩, hS.F ht⟩) hS.2.2 dX9_allows_42
    · have c_2 := kn_lt rfl (by decide : Int32.toInt 0 = 0) c_2
      refine lv_iload_n hx hb dX9_allows_32 rfl (lv_at hl 2 rfl) ?_
      refine lv_iconst (v := 1) hx hb dX9_allows_33 (by decide) ?_
      refine lv_icmp_gt (tgt := 41) hx hb dX9_allows_34 (by decide) (fun c_3 => ?_) (fun c_3 => ?_)
      · have c_3 := kc_lt (by decide : Int32.toInt 1 = 1) rfl c_3
        refine lv_iconst (v := 0) hx hb dX9_allows_41 (by decide) ?_
        exact W.zret (v := 0) hx hb hr rfl (fun t ht hW => ⟨⟨0, (), rfl, trivial, by rw [ht]; exact hI⟩, hS.F ht⟩) hS.2.2 dX9_allows_42
      · have c_3 := kn_lt (by decide : Int32.toInt 1 = 1) rfl c_3
        refine lv_iconst (v := 1) hx hb dX9_allows_37 (by decide) ?_
        refine lv_goto (tgt := 42) hx hb dX9_allows_38 (by decide) ?_
        exact W.zret (v := 1) hx hb hr rfl (fun t ht hW => ⟨⟨1, (), rfl, trivial, by rw [ht]; exact hI⟩, hS.F ht⟩) hS.2.2 dX9_allows_42
  by_cases h_4 : p1 = 1
  · refine k_topi (y := 1) h_4 ?_
    refine lv_tableIn (tgt := 43) hx hb dX9_allows_1 (by decide) (by decide) rfl (by decide) ?_
    have h_4 := kc_eq rfl (by decide : Int32.toInt 1 = 1) h_4
    refine lv_iload_n hx hb dX9_allows_43 rfl (lv_at hl 2 rfl) ?_
    refine lv_if_lt (tgt := 56) hx hb dX9_allows_44 (by decide) (fun c_5 => ?_) (fun c_5 => ?_)
    · have c_5 := kc_lt rfl (by decide : Int32.toInt 0 = 0) c_5
      refine lv_iconst (v := 0) hx hb dX9_allows_56 (by decide) ?_
      exact W.zret (v := 0) hx hb hr rfl (fun t ht hW => ⟨⟨0, (), rfl, trivial, by rw [ht]; exact hI⟩, hS.F ht⟩) hS.2.2 dX9_allows_57
    · have c_5 := kn_lt rfl (by decide : Int32.toInt 0 = 0) c_5
      refine lv_iload_n hx hb dX9_allows_47 rfl (lv_at hl 2 rfl) ?_
      refine lv_iconst (v := 3) hx hb dX9_allows_48 (by decide) ?_
      refine lv_icmp_gt (tgt := 56) hx hb dX9_allows_49 (by decide) (fun c_6 => ?_) (fun c_6 => ?_)
      · have c_6 := kc_lt (by decide : Int32.toInt 3 = 3) rfl c_6
        refine lv_iconst (v := 0) hx hb dX9_allows_56 (by decide) ?_
        exact W.zret (v := 0) hx hb hr rfl (fun t ht hW => ⟨⟨0, (), rfl, trivial, by rw [ht]; exact hI⟩, hS.F ht⟩) hS.2.2 dX9_allows_57
      · have c_6 := kn_lt (by decide : Int32.toInt 3 = 3) rfl c_6
        refine lv_iconst (v := 1) hx hb dX9_allows_52 (by decide) ?_
        refine lv_goto (tgt := 57) hx hb dX9_allows_53 (by decide) ?_
        exact W.zret (v := 1) hx hb hr rfl (fun t ht hW => ⟨⟨1, (), rfl, trivial, by rw [ht]; exact hI⟩, hS.F ht⟩) hS.2.2 dX9_allows_57
  by_cases h_7 : p1 = 2
  · refine k_topi (y := 2) h_7 ?_
    refine lv_tableIn (tgt := 58) hx hb dX9_allows_1 (by decide) (by decide) rfl (by decide) ?_
    have h_7 := kc_eq rfl (by decide : Int32.toInt 2 = 2) h_7
    refine lv_iload_n hx hb dX9_allows_58 rfl (lv_at hl 2 rfl) ?_
    refine lv_if_lt (tgt := 72) hx hb dX9_allows_59 (by decide) (fun c_8 => ?_) (fun c_8 => ?_)
    · have c_8 := kc_lt rfl (by decide : Int32.toInt 0 = 0) c_8
      refine lv_iconst (v := 0) hx hb dX9_allows_72 (by decide) ?_
      exact W.zret (v := 0) hx hb hr rfl (fun t ht hW => ⟨⟨0, (), rfl, trivial, by rw [ht]; exact hI⟩, hS.F ht⟩) hS.2.2 dX9_allows_73
    · have c_8 := kn_lt rfl (by decide : Int32.toInt 0 = 0) c_8
      refine lv_iload_n hx hb dX9_allows_62 rfl (lv_at hl 2 rfl) ?_
      refine lv_ldc hx hb hown (hts (.constant RX9 16 (1000000)) (List.mem_cons_of_mem _ (List.mem_append_left _ (List.mem_of_getElem? (i := 0) rfl)))) dX9_allows_63 ?_
      refine lv_icmp_gt (tgt := 72) hx hb dX9_allows_65 (by decide) (fun c_9 => ?_) (fun c_9 => ?_)
      · have c_9 := kc_lt (by decide : Int32.toInt 1000000 = 1000000) rfl c_9
        refine lv_iconst (v := 0) hx hb dX9_allows_72 (by decide) ?_
        exact W.zret (v := 0) hx hb hr rfl (fun t ht hW => ⟨⟨0, (), rfl, trivial, by rw [ht]; exact hI⟩, hS.F ht⟩) hS.2.2 dX9_allows_73
      · have c_9 := kn_lt (by decide : Int32.toInt 1000000 = 1000000) rfl c_9
        refine lv_iconst (v := 1) hx hb dX9_allows_68 (by decide) ?_
        refine lv_goto (tgt := 73) hx hb dX9_allows_69 (by decide) ?_
        exact W.zret (v := 1) hx hb hr rfl (fun t ht hW => ⟨⟨1, (), rfl, trivial, by rw [ht]; exact hI⟩, hS.F ht⟩) hS.2.2 dX9_allows_73
  have h_1 := kn_eq rfl (by decide : Int32.toInt 0 = 0) h_1
  have h_4 := kn_eq rfl (by decide : Int32.toInt 1 = 1) h_4
  have h_7 := kn_eq rfl (by decide : Int32.toInt 2 = 2) h_7
  refine lv_tableOut (tgt := 74) hx hb dX9_allows_1 (by omega) (by decide) ?_
  refine lv_iconst (v := 0) hx hb dX9_allows_74 (by decide) ?_
  exact W.zret (v := 0) hx hb hr rfl (fun t ht hW => ⟨⟨0, (), rfl, trivial, by rw [ht]; exact hI⟩, hS.F ht⟩) hS.2.2 dX9_allows_75
theorem tu_X9 : ∀ w ∈ u_ws RX9 TX9 3, q_g w := by
  intro w h
  unfold u_ws at h
  obtain ⟨j, hj, rfl⟩ := List.mem_map.mp h
  have hj := List.mem_range.mp hj
  match j, hj with
  | 0, _ => exact ⟨(List.mem_append_right _ (List.mem_of_getElem? (i := 43) (by decide +kernel))), good_of_word (by decide +kernel)⟩
  | 1, _ => exact ⟨(List.mem_append_right _ (List.mem_of_getElem? (i := 45) (by decide +kernel))), good_of_word (by decide +kernel)⟩
  | 2, _ => exact ⟨(List.mem_append_right _ (List.mem_of_getElem? (i := 47) (by decide +kernel))), good_of_word (by decide +kernel)⟩
  | (j9 + 3), h9 => exact absurd h9 (by omega)
theorem tw_55 : q_g (.fieldLink RX9 13 "DeadlineShare$Terms" "seed" "I") := ⟨(List.mem_append_right _ (List.mem_of_getElem? (i := 40) (by decide +kernel))), good_of_word (by decide +kernel)⟩
theorem tw_56 : q_g (.fieldLink RX9 7 "DeadlineShare$Terms" "carry" "I") := ⟨(List.mem_append_right _ (List.mem_of_getElem? (i := 37) (by decide +kernel))), good_of_word (by decide +kernel)⟩
theorem tw_57 : q_g (.fieldLink RX9 17 "DeadlineShare$Terms" "mode" "I") := ⟨(List.mem_append_right _ (List.mem_of_getElem? (i := 34) (by decide +kernel))), good_of_word (by decide +kernel)⟩
theorem tw_58 : q_g (.code yX9_set cX9_set 3 none) := ⟨(List.mem_append_right _ (List.mem_of_getElem? (i := 380) (by decide +kernel))), good_of_word (by decide +kernel)⟩
def ow_c_X9_set : List Cond := [.fieldLink RX9 17 "DeadlineShare$Terms" "mode" "I", .fieldLink RX9 7 "DeadlineShare$Terms" "carry" "I", .fieldLink RX9 13 "DeadlineShare$Terms" "seed" "I"]
def wq_c_X9_set : List Cond := .code yX9_set cX9_set 3 none :: (ow_c_X9_set ++ (u_ws RX9 TX9 3 ++ ([] : List Cond)))
theorem tb_c_X9_set : ∀ w ∈ wq_c_X9_set, q_g w := by
  unfold wq_c_X9_set ow_c_X9_set
  exact q_cons tw_58 (q_app (q_cons tw_57 (q_cons tw_56 (q_cons tw_55 q_nil))) (q_app tu_X9 q_nil))
set_option maxHeartbeats 4000000 in
set_option maxRecDepth 100000 in
theorem c_X9_set (l : Launch) (dC : Nat → ClassId) (dI : Nat → Nat → Nat) (g : kG) (A : Nat → Prop) (hG : kWf g) (f : Nat → va_E) (h0 : Nat) (p1 : Int32) (p2 : Int32) (i_h0 : ik g 9 h0) : Met l yX9_set wq_c_X9_set ({ frames := 0, cells := 0, slots := 0, locals := 0 } : Room) (va_Pc [.ref h0, .int p1, .int p2] (fun U => kIn dC dI g A f U)) (va_Qv (fun (_ : Unit) => True) (fun (_ : Unit) t => ∃ f1 : Nat → va_E, Iv dC dI g A f1 t.heap ∧ Kp g [9] f f1) A) 0 0 A := by
  refine Met.ofW (cc := cX9_set) (maxL := 3) (ret := none) (by decide) rfl ?_
  intro p e s m args below meth c s₁ B hml hv
  obtain ⟨rfl, hI, hK, hE⟩ := hv
  have hx := B.exec
  have hb := B.bytes
  have hr := B.returns
  have hts := atoms_spec (ws := wq_c_X9_set) B.pre
  have hown : s.vm.findClass RX9 = some m.cls := findClass_of_methodNamed B.named
  have hlocks := B.notSynchronized
  have hS : va_S A s.heap s.heap [] := va_S.rf
  have hk0 : Kp g [9] f f := Kp.rf
  have hl := lv_entry ([.ref h0, .int p1, .int p2]) (n := 3) (Nat.le_of_ble_eq_true rfl)
  rw [lg_entry_eq]
  generalize (lg_sl ([.ref h0, .int p1, .int p2]) ++ List.replicate (3 - (lg_sl ([.ref h0, .int p1, .int p2])).length) Slot.unset).toArray = ls at hl ⊢
  have hl : lv_has ls 3 [(0, .ref h0), (1, .int p1), (2, .int p2)] := hl
  refine lv_iload_n hx hb dX9_set_0 rfl (lv_at hl 1 rfl) ?_
  by_cases h_1 : p1 = 0
  · refine k_topi (y := 0) h_1 ?_
    refine lv_lookup (tgt := 28) hx hb dX9_set_1 (by decide) rfl (by decide) ?_
    have h_1 := kc_eq rfl (by decide : Int32.toInt 0 = 0) h_1
    refine lv_aload_n hx hb dX9_set_28 rfl (lv_at hl 0 rfl) ?_
    refine lv_iload_n hx hb dX9_set_29 rfl (lv_at hl 2 rfl) ?_
    obtain ⟨x_3, x_4, x_5, k_2⟩ := op_9 hI i_h0
    refine k_put (ci := 9) (v := .int p2) (ty := .int) (C := RX9) (T := TX9) (N := 3) hx hb hts (fun _ h0_ => List.mem_cons_of_mem _ (List.mem_append_right _ (List.mem_append_left _ h0_))) tyX9 tyX9_ok nmX9 hown hK hI hS i_h0.1 k_2 rfl 0 (by decide) (hts (.fieldLink RX9 17 "DeadlineShare$Terms" "mode" "I") (List.mem_cons_of_mem _ (List.mem_append_left _ (List.mem_of_getElem? (i := 0) rfl)))) (fun _ h9 => h9) rfl (by decide +kernel) rfl rfl (Nat.le_of_ble_eq_true rfl) rfl (cl_9 i_h0) dX9_set_30 (fun f_6 H locs e_7 hI hS => ?_)
    have k_9 : f_6 h0 = .inr (9, [.int p2, .int x_4, .int x_5]) := by rw [e_7]; exact va_up_self _ _ _
    have kp_8 := Kp.put hk0 i_h0 (by decide) e_7
    refine lv_goto (tgt := 49) hx hb dX9_set_33 (by decide) ?_
    exact W.vret hx hb hr (fun t ht hW => ⟨⟨(), rfl, trivial, ⟨f_6, by rw [ht]; exact hI, kp_8⟩⟩, hS.F ht⟩) hS.2.2 dX9_set_49
  by_cases h_10 : p1 = 1
  · refine k_topi (y := 1) h_10 ?_
    refine lv_lookup (tgt := 36) hx hb dX9_set_1 (by decide) rfl (by decide) ?_
    have h_10 := kc_eq rfl (by decide : Int32.toInt 1 = 1) h_10
    refine lv_aload_n hx hb dX9_set_36 rfl (lv_at hl 0 rfl) ?_
    refine lv_iload_n hx hb dX9_set_37 rfl (lv_at hl 2 rfl) ?_
    obtain ⟨x_12, x_13, x_14, k_11⟩ := op_9 hI i_h0
    refine k_put (ci := 9) (v := .int p2) (ty := .int) (C := RX9) (T := TX9) (N := 3) hx hb hts (fun _ h0_ => List.mem_cons_of_mem _ (List.mem_append_right _ (List.mem_append_left _ h0_))) tyX9 tyX9_ok nmX9 hown hK hI hS i_h0.1 k_11 rfl 1 (by decide) (hts (.fieldLink RX9 7 "DeadlineShare$Terms" "carry" "I") (List.mem_cons_of_mem _ (List.mem_append_left _ (List.mem_of_getElem? (i := 1) rfl)))) (fun _ h9 => h9) rfl (by decide +kernel) rfl rfl (Nat.le_of_ble_eq_true rfl) rfl (cl_9 i_h0) dX9_set_38 (fun f_15 H locs e_16 hI hS => ?_)
    have k_18 : f_15 h0 = .inr (9, [.int x_12, .int p2, .int x_14]) := by rw [e_16]; exact va_up_self _ _ _
    have kp_17 := Kp.put hk0 i_h0 (by decide) e_16
    refine lv_goto (tgt := 49) hx hb dX9_set_41 (by decide) ?_
    exact W.vret hx hb hr (fun t ht hW => ⟨⟨(), rfl, trivial, ⟨f_15, by rw [ht]; exact hI, kp_17⟩⟩, hS.F ht⟩) hS.2.2 dX9_set_49
  refine lv_lookup (off := 43) (tgt := 44) hx hb dX9_set_1 (by decide) ((lv_osw h_1 (by decide)).trans ((lv_osw h_10 (by decide)).trans rfl)) (by decide) ?_
  have h_1 := kn_eq rfl (by decide : Int32.toInt 0 = 0) h_1
  have h_10 := kn_eq rfl (by decide : Int32.toInt 1 = 1) h_10
  refine lv_aload_n hx hb dX9_set_44 rfl (lv_at hl 0 rfl) ?_
  refine lv_iload_n hx hb dX9_set_45 rfl (lv_at hl 2 rfl) ?_
  obtain ⟨x_20, x_21, x_22, k_19⟩ := op_9 hI i_h0
  refine k_put (ci := 9) (v := .int p2) (ty := .int) (C := RX9) (T := TX9) (N := 3) hx hb hts (fun _ h0_ => List.mem_cons_of_mem _ (List.mem_append_right _ (List.mem_append_left _ h0_))) tyX9 tyX9_ok nmX9 hown hK hI hS i_h0.1 k_19 rfl 2 (by decide) (hts (.fieldLink RX9 13 "DeadlineShare$Terms" "seed" "I") (List.mem_cons_of_mem _ (List.mem_append_left _ (List.mem_of_getElem? (i := 2) rfl)))) (fun _ h9 => h9) rfl (by decide +kernel) rfl rfl (Nat.le_of_ble_eq_true rfl) rfl (cl_9 i_h0) dX9_set_46 (fun f_23 H locs e_24 hI hS => ?_)
  have k_26 : f_23 h0 = .inr (9, [.int x_20, .int x_21, .int p2]) := by rw [e_24]; exact va_up_self _ _ _
  have kp_25 := Kp.put hk0 i_h0 (by decide) e_24
  exact W.vret hx hb hr (fun t ht hW => ⟨⟨(), rfl, trivial, ⟨f_23, by rw [ht]; exact hI, kp_25⟩⟩, hS.F ht⟩) hS.2.2 dX9_set_49
