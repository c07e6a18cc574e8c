theorem tw_517 : q_g (.fieldLink RX11 76 "DeadlineShare" "faultPlace" "I") := ⟨(List.mem_append_right _ (List.mem_of_getElem? (i := 331) (by decide +kernel))), good_of_word (by decide +kernel)⟩
theorem tw_518 : q_g (.code yX11_fault cX11_fault 1 (some .int)) := ⟨(List.mem_append_right _ (List.mem_of_getElem? (i := 778) (by decide +kernel))), good_of_word (by decide +kernel)⟩
def ow_c_X11_fault : List Cond := [.fieldLink RX11 76 "DeadlineShare" "faultPlace" "I"]
def wq_c_X11_fault : List Cond := .code yX11_fault cX11_fault 1 (some .int) :: (ow_c_X11_fault ++ (u_ws RX11 TX11 12 ++ ([] : List Cond)))
theorem tb_c_X11_fault : ∀ w ∈ wq_c_X11_fault, q_g w := by
  unfold wq_c_X11_fault ow_c_X11_fault
  exact q_cons tw_518 (q_app (q_cons tw_517 q_nil) (q_app tu_X11 q_nil))
set_option maxHeartbeats 4000000 in
set_option maxRecDepth 100000 in
theorem c_X11_fault (l : Launch) (dC : Nat → ClassId) (dI : Nat → Nat → Nat) (g : kG) (A : Nat → Prop) (hG : kWf g) (f : Nat → va_E) (h0 : Nat) (i_h0 : ik g 11 h0) : Met l yX11_fault wq_c_X11_fault ({ frames := 0, cells := 0, slots := 0, locals := 0 } : Room) (va_Pc [.ref h0] (fun U => kIn dC dI g A f U)) (va_Qi (fun (r : Int32) (_ : Unit) => True) (fun (_ : Unit) t => Iv dC dI g A f t.heap) A) 0 0 A := by
  refine Met.ofW (cc := cX11_fault) (maxL := 1) (ret := (some .int)) (by decide) rfl ?_
  intro p e s m args below meth c s₁ B hml hv
  obtain ⟨rfl, hI, hK, hE⟩ := hv
  have hx := B.exec
  have hb := B.bytes
  have hr := B.returns
  have hts := atoms_spec (ws := wq_c_X11_fault) B.pre
  have hown : s.vm.findClass RX11 = some m.cls := findClass_of_methodNamed B.named
  have hlocks := B.notSynchronized
  have hS : va_S A s.heap s.heap [] := va_S.rf
  have hl := lv_entry ([.ref h0]) (n := 1) (Nat.le_of_ble_eq_true rfl)
  rw [lg_entry_eq]
  generalize (lg_sl ([.ref h0]) ++ List.replicate (1 - (lg_sl ([.ref h0])).length) Slot.unset).toArray = ls at hl ⊢
  have hl : lv_has ls 1 [(0, .ref h0)] := hl
  refine lv_aload_n hx hb dX11_fault_0 rfl (lv_at hl 0 rfl) ?_
  obtain ⟨x_2, k_1⟩ := op_11 hI i_h0
  refine k_get (ci := 11) (v := .int x_2) (C := RX11) (T := TX11) (N := 12) hx hb hts (fun _ h0_ => List.mem_cons_of_mem _ (List.mem_append_right _ (List.mem_append_left _ h0_))) hown hK hI i_h0.1 k_1 rfl 11 (by decide) (hts (.fieldLink RX11 76 "DeadlineShare" "faultPlace" "I") (List.mem_cons_of_mem _ (List.mem_append_left _ (List.mem_of_getElem? (i := 0) rfl)))) (fun _ h9 => h9) rfl dX11_fault_1 ?_
  exact W.iret (v := x_2) hx hb hr (fun t ht hW => ⟨⟨x_2, (), rfl, trivial, k_ret ht hI⟩, hS.F ht⟩) hS.2.2 dX11_fault_4
theorem tw_519 : q_g (.selects RX6 yX6_tick yX6_tick) := ⟨(List.mem_append_right _ (List.mem_of_getElem? (i := 785) (by decide +kernel))), good_of_word (by decide +kernel)⟩
theorem tw_520 : q_g (.instanceMethod yX6_tick) := ⟨(List.mem_append_right _ (List.mem_of_getElem? (i := 784) (by decide +kernel))), good_of_word (by decide +kernel)⟩
theorem tw_521 : q_g (.methodLink RX11 226 yX6_tick) := ⟨(List.mem_append_right _ (List.mem_of_getElem? (i := 783) (by decide +kernel))), good_of_word (by decide +kernel)⟩
theorem tw_522 : q_g (.fieldLink RX11 47 "DeadlineShare" "asTold" "LDeadlineShare$Chooser;") := ⟨(List.mem_append_right _ (List.mem_of_getElem? (i := 325) (by decide +kernel))), good_of_word (by decide +kernel)⟩
theorem tw_523 : q_g (.fieldLink RX11 223 "DeadlineShare$State" "time" "I") := ⟨(List.mem_append_right _ (List.mem_of_getElem? (i := 239) (by decide +kernel))), good_of_word (by decide +kernel)⟩
theorem tw_524 : q_g (.code yX11_ticks cX11_ticks 4 (some .int)) := ⟨(List.mem_append_right _ (List.mem_of_getElem? (i := 782) (by decide +kernel))), good_of_word (by decide +kernel)⟩
def ow_c_X11_ticks : List Cond := [.fieldLink RX11 72 "DeadlineShare" "refusals" "LDeadlineShare$Refusals;", .methodLink RX11 84 yX4_add, .instanceMethod yX4_add, .selects RX4 yX4_add yX4_add, .initialized RX4, .fieldLink RX11 37 "DeadlineShare" "now" "LDeadlineShare$State;", .fieldLink RX11 223 "DeadlineShare$State" "time" "I", .fieldLink RX11 65 "DeadlineShare" "history" "LDeadlineShare$History;", .methodLink RX11 122 yX1_keep, .instanceMethod yX1_keep, .selects RX1 yX1_keep yX1_keep, .initialized RX1, .methodLink RX11 95 yX4_none, .instanceMethod yX4_none, .selects RX4 yX4_none yX4_none, .fieldLink RX11 47 "DeadlineShare" "asTold" "LDeadlineShare$Chooser;", .methodLink RX11 226 yX6_tick, .instanceMethod yX6_tick, .selects RX6 yX6_tick yX6_tick, .initialized RX6]
def wq_c_X11_ticks : List Cond := .code yX11_ticks cX11_ticks 4 (some .int) :: (ow_c_X11_ticks ++ (u_ws RX11 TX11 12 ++ (wq_c_X4_add ++ (u_ws RX6 TX6 10 ++ (wq_c_X1_keep ++ (wq_c_X4_none ++ (wq_c_X6_tick ++ ([] : List Cond))))))))
theorem tb_c_X11_ticks : ∀ w ∈ wq_c_X11_ticks, q_g w := by
  unfold wq_c_X11_ticks ow_c_X11_ticks
  exact q_cons tw_524 (q_app (q_cons tw_443 (q_cons tw_439 (q_cons tw_438 (q_cons tw_437 (q_cons tw_204 (q_cons tw_479 (q_cons tw_523 (q_cons tw_477 (q_cons tw_476 (q_cons tw_475 (q_cons tw_474 (q_cons tw_473 (q_cons tw_442 (q_cons tw_441 (q_cons tw_440 (q_cons tw_522 (q_cons tw_521 (q_cons tw_520 (q_cons tw_519 (q_cons tw_47 q_nil)))))))))))))))))))) (q_app tu_X11 (q_app tb_c_X4_add (q_app tu_X6 (q_app tb_c_X1_keep (q_app tb_c_X4_none (q_app tb_c_X6_tick q_nil)))))))
set_option maxHeartbeats 4000000 in
set_option maxRecDepth 100000 in
theorem c_X11_ticks (l : Launch) (dC : Nat → ClassId) (dI : Nat → Nat → Nat) (g : kG) (A : Nat → Prop) (hG : kWf g) (f : Nat → va_E) (h0 : Nat) (p1 : Int32) (i_h0 : ik g 11 h0) : Met l yX11_ticks wq_c_X11_ticks ({ frames := 6, cells := 0, slots := 0, locals := 139 } : Room) (va_Pc [.ref h0, .int p1] (fun U => kIn dC dI g A f U)) (va_Qi (fun (r : Int32) (_ : Unit) => True) (fun (_ : Unit) t => ∃ f1 : Nat → va_E, Iv dC dI g A f1 t.heap ∧ Kp g [0, 1, 4, 5, 6, 8, 10, 23, 24, 27, 28] f f1) A) 0 0 A := by
  refine Met.ofW (cc := cX11_ticks) (maxL := 4) (ret := (some .int)) (by decide) rfl ?_
  intro p e s m args below meth c s₁ B hml hv
  obtain ⟨rfl, hI, hK, hE⟩ := hv
  have hx := B.exec
  have hb := B.bytes
  have hr := B.returns
  have hts := atoms_spec (ws := wq_c_X11_ticks) B.pre
  have hown : s.vm.findClass RX11 = some m.cls := findClass_of_methodNamed B.named
  have hlocks := B.notSynchronized
  have hS : va_S A s.heap s.heap [] := va_S.rf
  have hk0 : Kp g [0, 1, 4, 5, 6, 8, 10, 23, 24, 27, 28] f f := Kp.rf
  have hl := lv_entry ([.ref h0, .int p1]) (n := 4) (Nat.le_of_ble_eq_true rfl)
  rw [lg_entry_eq]
  generalize (lg_sl ([.ref h0, .int p1]) ++ List.replicate (4 - (lg_sl ([.ref h0, .int p1])).length) Slot.unset).toArray = ls at hl ⊢
  have hl : lv_has ls 4 [(0, .ref h0), (1, .int p1)] := hl
  refine lv_iload_n hx hb dX11_ticks_0 rfl (lv_at hl 1 rfl) ?_
  refine lv_iconst (v := 1) hx hb dX11_ticks_1 (by decide) ?_
  have J_11 : ∀ (H : Heap) (locs : List Loc) (ls : Array Slot), Iv dC dI g A f H → va_S A s.heap H locs → lv_has ls 4 [(0, .ref h0), (1, .int p1)] → W p l e (headSpec wq_c_X11_ticks ({ frames := 6, cells := 0, slots := 0, locals := 139 } : Room)).room s m ([.ref h0, .int p1].toArray) below meth c H locs 0 0 (MQ below (va_Qi (fun (r : Int32) (_ : Unit) => True) (fun (_ : Unit) t => ∃ f1 : Nat → va_E, Iv dC dI g A f1 t.heap ∧ Kp g [0, 1, 4, 5, 6, 8, 10, 23, 24, 27, 28] f f1) A) ([.ref h0, .int p1].toArray) s 0 0 A) (F0 m 11 ls []) := by
    intro H locs ls hI hS  hl
    refine lv_aload_n hx hb dX11_ticks_11 rfl (lv_at hl 0 rfl) ?_
    obtain ⟨x_2, k_1⟩ := op_11 hI i_h0
    refine k_get (ci := 11) (v := .ref (gr g h0 10)) (C := RX11) (T := TX11) (N := 12) hx hb hts (fun _ h0_ => List.mem_cons_of_mem _ (List.mem_append_right _ (List.mem_append_left _ h0_))) hown hK hI i_h0.1 k_1 rfl 10 (by decide) (hts (.fieldLink RX11 72 "DeadlineShare" "refusals" "LDeadlineShare$Refusals;") (List.mem_cons_of_mem _ (List.mem_append_left _ (List.mem_of_getElem? (i := 0) rfl)))) (fun _ h9 => h9) rfl dX11_ticks_12 ?_
    have i_4 := kw_11_10 hG i_h0
    refine lv_iconst (v := (-1)) hx hb dX11_ticks_15 (by decide) ?_
    obtain ⟨x_6, k_5⟩ := op_4 hI i_4
    refine va_calli (va_runV (As := [.int (-1)]) (rest := []) ⟨hx, hb, hml, hown, hts⟩ (c_X4_add l dC dI g A hG f (gr g h0 10) (-1) i_4) (cwV 1 hts (gi_V (fun w_ h0_ => ⟨List.mem_cons_of_mem _ (List.mem_append_right _ (List.mem_append_right _ (List.mem_append_left _ h0_))), (tb_c_X4_add w_ h0_).2⟩) (List.mem_cons_of_mem _ (List.mem_append_left _ (List.mem_of_getElem? (i := 1) rfl))) (List.mem_cons_of_mem _ (List.mem_append_left _ (List.mem_of_getElem? (i := 2) rfl))) (List.mem_cons_of_mem _ (List.mem_append_left _ (List.mem_of_getElem? (i := 3) rfl))) (List.mem_cons_of_mem _ (List.mem_append_left _ (List.mem_of_getElem? (i := 4) rfl)))) rfl rfl rfl (by decide +kernel) ⟨Nat.le_of_ble_eq_true rfl, Nat.le_of_ble_eq_true rfl⟩) ⟨fun a U g mk q => ⟨q.1, q.2.calling rfl rfl⟩, k_recv hK hI i_4.1 k_5 (ci := 4) rfl, fun U hU hW => ⟨rfl, kIn.of hI hK hE hS hU hW⟩⟩ rfl rfl hl.1 rfl (lv_room (Nat.le_of_ble_eq_true rfl)) dX11_ticks_16 ⟨Nat.le_of_ble_eq_true rfl, Nat.le_of_ble_eq_true rfl⟩) hS (fun q _ h => h) (fun q h => h) (fun r_9 u t H1 locs ht hvm w_8 hB hz1 hk1 hS => ?_)
    obtain ⟨f_7, hI, kc_10⟩ := hB
    rw [ht] at hI
    have k_12 : f_7 h0 = .inr (11, [.ref (gr g h0 0), .ref (gr g h0 1), .ref (gr g h0 2), .ref (gr g h0 3), .ref (gr g h0 4), .ref (gr g h0 5), .ref (gr g h0 6), .ref (gr g h0 7), .ref (gr g h0 8), .ref (gr g h0 9), .ref (gr g h0 10), .int x_2]) := Kp.at kc_10 i_h0 (by decide) k_1
    have kp_13 := Kp.call hk0 kc_10 (by decide)
    generalize H1 = H at hI hS ⊢
    refine W.widen (k := 0) (n := 0) (Nat.le_of_ble_eq_true rfl) (Nat.le_of_ble_eq_true rfl) ?_
    exact W.iret (v := r_9) hx hb hr (fun t ht hW => ⟨⟨r_9, (), rfl, trivial, ⟨f_7, k_ret ht hI, kp_13⟩⟩, hS.F ht⟩) hS.2.2 dX11_ticks_19
  refine lv_icmp_lt (tgt := 11) hx hb dX11_ticks_2 (by decide) (fun c_14 => ?_) (fun c_14 => ?_)
  · have c_14 := kc_lt rfl (by decide : Int32.toInt 1 = 1) c_14
    exact J_11  _ _ _ hI hS  (lv_sub hl [0, 1] rfl)
  · have c_14 := kn_lt rfl (by decide : Int32.toInt 1 = 1) c_14
    refine lv_iload_n hx hb dX11_ticks_5 rfl (lv_at hl 1 rfl) ?_
    refine lv_bipush (v := 60) hx hb dX11_ticks_6 (by decide) ?_
    refine lv_icmp_le (tgt := 20) hx hb dX11_ticks_8 (by decide) (fun c_15 => ?_) (fun c_15 => ?_)
    · have c_15 := kc_le rfl (by decide : Int32.toInt 60 = 60) c_15
      refine lv_aload_n hx hb dX11_ticks_20 rfl (lv_at hl 0 rfl) ?_
      obtain ⟨x_17, k_16⟩ := op_11 hI i_h0
      refine k_get (ci := 11) (v := .ref (gr g h0 3)) (C := RX11) (T := TX11) (N := 12) hx hb hts (fun _ h0_ => List.mem_cons_of_mem _ (List.mem_append_right _ (List.mem_append_left _ h0_))) hown hK hI i_h0.1 k_16 rfl 3 (by decide) (hts (.fieldLink RX11 37 "DeadlineShare" "now" "LDeadlineShare$State;") (List.mem_cons_of_mem _ (List.mem_append_left _ (List.mem_of_getElem? (i := 5) rfl)))) (fun _ h9 => h9) rfl dX11_ticks_21 ?_
      have i_19 := kw_11_3 hG i_h0
      obtain ⟨x_21, x_22, x_23, x_24, x_25, k_20, b_26, b_27⟩ := op_6 hI i_19
      refine k_get (ci := 6) (v := .int x_22) (C := RX6) (T := TX6) (N := 10) hx hb hts (fun _ h0_ => List.mem_cons_of_mem _ (List.mem_append_right _ (List.mem_append_right _ (List.mem_append_right _ (List.mem_append_left _ h0_))))) hown hK hI i_19.1 k_20 rfl 6 (by decide) (hts (.fieldLink RX11 223 "DeadlineShare$State" "time" "I") (List.mem_cons_of_mem _ (List.mem_append_left _ (List.mem_of_getElem? (i := 6) rfl)))) (fun _ h9 => h9) rfl dX11_ticks_24 ?_
      refine lv_iload_n hx hb dX11_ticks_27 rfl (lv_at hl 1 rfl) ?_
      refine lv_iadd hx hb dX11_ticks_28 ?_
      refine lv_topi (fun v_28 ev_28 => ?_)
      have tv_28 := k_ad x_22 p1
      rw [← ev_28] at tv_28
      refine lv_sipush (v := 9999) hx hb dX11_ticks_29 (by decide) ?_
      refine lv_icmp_le (tgt := 45) hx hb dX11_ticks_32 (by decide) (fun c_29 => ?_) (fun c_29 => ?_)
      · have c_29 := kc_le rfl (by decide : Int32.toInt 9999 = 9999) c_29
        refine lv_aload_n hx hb dX11_ticks_45 rfl (lv_at hl 0 rfl) ?_
        refine k_get (ci := 11) (v := .ref (gr g h0 9)) (C := RX11) (T := TX11) (N := 12) hx hb hts (fun _ h0_ => List.mem_cons_of_mem _ (List.mem_append_right _ (List.mem_append_left _ h0_))) hown hK hI i_h0.1 k_16 rfl 9 (by decide) (hts (.fieldLink RX11 65 "DeadlineShare" "history" "LDeadlineShare$History;") (List.mem_cons_of_mem _ (List.mem_append_left _ (List.mem_of_getElem? (i := 7) rfl)))) (fun _ h9 => h9) rfl dX11_ticks_46 ?_
        have i_31 := kw_11_9 hG i_h0
        refine lv_aload_n hx hb dX11_ticks_49 rfl (lv_at hl 0 rfl) ?_
        refine k_get (ci := 11) (v := .ref (gr g h0 3)) (C := RX11) (T := TX11) (N := 12) hx hb hts (fun _ h0_ => List.mem_cons_of_mem _ (List.mem_append_right _ (List.mem_append_left _ h0_))) hown hK hI i_h0.1 k_16 rfl 3 (by decide) (hts (.fieldLink RX11 37 "DeadlineShare" "now" "LDeadlineShare$State;") (List.mem_cons_of_mem _ (List.mem_append_left _ (List.mem_of_getElem? (i := 5) rfl)))) (fun _ h9 => h9) rfl dX11_ticks_50 ?_
        refine lv_bipush (v := 6) hx hb dX11_ticks_53 (by decide) ?_
        obtain ⟨x_35, x_36, k_34⟩ := op_1 hI i_31
        refine va_callv (va_runV (As := [.ref (gr g h0 3), .int 6]) (rest := []) ⟨hx, hb, hml, hown, hts⟩ (c_X1_keep l dC dI g A hG f (gr g h0 9) (gr g h0 3) 6 i_31 i_19) (cwV 2 hts (gi_V (fun w_ h0_ => ⟨List.mem_cons_of_mem _ (List.mem_append_right _ (List.mem_append_right _ (List.mem_append_right _ (List.mem_append_right _ (List.mem_append_left _ h0_))))), (tb_c_X1_keep w_ h0_).2⟩) (List.mem_cons_of_mem _ (List.mem_append_left _ (List.mem_of_getElem? (i := 8) rfl))) (List.mem_cons_of_mem _ (List.mem_append_left _ (List.mem_of_getElem? (i := 9) rfl))) (List.mem_cons_of_mem _ (List.mem_append_left _ (List.mem_of_getElem? (i := 10) rfl))) (List.mem_cons_of_mem _ (List.mem_append_left _ (List.mem_of_getElem? (i := 11) rfl)))) rfl rfl rfl (by decide +kernel) ⟨Nat.le_of_ble_eq_true rfl, Nat.le_of_ble_eq_true rfl⟩) ⟨fun a U g mk q => ⟨q.1, q.2.calling rfl rfl⟩, k_recv hK hI i_31.1 k_34 (ci := 1) rfl, fun U hU hW => ⟨rfl, kIn.of hI hK hE hS hU hW⟩⟩ rfl rfl hl.1 rfl (lv_room (Nat.le_of_ble_eq_true rfl)) dX11_ticks_55 ⟨Nat.le_of_ble_eq_true rfl, Nat.le_of_ble_eq_true rfl⟩) hS (fun q _ h => h) (fun q h => h) (fun u t H1 locs ht hvm _ hB hz1 hk1 hS => ?_)
        obtain ⟨f_37, hI, kc_39⟩ := hB
        rw [ht] at hI
        have k_41 : f_37 h0 = .inr (11, [.ref (gr g h0 0), .ref (gr g h0 1), .ref (gr g h0 2), .ref (gr g h0 3), .ref (gr g h0 4), .ref (gr g h0 5), .ref (gr g h0 6), .ref (gr g h0 7), .ref (gr g h0 8), .ref (gr g h0 9), .ref (gr g h0 10), .int x_17]) := Kp.at kc_39 i_h0 (by decide) k_16
        have kp_42 := Kp.call hk0 kc_39 (by decide)
        generalize H1 = H at hI hS ⊢
        refine W.widen (k := 0) (n := 0) (Nat.le_of_ble_eq_true rfl) (Nat.le_of_ble_eq_true rfl) ?_
        refine lv_iconst (v := 0) hx hb dX11_ticks_58 (by decide) ?_
        refine lv_istore_n (lv' := [(2, .int 0), (0, .ref h0), (1, .int p1)]) hx hb dX11_ticks_59 rfl hl (by decide) rfl (fun ls hl => ?_)
        refine lv_iconst (v := 0) hx hb dX11_ticks_60 (by decide) ?_
        refine lv_istore_n (lv' := [(3, .int 0), (2, .int 0), (0, .ref h0), (1, .int p1)]) hx hb dX11_ticks_61 rfl hl (by decide) rfl (fun ls hl => ?_)
        have K_62 : ∀ (nn : Nat) (y_43 : Int32) (y_44 : Int32) (f_45 : Nat → va_E) (H : Heap) (locs : List Loc) (ls : Array Slot), (p1.toInt - y_43.toInt).toNat < nn → Iv dC dI g A f_45 H → va_S A s.heap H locs → f_45 h0 = .inr (11, [.ref (gr g h0 0), .ref (gr g h0 1), .ref (gr g h0 2), .ref (gr g h0 3), .ref (gr g h0 4), .ref (gr g h0 5), .ref (gr g h0 6), .ref (gr g h0 7), .ref (gr g h0 8), .ref (gr g h0 9), .ref (gr g h0 10), .int x_17]) → Kp g [0, 1, 4, 5, 6, 8, 10, 23, 24, 27, 28] f f_45 → lv_has ls 4 [(3, .int y_43), (2, .int y_44), (0, .ref h0), (1, .int p1)] → W p l e (headSpec wq_c_X11_ticks ({ frames := 6, cells := 0, slots := 0, locals := 139 } : Room)).room s m ([.ref h0, .int p1].toArray) below meth c H locs 0 0 (MQ below (va_Qi (fun (r : Int32) (_ : Unit) => True) (fun (_ : Unit) t => ∃ f1 : Nat → va_E, Iv dC dI g A f1 t.heap ∧ Kp g [0, 1, 4, 5, 6, 8, 10, 23, 24, 27, 28] f f1) A) ([.ref h0, .int p1].toArray) s 0 0 A) (F0 m 62 ls []) := by
          intro nn
          induction nn with
          | zero => intro y_43 y_44 f_45 H locs ls m_48; exact absurd m_48 (Nat.not_lt_zero _)
          | succ nn ih =>
            intro y_43 y_44 f_45 H locs ls m_48 hI hS k_46 kp_47 hl
            have g_49 := Int32.toInt_lt p1
            have g_50 := Int32.le_toInt p1
            have g_51 := Int32.toInt_lt y_43
            have g_52 := Int32.le_toInt y_43
            refine lv_iload_n hx hb dX11_ticks_62 rfl (lv_at hl 0 rfl) ?_
            refine lv_iload_n hx hb dX11_ticks_63 rfl (lv_at hl 3 rfl) ?_
            refine lv_icmp_ge (tgt := 91) hx hb dX11_ticks_64 (by decide) (fun c_53 => ?_) (fun c_53 => ?_)
            · have c_53 := kc_le rfl rfl c_53
              refine lv_aload_n hx hb dX11_ticks_91 rfl (lv_at hl 2 rfl) ?_
              refine k_get (ci := 11) (v := .ref (gr g h0 10)) (C := RX11) (T := TX11) (N := 12) hx hb hts (fun _ h0_ => List.mem_cons_of_mem _ (List.mem_append_right _ (List.mem_append_left _ h0_))) hown hK hI i_h0.1 k_46 rfl 10 (by decide) (hts (.fieldLink RX11 72 "DeadlineShare" "refusals" "LDeadlineShare$Refusals;") (List.mem_cons_of_mem _ (List.mem_append_left _ (List.mem_of_getElem? (i := 0) rfl)))) (fun _ h9 => h9) rfl dX11_ticks_92 ?_
              have i_55 := kw_11_10 hG i_h0
              refine lv_iload_n hx hb dX11_ticks_95 rfl (lv_at hl 1 rfl) ?_
              obtain ⟨x_57, k_56⟩ := op_4 hI i_55
              refine va_calli (va_runV (As := [.int y_44]) (rest := []) ⟨hx, hb, hml, hown, hts⟩ (c_X4_none l dC dI g A hG f_45 (gr g h0 10) y_44 i_55) (cwV 1 hts (gi_V (fun w_ h0_ => ⟨List.mem_cons_of_mem _ (List.mem_append_right _ (List.mem_append_right _ (List.mem_append_right _ (List.mem_append_right _ (List.mem_append_right _ (List.mem_append_left _ h0_)))))), (tb_c_X4_none w_ h0_).2⟩) (List.mem_cons_of_mem _ (List.mem_append_left _ (List.mem_of_getElem? (i := 12) rfl))) (List.mem_cons_of_mem _ (List.mem_append_left _ (List.mem_of_getElem? (i := 13) rfl))) (List.mem_cons_of_mem _ (List.mem_append_left _ (List.mem_of_getElem? (i := 14) rfl))) (List.mem_cons_of_mem _ (List.mem_append_left _ (List.mem_of_getElem? (i := 4) rfl)))) rfl rfl rfl (by decide +kernel) ⟨Nat.le_of_ble_eq_true rfl, Nat.le_of_ble_eq_true rfl⟩) ⟨fun a U g mk q => ⟨q.1, q.2.calling rfl rfl⟩, k_recv hK hI i_55.1 k_56 (ci := 4) rfl, fun U hU hW => ⟨rfl, kIn.of hI hK hE hS hU hW⟩⟩ rfl rfl hl.1 rfl (lv_room (Nat.le_of_ble_eq_true rfl)) dX11_ticks_96 ⟨Nat.le_of_ble_eq_true rfl, Nat.le_of_ble_eq_true rfl⟩) hS (fun q _ h => h) (fun q h => h) (fun r_60 u t H1 locs ht hvm w_59 hB hz1 hk1 hS => ?_)
              obtain ⟨f_58, hI, kc_61⟩ := hB
              rw [ht] at hI
              have k_63 : f_58 h0 = .inr (11, [.ref (gr g h0 0), .ref (gr g h0 1), .ref (gr g h0 2), .ref (gr g h0 3), .ref (gr g h0 4), .ref (gr g h0 5), .ref (gr g h0 6), .ref (gr g h0 7), .ref (gr g h0 8), .ref (gr g h0 9), .ref (gr g h0 10), .int x_17]) := Kp.at kc_61 i_h0 (by decide) k_46
              have kp_64 := Kp.call kp_47 kc_61 (by decide)
              generalize H1 = H at hI hS ⊢
              refine W.widen (k := 0) (n := 0) (Nat.le_of_ble_eq_true rfl) (Nat.le_of_ble_eq_true rfl) ?_
              exact W.iret (v := r_60) hx hb hr (fun t ht hW => ⟨⟨r_60, (), rfl, trivial, ⟨f_58, k_ret ht hI, kp_64⟩⟩, hS.F ht⟩) hS.2.2 dX11_ticks_99
            · have c_53 := kn_le rfl rfl c_53
              refine lv_aload_n hx hb dX11_ticks_67 rfl (lv_at hl 2 rfl) ?_
              refine k_get (ci := 11) (v := .ref (gr g h0 3)) (C := RX11) (T := TX11) (N := 12) hx hb hts (fun _ h0_ => List.mem_cons_of_mem _ (List.mem_append_right _ (List.mem_append_left _ h0_))) hown hK hI i_h0.1 k_46 rfl 3 (by decide) (hts (.fieldLink RX11 37 "DeadlineShare" "now" "LDeadlineShare$State;") (List.mem_cons_of_mem _ (List.mem_append_left _ (List.mem_of_getElem? (i := 5) rfl)))) (fun _ h9 => h9) rfl dX11_ticks_68 ?_
              refine lv_aload_n hx hb dX11_ticks_71 rfl (lv_at hl 2 rfl) ?_
              refine k_get (ci := 11) (v := .ref (gr g h0 5)) (C := RX11) (T := TX11) (N := 12) hx hb hts (fun _ h0_ => List.mem_cons_of_mem _ (List.mem_append_right _ (List.mem_append_left _ h0_))) hown hK hI i_h0.1 k_46 rfl 5 (by decide) (hts (.fieldLink RX11 47 "DeadlineShare" "asTold" "LDeadlineShare$Chooser;") (List.mem_cons_of_mem _ (List.mem_append_left _ (List.mem_of_getElem? (i := 15) rfl)))) (fun _ h9 => h9) rfl dX11_ticks_72 ?_
              have i_68 := kw_11_5 hG i_h0
              obtain ⟨x_70, x_71, x_72, x_73, x_74, k_69, b_75, b_76⟩ := op_6 hI i_19
              refine va_calli (va_runV (As := [.ref (gr g h0 5)]) (rest := []) ⟨hx, hb, hml, hown, hts⟩ (c_X6_tick l dC dI g A hG f_45 (gr g h0 3) (gr g h0 5) i_19 i_68) (cwV 1 hts (gi_V (fun w_ h0_ => ⟨List.mem_cons_of_mem _ (List.mem_append_right _ (List.mem_append_right _ (List.mem_append_right _ (List.mem_append_right _ (List.mem_append_right _ (List.mem_append_right _ (List.mem_append_left _ h0_))))))), (tb_c_X6_tick w_ h0_).2⟩) (List.mem_cons_of_mem _ (List.mem_append_left _ (List.mem_of_getElem? (i := 16) rfl))) (List.mem_cons_of_mem _ (List.mem_append_left _ (List.mem_of_getElem? (i := 17) rfl))) (List.mem_cons_of_mem _ (List.mem_append_left _ (List.mem_of_getElem? (i := 18) rfl))) (List.mem_cons_of_mem _ (List.mem_append_left _ (List.mem_of_getElem? (i := 19) rfl)))) rfl rfl rfl (by decide +kernel) ⟨Nat.le_of_ble_eq_true rfl, Nat.le_of_ble_eq_true rfl⟩) ⟨fun a U g mk q => ⟨q.1, q.2.calling rfl rfl⟩, k_recv hK hI i_19.1 k_69 (ci := 6) rfl, fun U hU hW => ⟨rfl, kIn.of hI hK hE hS hU hW⟩⟩ rfl rfl hl.1 rfl (lv_room (Nat.le_of_ble_eq_true rfl)) dX11_ticks_75 ⟨Nat.le_of_ble_eq_true rfl, Nat.le_of_ble_eq_true rfl⟩) hS (fun q _ h => h) (fun q h => h) (fun r_79 u t H1 locs ht hvm w_78 hB hz1 hk1 hS => ?_)
              obtain ⟨f_77, hI, kc_80⟩ := hB
              rw [ht] at hI
              have k_82 : f_77 h0 = .inr (11, [.ref (gr g h0 0), .ref (gr g h0 1), .ref (gr g h0 2), .ref (gr g h0 3), .ref (gr g h0 4), .ref (gr g h0 5), .ref (gr g h0 6), .ref (gr g h0 7), .ref (gr g h0 8), .ref (gr g h0 9), .ref (gr g h0 10), .int x_17]) := Kp.at kc_80 i_h0 (by decide) k_46
              have kp_83 := Kp.call kp_47 kc_80 (by decide)
              generalize H1 = H at hI hS ⊢
              refine W.widen (k := 0) (n := 0) (Nat.le_of_ble_eq_true rfl) (Nat.le_of_ble_eq_true rfl) ?_
              refine lv_iconst (v := (-1)) hx hb dX11_ticks_78 (by decide) ?_
              have J_85 : ∀ (y_84 : Int32) (H : Heap) (locs : List Loc) (ls : Array Slot), Iv dC dI g A f_77 H → va_S A s.heap H locs → lv_has ls 4 [(3, .int y_43), (2, .int y_84), (0, .ref h0), (1, .int p1)] → W p l e (headSpec wq_c_X11_ticks ({ frames := 6, cells := 0, slots := 0, locals := 139 } : Room)).room s m ([.ref h0, .int p1].toArray) below meth c H locs 0 0 (MQ below (va_Qi (fun (r : Int32) (_ : Unit) => True) (fun (_ : Unit) t => ∃ f1 : Nat → va_E, Iv dC dI g A f1 t.heap ∧ Kp g [0, 1, 4, 5, 6, 8, 10, 23, 24, 27, 28] f f1) A) ([.ref h0, .int p1].toArray) s 0 0 A) (F0 m 85 ls []) := by
                intro y_84 H locs ls hI hS  hl
                obtain ⟨v_85, ev_85⟩ : ∃ y : Int32, y = y_43 + Int32.ofInt 1 := ⟨_, rfl⟩
                refine lv_iinc (v := v_85) (lv' := [(3, .int v_85), (2, .int y_84), (0, .ref h0), (1, .int p1)]) hx hb dX11_ticks_85 hl (k := 0) rfl ev_85.symm (by decide) rfl (fun ls hl => ?_)
                have tv_85 := k_inc y_43
                rw [← ev_85] at tv_85
                refine lv_goto (tgt := 62) hx hb dX11_ticks_88 (by decide) ?_
                exact ih v_85 y_84 f_77 _ _ _ (by omega) hI hS k_82 kp_83 (lv_sub hl [0, 1, 2, 3] rfl)
              refine lv_icmp_eq (tgt := 85) hx hb dX11_ticks_79 (by decide) (fun c_86 => ?_) (fun c_86 => ?_)
              · have c_86 := kc_eq rfl (by decide : Int32.toInt (-1) = (-1)) c_86
                exact J_85 y_44 _ _ _ hI hS  (lv_sub hl [0, 1, 2, 3] rfl)
              · have c_86 := kn_eq rfl (by decide : Int32.toInt (-1) = (-1)) c_86
                obtain ⟨v_87, ev_87⟩ : ∃ y : Int32, y = y_44 + Int32.ofInt 1 := ⟨_, rfl⟩
                refine lv_iinc (v := v_87) (lv' := [(2, .int v_87), (3, .int y_43), (0, .ref h0), (1, .int p1)]) hx hb dX11_ticks_82 hl (k := 1) rfl ev_87.symm (by decide) rfl (fun ls hl => ?_)
                have tv_87 := k_inc y_44
                rw [← ev_87] at tv_87
                exact J_85 v_87 _ _ _ hI hS  (lv_sub hl [1, 0, 2, 3] rfl)
        exact K_62 _ 0 0 f_37 _ _ _ (Nat.lt_succ_self _) hI hS k_41 kp_42 (lv_sub hl [0, 1, 2, 3] rfl)
      · have c_29 := kn_le rfl (by decide : Int32.toInt 9999 = 9999) c_29
        refine lv_aload_n hx hb dX11_ticks_35 rfl (lv_at hl 0 rfl) ?_
        refine k_get (ci := 11) (v := .ref (gr g h0 10)) (C := RX11) (T := TX11) (N := 12) hx hb hts (fun _ h0_ => List.mem_cons_of_mem _ (List.mem_append_right _ (List.mem_append_left _ h0_))) hown hK hI i_h0.1 k_16 rfl 10 (by decide) (hts (.fieldLink RX11 72 "DeadlineShare" "refusals" "LDeadlineShare$Refusals;") (List.mem_cons_of_mem _ (List.mem_append_left _ (List.mem_of_getElem? (i := 0) rfl)))) (fun _ h9 => h9) rfl dX11_ticks_36 ?_
        have i_89 := kw_11_10 hG i_h0
        refine lv_bipush (v := (-4)) hx hb dX11_ticks_39 (by decide) ?_
        obtain ⟨x_91, k_90⟩ := op_4 hI i_89
        refine va_calli (va_runV (As := [.int (-4)]) (rest := []) ⟨hx, hb, hml, hown, hts⟩ (c_X4_add l dC dI g A hG f (gr g h0 10) (-4) i_89) (cwV 1 hts (gi_V (fun w_ h0_ => ⟨List.mem_cons_of_mem _ (List.mem_append_right _ (List.mem_append_right _ (List.mem_append_left _ h0_))), (tb_c_X4_add w_ h0_).2⟩) (List.mem_cons_of_mem _ (List.mem_append_left _ (List.mem_of_getElem? (i := 1) rfl))) (List.mem_cons_of_mem _ (List.mem_append_left _ (List.mem_of_getElem? (i := 2) rfl))) (List.mem_cons_of_mem _ (List.mem_append_left _ (List.mem_of_getElem? (i := 3) rfl))) (List.mem_cons_of_mem _ (List.mem_append_left _ (List.mem_of_getElem? (i := 4) rfl)))) rfl rfl rfl (by decide +kernel) ⟨Nat.le_of_ble_eq_true rfl, Nat.le_of_ble_eq_true rfl⟩) ⟨fun a U g mk q => ⟨q.1, q.2.calling rfl rfl⟩, k_recv hK hI i_89.1 k_90 (ci := 4) rfl, fun U hU hW => ⟨rfl, kIn.of hI hK hE hS hU hW⟩⟩ rfl rfl hl.1 rfl (lv_room (Nat.le_of_ble_eq_true rfl)) dX11_ticks_41 ⟨Nat.le_of_ble_eq_true rfl, Nat.le_of_ble_eq_true rfl⟩) hS (fun q _ h => h) (fun q h => h) (fun r_94 u t H1 locs ht hvm w_93 hB hz1 hk1 hS => ?_)
        obtain ⟨f_92, hI, kc_95⟩ := hB
        rw [ht] at hI
        have k_97 : f_92 h0 = .inr (11, [.ref (gr g h0 0), .ref (gr g h0 1), .ref (gr g h0 2), .ref (gr g h0 3), .ref (gr g h0 4), .ref (gr g h0 5), .ref (gr g h0 6), .ref (gr g h0 7), .ref (gr g h0 8), .ref (gr g h0 9), .ref (gr g h0 10), .int x_17]) := Kp.at kc_95 i_h0 (by decide) k_16
        have k_98 : f_92 (gr g h0 3) = .inr (6, [.ref (gr g (gr g h0 3) 0), .ref (gr g (gr g h0 3) 1), .ref (gr g (gr g h0 3) 2), .ref (gr g (gr g h0 3) 3), .ref (gr g (gr g h0 3) 4), .int x_21, .int x_22, .long x_23, .int x_24, .int x_25]) := Kp.at kc_95 i_19 (by decide) k_20
        have kp_99 := Kp.call hk0 kc_95 (by decide)
        generalize H1 = H at hI hS ⊢
        refine W.widen (k := 0) (n := 0) (Nat.le_of_ble_eq_true rfl) (Nat.le_of_ble_eq_true rfl) ?_
        exact W.iret (v := r_94) hx hb hr (fun t ht hW => ⟨⟨r_94, (), rfl, trivial, ⟨f_92, k_ret ht hI, kp_99⟩⟩, hS.F ht⟩) hS.2.2 dX11_ticks_44
    · have c_15 := kn_le rfl (by decide : Int32.toInt 60 = 60) c_15
      exact J_11  _ _ _ hI hS  (lv_sub hl [0, 1] rfl)
theorem tw_525 : q_g (.selects RX1 yX1_takeBack yX1_takeBack) := ⟨(List.mem_append_right _ (List.mem_of_getElem? (i := 881) (by decide +kernel))), good_of_word (by decide +kernel)⟩
theorem tw_526 : q_g (.instanceMethod yX1_takeBack) := ⟨(List.mem_append_right _ (List.mem_of_getElem? (i := 880) (by decide +kernel))), good_of_word (by decide +kernel)⟩
theorem tw_527 : q_g (.methodLink RX11 231 yX1_takeBack) := ⟨(List.mem_append_right _ (List.mem_of_getElem? (i := 879) (by decide +kernel))), good_of_word (by decide +kernel)⟩
theorem tw_528 : q_g (.fieldLink RX11 230 "DeadlineShare$History" "size" "I") := ⟨(List.mem_append_right _ (List.mem_of_getElem? (i := 295) (by decide +kernel))), good_of_word (by decide +kernel)⟩
theorem tw_529 : q_g (.code yX11_undo cX11_undo 1 (some .int)) := ⟨(List.mem_append_right _ (List.mem_of_getElem? (i := 878) (by decide +kernel))), good_of_word (by decide +kernel)⟩
def ow_c_X11_undo : List Cond := [.fieldLink RX11 65 "DeadlineShare" "history" "LDeadlineShare$History;", .fieldLink RX11 230 "DeadlineShare$History" "size" "I", .fieldLink RX11 72 "DeadlineShare" "refusals" "LDeadlineShare$Refusals;", .fieldLink RX11 37 "DeadlineShare" "now" "LDeadlineShare$State;", .methodLink RX11 231 yX1_takeBack, .instanceMethod yX1_takeBack, .selects RX1 yX1_takeBack yX1_takeBack, .initialized RX1, .methodLink RX11 95 yX4_none, .instanceMethod yX4_none, .selects RX4 yX4_none yX4_none, .initialized RX4, .methodLink RX11 84 yX4_add, .instanceMethod yX4_add, .selects RX4 yX4_add yX4_add]
def wq_c_X11_undo : List Cond := .code yX11_undo cX11_undo 1 (some .int) :: (ow_c_X11_undo ++ (u_ws RX11 TX11 12 ++ (u_ws RX1 TX1 4 ++ (wq_c_X1_takeBack ++ (wq_c_X4_none ++ (wq_c_X4_add ++ ([] : List Cond)))))))
theorem tb_c_X11_undo : ∀ w ∈ wq_c_X11_undo, q_g w := by
  unfold wq_c_X11_undo ow_c_X11_undo
  exact q_cons tw_529 (q_app (q_cons tw_477 (q_cons tw_528 (q_cons tw_443 (q_cons tw_479 (q_cons tw_527 (q_cons tw_526 (q_cons tw_525 (q_cons tw_473 (q_cons tw_442 (q_cons tw_441 (q_cons tw_440 (q_cons tw_204 (q_cons tw_439 (q_cons tw_438 (q_cons tw_437 q_nil))))))))))))))) (q_app tu_X11 (q_app tu_X1 (q_app tb_c_X1_takeBack (q_app tb_c_X4_none (q_app tb_c_X4_add q_nil))))))
set_option maxHeartbeats 4000000 in
set_option maxRecDepth 100000 in
theorem c_X11_undo (l : Launch) (dC : Nat → ClassId) (dI : Nat → Nat → Nat) (g : kG) (A : Nat → Prop) (hG : kWf g) (f : Nat → va_E) (h0 : Nat) (i_h0 : ik g 11 h0) : Met l yX11_undo wq_c_X11_undo ({ frames := 5, cells := 0, slots := 0, locals := 126 } : Room) (va_Pc [.ref h0] (fun U => kIn dC dI g A f U)) (va_Qi (fun (r : Int32) (_ : Unit) => True) (fun (_ : Unit) t => ∃ f1 : Nat → va_E, Iv dC dI g A f1 t.heap ∧ Kp g [1, 4, 5, 6, 8, 10, 23, 24, 28] f f1) A) 0 0 A := by
  refine Met.ofW (cc := cX11_undo) (maxL := 1) (ret := (some .int)) (by decide) rfl ?_
  intro p e s m args below meth c s₁ B hml hv
  obtain ⟨rfl, hI, hK, hE⟩ := hv
  have hx := B.exec
  have hb := B.bytes
  have hr := B.returns
  have hts := atoms_spec (ws := wq_c_X11_undo) B.pre
  have hown : s.vm.findClass RX11 = some m.cls := findClass_of_methodNamed B.named
  have hlocks := B.notSynchronized
  have hS : va_S A s.heap s.heap [] := va_S.rf
  have hk0 : Kp g [1, 4, 5, 6, 8, 10, 23, 24, 28] f f := Kp.rf
  have hl := lv_entry ([.ref h0]) (n := 1) (Nat.le_of_ble_eq_true rfl)
  rw [lg_entry_eq]
  generalize (lg_sl ([.ref h0]) ++ List.replicate (1 - (lg_sl ([.ref h0])).length) Slot.unset).toArray = ls at hl ⊢
  have hl : lv_has ls 1 [(0, .ref h0)] := hl
  refine lv_aload_n hx hb dX11_undo_0 rfl (lv_at hl 0 rfl) ?_
  obtain ⟨x_2, k_1⟩ := op_11 hI i_h0
  refine k_get (ci := 11) (v := .ref (gr g h0 9)) (C := RX11) (T := TX11) (N := 12) hx hb hts (fun _ h0_ => List.mem_cons_of_mem _ (List.mem_append_right _ (List.mem_append_left _ h0_))) hown hK hI i_h0.1 k_1 rfl 9 (by decide) (hts (.fieldLink RX11 65 "DeadlineShare" "history" "LDeadlineShare$History;") (List.mem_cons_of_mem _ (List.mem_append_left _ (List.mem_of_getElem? (i := 0) rfl)))) (fun _ h9 => h9) rfl dX11_undo_1 ?_
  have i_4 := kw_11_9 hG i_h0
  obtain ⟨x_6, x_7, k_5⟩ := op_1 hI i_4
  refine k_get (ci := 1) (v := .int x_7) (C := RX1) (T := TX1) (N := 4) hx hb hts (fun _ h0_ => List.mem_cons_of_mem _ (List.mem_append_right _ (List.mem_append_right _ (List.mem_append_left _ h0_)))) hown hK hI i_4.1 k_5 rfl 3 (by decide) (hts (.fieldLink RX11 230 "DeadlineShare$History" "size" "I") (List.mem_cons_of_mem _ (List.mem_append_left _ (List.mem_of_getElem? (i := 1) rfl)))) (fun _ h9 => h9) rfl dX11_undo_4 ?_
  refine lv_if_ne (tgt := 20) hx hb dX11_undo_7 (by decide) (fun c_8 => ?_) (fun c_8 => ?_)
  · have c_8 := kn_eq rfl (by decide : Int32.toInt 0 = 0) c_8
    refine lv_aload_n hx hb dX11_undo_20 rfl (lv_at hl 0 rfl) ?_
    refine k_get (ci := 11) (v := .ref (gr g h0 10)) (C := RX11) (T := TX11) (N := 12) hx hb hts (fun _ h0_ => List.mem_cons_of_mem _ (List.mem_append_right _ (List.mem_append_left _ h0_))) hown hK hI i_h0.1 k_1 rfl 10 (by decide) (hts (.fieldLink RX11 72 "DeadlineShare" "refusals" "LDeadlineShare$Refusals;") (List.mem_cons_of_mem _ (List.mem_append_left _ (List.mem_of_getElem? (i := 2) rfl)))) (fun _ h9 => h9) rfl dX11_undo_21 ?_
    have i_10 := kw_11_10 hG i_h0
    refine lv_aload_n hx hb dX11_undo_24 rfl (lv_at hl 0 rfl) ?_
    refine k_get (ci := 11) (v := .ref (gr g h0 9)) (C := RX11) (T := TX11) (N := 12) hx hb hts (fun _ h0_ => List.mem_cons_of_mem _ (List.mem_append_right _ (List.mem_append_left _ h0_))) hown hK hI i_h0.1 k_1 rfl 9 (by decide) (hts (.fieldLink RX11 65 "DeadlineShare" "history" "LDeadlineShare$History;") (List.mem_cons_of_mem _ (List.mem_append_left _ (List.mem_of_getElem? (i := 0) rfl)))) (fun _ h9 => h9) rfl dX11_undo_25 ?_
    refine lv_aload_n hx hb dX11_undo_28 rfl (lv_at hl 0 rfl) ?_
    refine k_get (ci := 11) (v := .ref (gr g h0 3)) (C := RX11) (T := TX11) (N := 12) hx hb hts (fun _ h0_ => List.mem_cons_of_mem _ (List.mem_append_right _ (List.mem_append_left _ h0_))) hown hK hI i_h0.1 k_1 rfl 3 (by decide) (hts (.fieldLink RX11 37 "DeadlineShare" "now" "LDeadlineShare$State;") (List.mem_cons_of_mem _ (List.mem_append_left _ (List.mem_of_getElem? (i := 3) rfl)))) (fun _ h9 => h9) rfl dX11_undo_29 ?_
    have i_14 := kw_11_3 hG i_h0
    refine va_calli (va_runV (As := [.ref (gr g h0 3)]) (rest := [.ref (gr g h0 10)]) ⟨hx, hb, hml, hown, hts⟩ (c_X1_takeBack l dC dI g A hG f (gr g h0 9) (gr g h0 3) i_4 i_14) (cwV 1 hts (gi_V (fun w_ h0_ => ⟨List.mem_cons_of_mem _ (List.mem_append_right _ (List.mem_append_right _ (List.mem_append_right _ (List.mem_append_left _ h0_)))), (tb_c_X1_takeBack w_ h0_).2⟩) (List.mem_cons_of_mem _ (List.mem_append_left _ (List.mem_of_getElem? (i := 4) rfl))) (List.mem_cons_of_mem _ (List.mem_append_left _ (List.mem_of_getElem? (i := 5) rfl))) (List.mem_cons_of_mem _ (List.mem_append_left _ (List.mem_of_getElem? (i := 6) rfl))) (List.mem_cons_of_mem _ (List.mem_append_left _ (List.mem_of_getElem? (i := 7) rfl)))) rfl rfl rfl (by decide +kernel) ⟨Nat.le_of_ble_eq_true rfl, Nat.le_of_ble_eq_true rfl⟩) ⟨fun a U g mk q => ⟨q.1, q.2.calling rfl rfl⟩, k_recv hK hI i_4.1 k_5 (ci := 1) rfl, fun U hU hW => ⟨rfl, kIn.of hI hK hE hS hU hW⟩⟩ rfl rfl hl.1 rfl (lv_room (Nat.le_of_ble_eq_true rfl)) dX11_undo_32 ⟨Nat.le_of_ble_eq_true rfl, Nat.le_of_ble_eq_true rfl⟩) hS (fun q _ h => h) (fun q h => h) (fun r_17 u t H1 locs ht hvm w_16 hB hz1 hk1 hS => ?_)
    obtain ⟨f_15, hI, kc_18⟩ := hB
    rw [ht] at hI
    have k_20 : f_15 h0 = .inr (11, [.ref (gr g h0 0), .ref (gr g h0 1), .ref (gr g h0 2), .ref (gr g h0 3), .ref (gr g h0 4), .ref (gr g h0 5), .ref (gr g h0 6), .ref (gr g h0 7), .ref (gr g h0 8), .ref (gr g h0 9), .ref (gr g h0 10), .int x_2]) := Kp.at kc_18 i_h0 (by decide) k_1
    have kp_21 := Kp.call hk0 kc_18 (by decide)
    generalize H1 = H at hI hS ⊢
    refine W.widen (k := 0) (n := 0) (Nat.le_of_ble_eq_true rfl) (Nat.le_of_ble_eq_true rfl) ?_
    obtain ⟨x_23, k_22⟩ := op_4 hI i_10
    refine va_calli (va_runV (As := [.int r_17]) (rest := []) ⟨hx, hb, hml, hown, hts⟩ (c_X4_none l dC dI g A hG f_15 (gr g h0 10) r_17 i_10) (cwV 1 hts (gi_V (fun w_ h0_ => ⟨List.mem_cons_of_mem _ (List.mem_append_right _ (List.mem_append_right _ (List.mem_append_right _ (List.mem_append_right _ (List.mem_append_left _ h0_))))), (tb_c_X4_none w_ h0_).2⟩) (List.mem_cons_of_mem _ (List.mem_append_left _ (List.mem_of_getElem? (i := 8) rfl))) (List.mem_cons_of_mem _ (List.mem_append_left _ (List.mem_of_getElem? (i := 9) rfl))) (List.mem_cons_of_mem _ (List.mem_append_left _ (List.mem_of_getElem? (i := 10) rfl))) (List.mem_cons_of_mem _ (List.mem_append_left _ (List.mem_of_getElem? (i := 11) rfl)))) rfl rfl rfl (by decide +kernel) ⟨Nat.le_of_ble_eq_true rfl, Nat.le_of_ble_eq_true rfl⟩) ⟨fun a U g mk q => ⟨q.1, q.2.calling rfl rfl⟩, k_recv hK hI i_10.1 k_22 (ci := 4) rfl, fun U hU hW => ⟨rfl, kIn.of hI hK hE hS hU hW⟩⟩ rfl rfl hl.1 rfl (lv_room (Nat.le_of_ble_eq_true rfl)) dX11_undo_35 ⟨Nat.le_of_ble_eq_true rfl, Nat.le_of_ble_eq_true rfl⟩) hS (fun q _ h => h) (fun q h => h) (fun r_26 u t H1 locs ht hvm w_25 hB hz1 hk1 hS => ?_)
    obtain ⟨f_24, hI, kc_27⟩ := hB
    rw [ht] at hI
    have k_29 : f_24 h0 = .inr (11, [.ref (gr g h0 0), .ref (gr g h0 1), .ref (gr g h0 2), .ref (gr g h0 3), .ref (gr g h0 4), .ref (gr g h0 5), .ref (gr g h0 6), .ref (gr g h0 7), .ref (gr g h0 8), .ref (gr g h0 9), .ref (gr g h0 10), .int x_2]) := Kp.at kc_27 i_h0 (by decide) k_20
    have kp_30 := Kp.call kp_21 kc_27 (by decide)
    generalize H1 = H at hI hS ⊢
    refine W.widen (k := 0) (n := 0) (Nat.le_of_ble_eq_true rfl) (Nat.le_of_ble_eq_true rfl) ?_
    exact W.iret (v := r_26) hx hb hr (fun t ht hW => ⟨⟨r_26, (), rfl, trivial, ⟨f_24, k_ret ht hI, kp_30⟩⟩, hS.F ht⟩) hS.2.2 dX11_undo_38
  · have c_8 := kc_eq rfl (by decide : Int32.toInt 0 = 0) c_8
    refine lv_aload_n hx hb dX11_undo_10 rfl (lv_at hl 0 rfl) ?_
    refine k_get (ci := 11) (v := .ref (gr g h0 10)) (C := RX11) (T := TX11) (N := 12) hx hb hts (fun _ h0_ => List.mem_cons_of_mem _ (List.mem_append_right _ (List.mem_append_left _ h0_))) hown hK hI i_h0.1 k_1 rfl 10 (by decide) (hts (.fieldLink RX11 72 "DeadlineShare" "refusals" "LDeadlineShare$Refusals;") (List.mem_cons_of_mem _ (List.mem_append_left _ (List.mem_of_getElem? (i := 2) rfl)))) (fun _ h9 => h9) rfl dX11_undo_11 ?_
    have i_32 := kw_11_10 hG i_h0
    refine lv_bipush (v := (-4)) hx hb dX11_undo_14 (by decide) ?_
    obtain ⟨x_34, k_33⟩ := op_4 hI i_32
    refine va_calli (va_runV (As := [.int (-4)]) (rest := []) ⟨hx, hb, hml, hown, hts⟩ (c_X4_add l dC dI g A hG f (gr g h0 10) (-4) i_32) (cwV 1 hts (gi_V (fun w_ h0_ => ⟨List.mem_cons_of_mem _ (List.mem_append_right _ (List.mem_append_right _ (List.mem_append_right _ (List.mem_append_right _ (List.mem_append_right _ (List.mem_append_left _ h0_)))))), (tb_c_X4_add w_ h0_).2⟩) (List.mem_cons_of_mem _ (List.mem_append_left _ (List.mem_of_getElem? (i := 12) rfl))) (List.mem_cons_of_mem _ (List.mem_append_left _ (List.mem_of_getElem? (i := 13) rfl))) (List.mem_cons_of_mem _ (List.mem_append_left _ (List.mem_of_getElem? (i := 14) rfl))) (List.mem_cons_of_mem _ (List.mem_append_left _ (List.mem_of_getElem? (i := 11) rfl)))) rfl rfl rfl (by decide +kernel) ⟨Nat.le_of_ble_eq_true rfl, Nat.le_of_ble_eq_true rfl⟩) ⟨fun a U g mk q => ⟨q.1, q.2.calling rfl rfl⟩, k_recv hK hI i_32.1 k_33 (ci := 4) rfl, fun U hU hW => ⟨rfl, kIn.of hI hK hE hS hU hW⟩⟩ rfl rfl hl.1 rfl (lv_room (Nat.le_of_ble_eq_true rfl)) dX11_undo_16 ⟨Nat.le_of_ble_eq_true rfl, Nat.le_of_ble_eq_true rfl⟩) hS (fun q _ h => h) (fun q h => h) (fun r_37 u t H1 locs ht hvm w_36 hB hz1 hk1 hS => ?_)
    obtain ⟨f_35, hI, kc_38⟩ := hB
    rw [ht] at hI
    have k_40 : f_35 h0 = .inr (11, [.ref (gr g h0 0), .ref (gr g h0 1), .ref (gr g h0 2), .ref (gr g h0 3), .ref (gr g h0 4), .ref (gr g h0 5), .ref (gr g h0 6), .ref (gr g h0 7), .ref (gr g h0 8), .ref (gr g h0 9), .ref (gr g h0 10), .int x_2]) := Kp.at kc_38 i_h0 (by decide) k_1
    have k_41 : f_35 (gr g h0 9) = .inr (1, [.ref (gr g (gr g h0 9) 0), .ref (gr g (gr g h0 9) 1), .int x_6, .int x_7]) := Kp.at kc_38 i_4 (by decide) k_5
    have kp_42 := Kp.call hk0 kc_38 (by decide)
    generalize H1 = H at hI hS ⊢
    refine W.widen (k := 0) (n := 0) (Nat.le_of_ble_eq_true rfl) (Nat.le_of_ble_eq_true rfl) ?_
    exact W.iret (v := r_37) hx hb hr (fun t ht hW => ⟨⟨r_37, (), rfl, trivial, ⟨f_35, k_ret ht hI, kp_42⟩⟩, hS.F ht⟩) hS.2.2 dX11_undo_19
theorem tw_530 : q_g (.code yX11_isImage cX11_isImage 1 (some .boolean)) := ⟨(List.mem_append_right _ (List.mem_of_getElem? (i := 889) (by decide +kernel))), good_of_word (by decide +kernel)⟩
def ow_c_X11_isImage : List Cond := []
def wq_c_X11_isImage : List Cond := .code yX11_isImage cX11_isImage 1 (some .boolean) :: (ow_c_X11_isImage ++ ([] : List Cond))
theorem tb_c_X11_isImage : ∀ w ∈ wq_c_X11_isImage, q_g w := by
  unfold wq_c_X11_isImage ow_c_X11_isImage
  exact q_cons tw_530 (q_app q_nil q_nil)
set_option maxHeartbeats 4000000 in
set_option maxRecDepth 100000 in
theorem c_X11_isImage (l : Launch) (dC : Nat → ClassId) (dI : Nat → Nat → Nat) (g : kG) (A : Nat → Prop) (hG : kWf g) (f : Nat → va_E) (p1 : Int32) : Met l yX11_isImage wq_c_X11_isImage ({ frames := 0, cells := 0, slots := 0, locals := 0 } : Room) (va_Pc [.int p1] (fun U => kIn dC dI g A f U)) (va_Qi (fun (r : Int32) (_ : Unit) => r.toInt = 0 ∨ (0 ≤ p1.toInt ∧ p1.toInt < 2)) (fun (_ : Unit) t => Iv dC dI g A f t.heap) A) 0 0 A := by
  refine Met.ofW (cc := cX11_isImage) (maxL := 1) (ret := (some .boolean)) (by decide) rfl ?_
  intro p e s m args below meth c s₁ B hml hv
  obtain ⟨rfl, hI, hK, hE⟩ := hv
  have hx := B.exec
  have hb := B.bytes
  have hr := B.returns
  have hts := atoms_spec (ws := wq_c_X11_isImage) B.pre
  have hown : s.vm.findClass RX11 = some m.cls := findClass_of_methodNamed B.named
  have hlocks := B.notSynchronized
  have hS : va_S A s.heap s.heap [] := va_S.rf
  have hl := lv_entry ([.int p1]) (n := 1) (Nat.le_of_ble_eq_true rfl)
  rw [lg_entry_eq]
  generalize (lg_sl ([.int p1]) ++ List.replicate (1 - (lg_sl ([.int p1])).length) Slot.unset).toArray = ls at hl ⊢
  have hl : lv_has ls 1 [(0, .int p1)] := hl
  refine lv_iload_n hx hb dX11_isImage_0 rfl (lv_at hl 0 rfl) ?_
  refine lv_if_lt (tgt := 13) hx hb dX11_isImage_1 (by decide) (fun c_1 => ?_) (fun c_1 => ?_)
  · have c_1 := kc_lt rfl (by decide : Int32.toInt 0 = 0) c_1
    refine lv_iconst (v := 0) hx hb dX11_isImage_13 (by decide) ?_
    have w_2 : (0 : Int32).toInt = 0 ∨ (0 ≤ p1.toInt ∧ p1.toInt < 2) := by rw [show Int32.toInt (0) = 0 from by decide]; omega
    exact W.zret (v := 0) hx hb hr rfl (fun t ht hW => ⟨⟨0, (), rfl, w_2, k_ret ht hI⟩, hS.F ht⟩) hS.2.2 dX11_isImage_14
  · have c_1 := kn_lt rfl (by decide : Int32.toInt 0 = 0) c_1
    refine lv_iload_n hx hb dX11_isImage_4 rfl (lv_at hl 0 rfl) ?_
    refine lv_iconst (v := 2) hx hb dX11_isImage_5 (by decide) ?_
    refine lv_icmp_ge (tgt := 13) hx hb dX11_isImage_6 (by decide) (fun c_3 => ?_) (fun c_3 => ?_)
    · have c_3 := kc_le (by decide : Int32.toInt 2 = 2) rfl c_3
      refine lv_iconst (v := 0) hx hb dX11_isImage_13 (by decide) ?_
      have w_4 : (0 : Int32).toInt = 0 ∨ (0 ≤ p1.toInt ∧ p1.toInt < 2) := by rw [show Int32.toInt (0) = 0 from by decide]; omega
      exact W.zret (v := 0) hx hb hr rfl (fun t ht hW => ⟨⟨0, (), rfl, w_4, k_ret ht hI⟩, hS.F ht⟩) hS.2.2 dX11_isImage_14
    · have c_3 := kn_le (by decide : Int32.toInt 2 = 2) rfl c_3
      refine lv_iconst (v := 1) hx hb dX11_isImage_9 (by decide) ?_
      refine lv_goto (tgt := 14) hx hb dX11_isImage_10 (by decide) ?_
      have w_5 : (1 : Int32).toInt = 0 ∨ (0 ≤ p1.toInt ∧ p1.toInt < 2) := by rw [show Int32.toInt (1) = 1 from by decide]; omega
      exact W.zret (v := 1) hx hb hr rfl (fun t ht hW => ⟨⟨1, (), rfl, w_5, k_ret ht hI⟩, hS.F ht⟩) hS.2.2 dX11_isImage_14
theorem tw_531 : q_g (.fieldLink RX11 58 "DeadlineShare" "imageKept" "[Z") := ⟨(List.mem_append_right _ (List.mem_of_getElem? (i := 328) (by decide +kernel))), good_of_word (by decide +kernel)⟩
theorem tw_532 : q_g (.methodLink RX11 238 yX6_copy) := ⟨(List.mem_append_right _ (List.mem_of_getElem? (i := 890) (by decide +kernel))), good_of_word (by decide +kernel)⟩
theorem tw_533 : q_g (.fieldLink RX11 54 "DeadlineShare" "images" "[LDeadlineShare$State;") := ⟨(List.mem_append_right _ (List.mem_of_getElem? (i := 327) (by decide +kernel))), good_of_word (by decide +kernel)⟩
theorem tw_534 : q_g (.static yX11_isImage) := ⟨(List.mem_append_right _ (List.mem_of_getElem? (i := 888) (by decide +kernel))), good_of_word (by decide +kernel)⟩
theorem tw_535 : q_g (.methodLink RX11 235 yX11_isImage) := ⟨(List.mem_append_right _ (List.mem_of_getElem? (i := 887) (by decide +kernel))), good_of_word (by decide +kernel)⟩
theorem tw_536 : q_g (.code yX11_image cX11_image 2 (some .int)) := ⟨(List.mem_append_right _ (List.mem_of_getElem? (i := 886) (by decide +kernel))), good_of_word (by decide +kernel)⟩
def ow_c_X11_image : List Cond := [.methodLink RX11 235 yX11_isImage, .static yX11_isImage, .initialized RX11, .fieldLink RX11 54 "DeadlineShare" "images" "[LDeadlineShare$State;", .fieldLink RX11 37 "DeadlineShare" "now" "LDeadlineShare$State;", .methodLink RX11 238 yX6_copy, .instanceMethod yX6_copy, .selects RX6 yX6_copy yX6_copy, .initialized RX6, .fieldLink RX11 58 "DeadlineShare" "imageKept" "[Z", .fieldLink RX11 72 "DeadlineShare" "refusals" "LDeadlineShare$Refusals;", .fieldLink RX11 223 "DeadlineShare$State" "time" "I", .methodLink RX11 95 yX4_none, .instanceMethod yX4_none, .selects RX4 yX4_none yX4_none, .initialized RX4, .methodLink RX11 84 yX4_add, .instanceMethod yX4_add, .selects RX4 yX4_add yX4_add]
def wq_c_X11_image : List Cond := .code yX11_image cX11_image 2 (some .int) :: (ow_c_X11_image ++ (wq_c_X11_isImage ++ (u_ws RX11 TX11 12 ++ (wq_c_X6_copy ++ (u_ws RX6 TX6 10 ++ (wq_c_X4_none ++ (wq_c_X4_add ++ ([] : List Cond))))))))
theorem tb_c_X11_image : ∀ w ∈ wq_c_X11_image, q_g w := by
  unfold wq_c_X11_image ow_c_X11_image
  exact q_cons tw_536 (q_app (q_cons tw_535 (q_cons tw_534 (q_cons tw_56 (q_cons tw_533 (q_cons tw_479 (q_cons tw_532 (q_cons tw_160 (q_cons tw_159 (q_cons tw_47 (q_cons tw_531 (q_cons tw_443 (q_cons tw_523 (q_cons tw_442 (q_cons tw_441 (q_cons tw_440 (q_cons tw_204 (q_cons tw_439 (q_cons tw_438 (q_cons tw_437 q_nil))))))))))))))))))) (q_app tb_c_X11_isImage (q_app tu_X11 (q_app tb_c_X6_copy (q_app tu_X6 (q_app tb_c_X4_none (q_app tb_c_X4_add q_nil)))))))
set_option maxHeartbeats 4000000 in
set_option maxRecDepth 100000 in
theorem c_X11_image (l : Launch) (dC : Nat → ClassId) (dI : Nat → Nat → Nat) (g : kG) (A : Nat → Prop) (hG : kWf g) (f : Nat → va_E) (h0 : Nat) (p1 : Int32) (i_h0 : ik g 11 h0) : Met l yX11_image wq_c_X11_image ({ frames := 4, cells := 0, slots := 0, locals := 104 } : Room) (va_Pc [.ref h0, .int p1] (fun U => kIn dC dI g A f U)) (va_Qi (fun (r : Int32) (_ : Unit) => True) (fun (_ : Unit) t => ∃ f1 : Nat → va_E, Iv dC dI g A f1 t.heap ∧ Kp g [4, 5, 6, 8, 10, 23, 24, 26, 28] f f1) A) 0 0 A := by
  refine Met.ofW (cc := cX11_image) (maxL := 2) (ret := (some .int)) (by decide) rfl ?_
  intro p e s m args below meth c s₁ B hml hv
  obtain ⟨rfl, hI, hK, hE⟩ := hv
  have hx := B.exec
  have hb := B.bytes
  have hr := B.returns
  have hts := atoms_spec (ws := wq_c_X11_image) B.pre
  have hown : s.vm.findClass RX11 = some m.cls := findClass_of_methodNamed B.named
  have hlocks := B.notSynchronized
  have hS : va_S A s.heap s.heap [] := va_S.rf
  have hk0 : Kp g [4, 5, 6, 8, 10, 23, 24, 26, 28] f f := Kp.rf
  have hl := lv_entry ([.ref h0, .int p1]) (n := 2) (Nat.le_of_ble_eq_true rfl)
  rw [lg_entry_eq]
  generalize (lg_sl ([.ref h0, .int p1]) ++ List.replicate (2 - (lg_sl ([.ref h0, .int p1])).length) Slot.unset).toArray = ls at hl ⊢
  have hl : lv_has ls 2 [(0, .ref h0), (1, .int p1)] := hl
  refine lv_iload_n hx hb dX11_image_0 rfl (lv_at hl 1 rfl) ?_
  refine va_calli (va_runS (As := [.int p1]) (rest := []) ⟨hx, hb, hml, hown, hts⟩ (c_X11_isImage l dC dI g A hG f p1) (va_cwS 1 hts (gi_S (fun w_ h0_ => ⟨List.mem_cons_of_mem _ (List.mem_append_right _ (List.mem_append_left _ h0_)), (tb_c_X11_isImage w_ h0_).2⟩) (List.mem_cons_of_mem _ (List.mem_append_left _ (List.mem_of_getElem? (i := 0) rfl))) (List.mem_cons_of_mem _ (List.mem_append_left _ (List.mem_of_getElem? (i := 1) rfl))) (List.mem_cons_of_mem _ (List.mem_append_left _ (List.mem_of_getElem? (i := 2) rfl)))) rfl rfl rfl (by decide +kernel) ⟨Nat.le_of_ble_eq_true rfl, Nat.le_of_ble_eq_true rfl⟩) ⟨fun a U g mk q => ⟨q.1, q.2.calling rfl rfl⟩, fun U hU hW => ⟨rfl, kIn.of hI hK hE hS hU hW⟩⟩ rfl rfl hl.1 rfl (lv_room (Nat.le_of_ble_eq_true rfl)) dX11_image_1 ⟨Nat.le_of_ble_eq_true rfl, Nat.le_of_ble_eq_true rfl⟩) hS (fun q _ h => h) (fun q h => h) (fun r_2 u t H1 locs ht hvm w_1 hB hz1 hk1 hS => ?_)
  have hI : Iv dC dI g A f t.heap := hB
  rw [ht] at hI
  generalize H1 = H at hI hS ⊢
  refine W.widen (k := 0) (n := 0) (Nat.le_of_ble_eq_true rfl) (Nat.le_of_ble_eq_true rfl) ?_
  have w_1 : r_2.toInt = 0 ∨ (0 ≤ p1.toInt ∧ p1.toInt < 2) := w_1
  refine lv_if_ne (tgt := 16) hx hb dX11_image_4 (by decide) (fun c_3 => ?_) (fun c_3 => ?_)
  · have c_3 := kn_eq rfl (by decide : Int32.toInt 0 = 0) c_3
    refine lv_aload_n hx hb dX11_image_16 rfl (lv_at hl 0 rfl) ?_
    obtain ⟨x_5, k_4⟩ := op_11 hI i_h0
    refine k_get (ci := 11) (v := .ref (gr g h0 7)) (C := RX11) (T := TX11) (N := 12) hx hb hts (fun _ h0_ => List.mem_cons_of_mem _ (List.mem_append_right _ (List.mem_append_right _ (List.mem_append_left _ h0_)))) hown hK hI i_h0.1 k_4 rfl 7 (by decide) (hts (.fieldLink RX11 54 "DeadlineShare" "images" "[LDeadlineShare$State;") (List.mem_cons_of_mem _ (List.mem_append_left _ (List.mem_of_getElem? (i := 3) rfl)))) (fun _ h9 => h9) rfl dX11_image_17 ?_
    have i_7 := kw_11_7 hG i_h0
    refine lv_iload_n hx hb dX11_image_20 rfl (lv_at hl 1 rfl) ?_
    obtain ⟨q_9, k_8, b_10⟩ := op_21 hI i_7
    refine k_aald hx hb hK hI i_7.1 5 k_8 rfl (vp_in_iff.mpr (by omega)) b_10 (fun _ hj => kw_21 hG i_7 hj) dX11_image_21 (fun a_11 i_12 => ?_)
    refine lv_aload_n hx hb dX11_image_22 rfl (lv_at hl 0 rfl) ?_
    refine k_get (ci := 11) (v := .ref (gr g h0 3)) (C := RX11) (T := TX11) (N := 12) hx hb hts (fun _ h0_ => List.mem_cons_of_mem _ (List.mem_append_right _ (List.mem_append_right _ (List.mem_append_left _ h0_)))) hown hK hI i_h0.1 k_4 rfl 3 (by decide) (hts (.fieldLink RX11 37 "DeadlineShare" "now" "LDeadlineShare$State;") (List.mem_cons_of_mem _ (List.mem_append_left _ (List.mem_of_getElem? (i := 4) rfl)))) (fun _ h9 => h9) rfl dX11_image_23 ?_
    have i_14 := kw_11_3 hG i_h0
    obtain ⟨x_16, x_17, x_18, x_19, x_20, k_15, b_21, b_22⟩ := op_6 hI i_12
    refine va_callv (va_runV (As := [.ref (gr g h0 3)]) (rest := []) ⟨hx, hb, hml, hown, hts⟩ (c_X6_copy l dC dI g A hG f a_11 (gr g h0 3) i_12 i_14) (cwV 1 hts (gi_V (fun w_ h0_ => ⟨List.mem_cons_of_mem _ (List.mem_append_right _ (List.mem_append_right _ (List.mem_append_right _ (List.mem_append_left _ h0_)))), (tb_c_X6_copy w_ h0_).2⟩) (List.mem_cons_of_mem _ (List.mem_append_left _ (List.mem_of_getElem? (i := 5) rfl))) (List.mem_cons_of_mem _ (List.mem_append_left _ (List.mem_of_getElem? (i := 6) rfl))) (List.mem_cons_of_mem _ (List.mem_append_left _ (List.mem_of_getElem? (i := 7) rfl))) (List.mem_cons_of_mem _ (List.mem_append_left _ (List.mem_of_getElem? (i := 8) rfl)))) rfl rfl rfl (by decide +kernel) ⟨Nat.le_of_ble_eq_true rfl, Nat.le_of_ble_eq_true rfl⟩) ⟨fun a U g mk q => ⟨q.1, q.2.calling rfl rfl⟩, k_recv hK hI i_12.1 k_15 (ci := 6) rfl, fun U hU hW => ⟨rfl, kIn.of hI hK hE hS hU hW⟩⟩ rfl rfl hl.1 rfl (lv_room (Nat.le_of_ble_eq_true rfl)) dX11_image_26 ⟨Nat.le_of_ble_eq_true rfl, Nat.le_of_ble_eq_true rfl⟩) hS (fun q _ h => h) (fun q h => h) (fun u t H1 locs ht hvm _ hB hz1 hk1 hS => ?_)
    obtain ⟨f_23, hI, kc_25⟩ := hB
    rw [ht] at hI
    have k_27 : f_23 h0 = .inr (11, [.ref (gr g h0 0), .ref (gr g h0 1), .ref (gr g h0 2), .ref (gr g h0 3), .ref (gr g h0 4), .ref (gr g h0 5), .ref (gr g h0 6), .ref (gr g h0 7), .ref (gr g h0 8), .ref (gr g h0 9), .ref (gr g h0 10), .int x_5]) := Kp.at kc_25 i_h0 (by decide) k_4
    have k_28 : f_23 (gr g h0 7) = .inl (gc g 5, 2, .inr (.inr (.inr (.inr q_9)))) := Kp.at kc_25 i_7 (by decide) k_8
    have kp_29 := Kp.call hk0 kc_25 (by decide)
    generalize H1 = H at hI hS ⊢
    refine W.widen (k := 0) (n := 0) (Nat.le_of_ble_eq_true rfl) (Nat.le_of_ble_eq_true rfl) ?_
    refine lv_aload_n hx hb dX11_image_29 rfl (lv_at hl 0 rfl) ?_
    refine k_get (ci := 11) (v := .ref (gr g h0 8)) (C := RX11) (T := TX11) (N := 12) hx hb hts (fun _ h0_ => List.mem_cons_of_mem _ (List.mem_append_right _ (List.mem_append_right _ (List.mem_append_left _ h0_)))) hown hK hI i_h0.1 k_27 rfl 8 (by decide) (hts (.fieldLink RX11 58 "DeadlineShare" "imageKept" "[Z") (List.mem_cons_of_mem _ (List.mem_append_left _ (List.mem_of_getElem? (i := 9) rfl)))) (fun _ h9 => h9) rfl dX11_image_30 ?_
    have i_31 := kw_11_8 hG i_h0
    refine lv_iload_n hx hb dX11_image_33 rfl (lv_at hl 1 rfl) ?_
    refine lv_iconst (v := 1) hx hb dX11_image_34 (by decide) ?_
    obtain ⟨q_33, k_32⟩ := op_26 hI i_31
    refine k_zast hx hb hK hI hS i_31.1 3 k_32 rfl (vp_in_iff.mpr (by omega)) (cl_26 i_31) dX11_image_35 (fun f_34 H locs e_35 hI hS => ?_)
    generalize eq_36 : upd q_33 (Int32.toNatClampNeg p1) (vp_nar .boolean 1) = q_36 at e_35
    have k_38 : f_34 h0 = .inr (11, [.ref (gr g h0 0), .ref (gr g h0 1), .ref (gr g h0 2), .ref (gr g h0 3), .ref (gr g h0 4), .ref (gr g h0 5), .ref (gr g h0 6), .ref (gr g h0 7), .ref (gr g h0 8), .ref (gr g h0 9), .ref (gr g h0 10), .int x_5]) := by rw [e_35, va_up_ne _ _ (ik_ne i_h0 i_31 (by decide))]; exact k_27
    have k_39 : f_34 (gr g h0 7) = .inl (gc g 5, 2, .inr (.inr (.inr (.inr q_9)))) := by rw [e_35, va_up_ne _ _ (ik_ne i_7 i_31 (by decide))]; exact k_28
    have k_40 : f_34 (gr g h0 8) = .inl (gc g 3, 2, .inl q_36) := by rw [e_35]; exact va_up_self _ _ _
    have kp_37 := Kp.put kp_29 i_31 (by decide) e_35
    refine lv_aload_n hx hb dX11_image_36 rfl (lv_at hl 0 rfl) ?_
    refine k_get (ci := 11) (v := .ref (gr g h0 10)) (C := RX11) (T := TX11) (N := 12) hx hb hts (fun _ h0_ => List.mem_cons_of_mem _ (List.mem_append_right _ (List.mem_append_right _ (List.mem_append_left _ h0_)))) hown hK hI i_h0.1 k_38 rfl 10 (by decide) (hts (.fieldLink RX11 72 "DeadlineShare" "refusals" "LDeadlineShare$Refusals;") (List.mem_cons_of_mem _ (List.mem_append_left _ (List.mem_of_getElem? (i := 10) rfl)))) (fun _ h9 => h9) rfl dX11_image_37 ?_
    have i_42 := kw_11_10 hG i_h0
    refine lv_aload_n hx hb dX11_image_40 rfl (lv_at hl 0 rfl) ?_
    refine k_get (ci := 11) (v := .ref (gr g h0 3)) (C := RX11) (T := TX11) (N := 12) hx hb hts (fun _ h0_ => List.mem_cons_of_mem _ (List.mem_append_right _ (List.mem_append_right _ (List.mem_append_left _ h0_)))) hown hK hI i_h0.1 k_38 rfl 3 (by decide) (hts (.fieldLink RX11 37 "DeadlineShare" "now" "LDeadlineShare$State;") (List.mem_cons_of_mem _ (List.mem_append_left _ (List.mem_of_getElem? (i := 4) rfl)))) (fun _ h9 => h9) rfl dX11_image_41 ?_
    obtain ⟨x_46, x_47, x_48, x_49, x_50, k_45, b_51, b_52⟩ := op_6 hI i_14
    refine k_get (ci := 6) (v := .int x_47) (C := RX6) (T := TX6) (N := 10) hx hb hts (fun _ h0_ => List.mem_cons_of_mem _ (List.mem_append_right _ (List.mem_append_right _ (List.mem_append_right _ (List.mem_append_right _ (List.mem_append_left _ h0_)))))) hown hK hI i_14.1 k_45 rfl 6 (by decide) (hts (.fieldLink RX11 223 "DeadlineShare$State" "time" "I") (List.mem_cons_of_mem _ (List.mem_append_left _ (List.mem_of_getElem? (i := 11) rfl)))) (fun _ h9 => h9) rfl dX11_image_44 ?_
    obtain ⟨x_54, k_53⟩ := op_4 hI i_42
    refine va_calli (va_runV (As := [.int x_47]) (rest := []) ⟨hx, hb, hml, hown, hts⟩ (c_X4_none l dC dI g A hG f_34 (gr g h0 10) x_47 i_42) (cwV 1 hts (gi_V (fun w_ h0_ => ⟨List.mem_cons_of_mem _ (List.mem_append_right _ (List.mem_append_right _ (List.mem_append_right _ (List.mem_append_right _ (List.mem_append_right _ (List.mem_append_left _ h0_)))))), (tb_c_X4_none w_ h0_).2⟩) (List.mem_cons_of_mem _ (List.mem_append_left _ (List.mem_of_getElem? (i := 12) rfl))) (List.mem_cons_of_mem _ (List.mem_append_left _ (List.mem_of_getElem? (i := 13) rfl))) (List.mem_cons_of_mem _ (List.mem_append_left _ (List.mem_of_getElem? (i := 14) rfl))) (List.mem_cons_of_mem _ (List.mem_append_left _ (List.mem_of_getElem? (i := 15) rfl)))) rfl rfl rfl (by decide +kernel) ⟨Nat.le_of_ble_eq_true rfl, Nat.le_of_ble_eq_true rfl⟩) ⟨fun a U g mk q => ⟨q.1, q.2.calling rfl rfl⟩, k_recv hK hI i_42.1 k_53 (ci := 4) rfl, fun U hU hW => ⟨rfl, kIn.of hI hK hE hS hU hW⟩⟩ rfl rfl hl.1 rfl (lv_room (Nat.le_of_ble_eq_true rfl)) dX11_image_47 ⟨Nat.le_of_ble_eq_true rfl, Nat.le_of_ble_eq_true rfl⟩) hS (fun q _ h => h) (fun q h => h) (fun r_57 u t H1 locs ht hvm w_56 hB hz1 hk1 hS => ?_)
    obtain ⟨f_55, hI, kc_58⟩ := hB
    rw [ht] at hI
    have k_60 : f_55 h0 = .inr (11, [.ref (gr g h0 0), .ref (gr g h0 1), .ref (gr g h0 2), .ref (gr g h0 3), .ref (gr g h0 4), .ref (gr g h0 5), .ref (gr g h0 6), .ref (gr g h0 7), .ref (gr g h0 8), .ref (gr g h0 9), .ref (gr g h0 10), .int x_5]) := Kp.at kc_58 i_h0 (by decide) k_38
    have k_61 : f_55 (gr g h0 7) = .inl (gc g 5, 2, .inr (.inr (.inr (.inr q_9)))) := Kp.at kc_58 i_7 (by decide) k_39
    have k_62 : f_55 (gr g h0 8) = .inl (gc g 3, 2, .inl q_36) := Kp.at kc_58 i_31 (by decide) k_40
    have k_63 : f_55 (gr g h0 3) = .inr (6, [.ref (gr g (gr g h0 3) 0), .ref (gr g (gr g h0 3) 1), .ref (gr g (gr g h0 3) 2), .ref (gr g (gr g h0 3) 3), .ref (gr g (gr g h0 3) 4), .int x_46, .int x_47, .long x_48, .int x_49, .int x_50]) := Kp.at kc_58 i_14 (by decide) k_45
    have kp_64 := Kp.call kp_37 kc_58 (by decide)
    generalize H1 = H at hI hS ⊢
    refine W.widen (k := 0) (n := 0) (Nat.le_of_ble_eq_true rfl) (Nat.le_of_ble_eq_true rfl) ?_
    exact W.iret (v := r_57) hx hb hr (fun t ht hW => ⟨⟨r_57, (), rfl, trivial, ⟨f_55, k_ret ht hI, kp_64⟩⟩, hS.F ht⟩) hS.2.2 dX11_image_50
  · have c_3 := kc_eq rfl (by decide : Int32.toInt 0 = 0) c_3
    refine lv_aload_n hx hb dX11_image_7 rfl (lv_at hl 0 rfl) ?_
    obtain ⟨x_66, k_65⟩ := op_11 hI i_h0
    refine k_get (ci := 11) (v := .ref (gr g h0 10)) (C := RX11) (T := TX11) (N := 12) hx hb hts (fun _ h0_ => List.mem_cons_of_mem _ (List.mem_append_right _ (List.mem_append_right _ (List.mem_append_left _ h0_)))) hown hK hI i_h0.1 k_65 rfl 10 (by decide) (hts (.fieldLink RX11 72 "DeadlineShare" "refusals" "LDeadlineShare$Refusals;") (List.mem_cons_of_mem _ (List.mem_append_left _ (List.mem_of_getElem? (i := 10) rfl)))) (fun _ h9 => h9) rfl dX11_image_8 ?_
    have i_68 := kw_11_10 hG i_h0
    refine lv_iconst (v := (-1)) hx hb dX11_image_11 (by decide) ?_
    obtain ⟨x_70, k_69⟩ := op_4 hI i_68
    refine va_calli (va_runV (As := [.int (-1)]) (rest := []) ⟨hx, hb, hml, hown, hts⟩ (c_X4_add l dC dI g A hG f (gr g h0 10) (-1) i_68) (cwV 1 hts (gi_V (fun w_ h0_ => ⟨List.mem_cons_of_mem _ (List.mem_append_right _ (List.mem_append_right _ (List.mem_append_right _ (List.mem_append_right _ (List.mem_append_right _ (List.mem_append_right _ (List.mem_append_left _ h0_))))))), (tb_c_X4_add w_ h0_).2⟩) (List.mem_cons_of_mem _ (List.mem_append_left _ (List.mem_of_getElem? (i := 16) rfl))) (List.mem_cons_of_mem _ (List.mem_append_left _ (List.mem_of_getElem? (i := 17) rfl))) (List.mem_cons_of_mem _ (List.mem_append_left _ (List.mem_of_getElem? (i := 18) rfl))) (List.mem_cons_of_mem _ (List.mem_append_left _ (List.mem_of_getElem? (i := 15) rfl)))) rfl rfl rfl (by decide +kernel) ⟨Nat.le_of_ble_eq_true rfl, Nat.le_of_ble_eq_true rfl⟩) ⟨fun a U g mk q => ⟨q.1, q.2.calling rfl rfl⟩, k_recv hK hI i_68.1 k_69 (ci := 4) rfl, fun U hU hW => ⟨rfl, kIn.of hI hK hE hS hU hW⟩⟩ rfl rfl hl.1 rfl (lv_room (Nat.le_of_ble_eq_true rfl)) dX11_image_12 ⟨Nat.le_of_ble_eq_true rfl, Nat.le_of_ble_eq_true rfl⟩) hS (fun q _ h => h) (fun q h => h) (fun r_73 u t H1 locs ht hvm w_72 hB hz1 hk1 hS => ?_)
    obtain ⟨f_71, hI, kc_74⟩ := hB
    rw [ht] at hI
    have k_76 : f_71 h0 = .inr (11, [.ref (gr g h0 0), .ref (gr g h0 1), .ref (gr g h0 2), .ref (gr g h0 3), .ref (gr g h0 4), .ref (gr g h0 5), .ref (gr g h0 6), .ref (gr g h0 7), .ref (gr g h0 8), .ref (gr g h0 9), .ref (gr g h0 10), .int x_66]) := Kp.at kc_74 i_h0 (by decide) k_65
    have kp_77 := Kp.call hk0 kc_74 (by decide)
    generalize H1 = H at hI hS ⊢
    refine W.widen (k := 0) (n := 0) (Nat.le_of_ble_eq_true rfl) (Nat.le_of_ble_eq_true rfl) ?_
    exact W.iret (v := r_73) hx hb hr (fun t ht hW => ⟨⟨r_73, (), rfl, trivial, ⟨f_71, k_ret ht hI, kp_77⟩⟩, hS.F ht⟩) hS.2.2 dX11_image_15
theorem tw_537 : q_g (.code yX11_back cX11_back 2 (some .int)) := ⟨(List.mem_append_right _ (List.mem_of_getElem? (i := 894) (by decide +kernel))), good_of_word (by decide +kernel)⟩
def ow_c_X11_back : List Cond := [.methodLink RX11 235 yX11_isImage, .static yX11_isImage, .initialized RX11, .fieldLink RX11 58 "DeadlineShare" "imageKept" "[Z", .fieldLink RX11 37 "DeadlineShare" "now" "LDeadlineShare$State;", .fieldLink RX11 54 "DeadlineShare" "images" "[LDeadlineShare$State;", .methodLink RX11 238 yX6_copy, .instanceMethod yX6_copy, .selects RX6 yX6_copy yX6_copy, .initialized RX6, .fieldLink RX11 65 "DeadlineShare" "history" "LDeadlineShare$History;", .fieldLink RX11 230 "DeadlineShare$History" "size" "I", .fieldLink RX11 72 "DeadlineShare" "refusals" "LDeadlineShare$Refusals;", .fieldLink RX11 223 "DeadlineShare$State" "time" "I", .methodLink RX11 95 yX4_none, .instanceMethod yX4_none, .selects RX4 yX4_none yX4_none, .initialized RX4, .methodLink RX11 84 yX4_add, .instanceMethod yX4_add, .selects RX4 yX4_add yX4_add]
def wq_c_X11_back : List Cond := .code yX11_back cX11_back 2 (some .int) :: (ow_c_X11_back ++ (wq_c_X11_isImage ++ (u_ws RX11 TX11 12 ++ (wq_c_X6_copy ++ (u_ws RX1 TX1 4 ++ (u_ws RX6 TX6 10 ++ (wq_c_X4_none ++ (wq_c_X4_add ++ ([] : List Cond)))))))))
theorem tb_c_X11_back : ∀ w ∈ wq_c_X11_back, q_g w := by
  unfold wq_c_X11_back ow_c_X11_back
  exact q_cons tw_537 (q_app (q_cons tw_535 (q_cons tw_534 (q_cons tw_56 (q_cons tw_531 (q_cons tw_479 (q_cons tw_533 (q_cons tw_532 (q_cons tw_160 (q_cons tw_159 (q_cons tw_47 (q_cons tw_477 (q_cons tw_528 (q_cons tw_443 (q_cons tw_523 (q_cons tw_442 (q_cons tw_441 (q_cons tw_440 (q_cons tw_204 (q_cons tw_439 (q_cons tw_438 (q_cons tw_437 q_nil))))))))))))))))))))) (q_app tb_c_X11_isImage (q_app tu_X11 (q_app tb_c_X6_copy (q_app tu_X1 (q_app tu_X6 (q_app tb_c_X4_none (q_app tb_c_X4_add q_nil))))))))
set_option maxHeartbeats 4000000 in
set_option maxRecDepth 100000 in
theorem c_X11_back (l : Launch) (dC : Nat → ClassId) (dI : Nat → Nat → Nat) (g : kG) (A : Nat → Prop) (hG : kWf g) (f : Nat → va_E) (h0 : Nat) (p1 : Int32) (i_h0 : ik g 11 h0) : Met l yX11_back wq_c_X11_back ({ frames := 4, cells := 0, slots := 0, locals := 104 } : Room) (va_Pc [.ref h0, .int p1] (fun U => kIn dC dI g A f U)) (va_Qi (fun (r : Int32) (_ : Unit) => True) (fun (_ : Unit) t => ∃ f1 : Nat → va_E, Iv dC dI g A f1 t.heap ∧ Kp g [1, 4, 5, 6, 8, 10, 23, 24, 28] f f1) A) 0 0 A := by
  refine Met.ofW (cc := cX11_back) (maxL := 2) (ret := (some .int)) (by decide) rfl ?_
  intro p e s m args below meth c s₁ B hml hv
  obtain ⟨rfl, hI, hK, hE⟩ := hv
  have hx := B.exec
  have hb := B.bytes
  have hr := B.returns
  have hts := atoms_spec (ws := wq_c_X11_back) B.pre
  have hown : s.vm.findClass RX11 = some m.cls := findClass_of_methodNamed B.named
  have hlocks := B.notSynchronized
  have hS : va_S A s.heap s.heap [] := va_S.rf
  have hk0 : Kp g [1, 4, 5, 6, 8, 10, 23, 24, 28] f f := Kp.rf
  have hl := lv_entry ([.ref h0, .int p1]) (n := 2) (Nat.le_of_ble_eq_true rfl)
  rw [lg_entry_eq]
  generalize (lg_sl ([.ref h0, .int p1]) ++ List.replicate (2 - (lg_sl ([.ref h0, .int p1])).length) Slot.unset).toArray = ls at hl ⊢
  have hl : lv_has ls 2 [(0, .ref h0), (1, .int p1)] := hl
  refine lv_iload_n hx hb dX11_back_0 rfl (lv_at hl 1 rfl) ?_
  refine va_calli (va_runS (As := [.int p1]) (rest := []) ⟨hx, hb, hml, hown, hts⟩ (c_X11_isImage l dC dI g A hG f p1) (va_cwS 1 hts (gi_S (fun w_ h0_ => ⟨List.mem_cons_of_mem _ (List.mem_append_right _ (List.mem_append_left _ h0_)), (tb_c_X11_isImage w_ h0_).2⟩) (List.mem_cons_of_mem _ (List.mem_append_left _ (List.mem_of_getElem? (i := 0) rfl))) (List.mem_cons_of_mem _ (List.mem_append_left _ (List.mem_of_getElem? (i := 1) rfl))) (List.mem_cons_of_mem _ (List.mem_append_left _ (List.mem_of_getElem? (i := 2) rfl)))) rfl rfl rfl (by decide +kernel) ⟨Nat.le_of_ble_eq_true rfl, Nat.le_of_ble_eq_true rfl⟩) ⟨fun a U g mk q => ⟨q.1, q.2.calling rfl rfl⟩, fun U hU hW => ⟨rfl, kIn.of hI hK hE hS hU hW⟩⟩ rfl rfl hl.1 rfl (lv_room (Nat.le_of_ble_eq_true rfl)) dX11_back_1 ⟨Nat.le_of_ble_eq_true rfl, Nat.le_of_ble_eq_true rfl⟩) hS (fun q _ h => h) (fun q h => h) (fun r_2 u t H1 locs ht hvm w_1 hB hz1 hk1 hS => ?_)
  have hI : Iv dC dI g A f t.heap := hB
  rw [ht] at hI
  generalize H1 = H at hI hS ⊢
  refine W.widen (k := 0) (n := 0) (Nat.le_of_ble_eq_true rfl) (Nat.le_of_ble_eq_true rfl) ?_
  have w_1 : r_2.toInt = 0 ∨ (0 ≤ p1.toInt ∧ p1.toInt < 2) := w_1
  refine lv_if_ne (tgt := 16) hx hb dX11_back_4 (by decide) (fun c_3 => ?_) (fun c_3 => ?_)
  · have c_3 := kn_eq rfl (by decide : Int32.toInt 0 = 0) c_3
    refine lv_aload_n hx hb dX11_back_16 rfl (lv_at hl 0 rfl) ?_
    obtain ⟨x_5, k_4⟩ := op_11 hI i_h0
    refine k_get (ci := 11) (v := .ref (gr g h0 8)) (C := RX11) (T := TX11) (N := 12) hx hb hts (fun _ h0_ => List.mem_cons_of_mem _ (List.mem_append_right _ (List.mem_append_right _ (List.mem_append_left _ h0_)))) hown hK hI i_h0.1 k_4 rfl 8 (by decide) (hts (.fieldLink RX11 58 "DeadlineShare" "imageKept" "[Z") (List.mem_cons_of_mem _ (List.mem_append_left _ (List.mem_of_getElem? (i := 3) rfl)))) (fun _ h9 => h9) rfl dX11_back_17 ?_
    have i_7 := kw_11_8 hG i_h0
    refine lv_iload_n hx hb dX11_back_20 rfl (lv_at hl 1 rfl) ?_
    obtain ⟨q_9, k_8⟩ := op_26 hI i_7
    refine k_zald hx hb hK hI i_7.1 3 k_8 rfl (vp_in_iff.mpr (by omega)) dX11_back_21 ?_
    refine lv_topi (fun v_10 ev_10 => ?_)
    refine lv_if_ne (tgt := 35) hx hb dX11_back_22 (by decide) (fun c_11 => ?_) (fun c_11 => ?_)
    · have c_11 := kn_eq rfl (by decide : Int32.toInt 0 = 0) c_11
      refine lv_aload_n hx hb dX11_back_35 rfl (lv_at hl 0 rfl) ?_
      refine k_get (ci := 11) (v := .ref (gr g h0 3)) (C := RX11) (T := TX11) (N := 12) hx hb hts (fun _ h0_ => List.mem_cons_of_mem _ (List.mem_append_right _ (List.mem_append_right _ (List.mem_append_left _ h0_)))) hown hK hI i_h0.1 k_4 rfl 3 (by decide) (hts (.fieldLink RX11 37 "DeadlineShare" "now" "LDeadlineShare$State;") (List.mem_cons_of_mem _ (List.mem_append_left _ (List.mem_of_getElem? (i := 4) rfl)))) (fun _ h9 => h9) rfl dX11_back_36 ?_
      have i_13 := kw_11_3 hG i_h0
      refine lv_aload_n hx hb dX11_back_39 rfl (lv_at hl 0 rfl) ?_
      refine k_get (ci := 11) (v := .ref (gr g h0 7)) (C := RX11) (T := TX11) (N := 12) hx hb hts (fun _ h0_ => List.mem_cons_of_mem _ (List.mem_append_right _ (List.mem_append_right _ (List.mem_append_left _ h0_)))) hown hK hI i_h0.1 k_4 rfl 7 (by decide) (hts (.fieldLink RX11 54 "DeadlineShare" "images" "[LDeadlineShare$State;") (List.mem_cons_of_mem _ (List.mem_append_left _ (List.mem_of_getElem? (i := 5) rfl)))) (fun _ h9 => h9) rfl dX11_back_40 ?_
      have i_15 := kw_11_7 hG i_h0
      refine lv_iload_n hx hb dX11_back_43 rfl (lv_at hl 1 rfl) ?_
      obtain ⟨q_17, k_16, b_18⟩ := op_21 hI i_15
      refine k_aald hx hb hK hI i_15.1 5 k_16 rfl (vp_in_iff.mpr (by omega)) b_18 (fun _ hj => kw_21 hG i_15 hj) dX11_back_44 (fun a_19 i_20 => ?_)
      obtain ⟨x_22, x_23, x_24, x_25, x_26, k_21, b_27, b_28⟩ := op_6 hI i_13
      refine va_callv (va_runV (As := [.ref a_19]) (rest := []) ⟨hx, hb, hml, hown, hts⟩ (c_X6_copy l dC dI g A hG f (gr g h0 3) a_19 i_13 i_20) (cwV 1 hts (gi_V (fun w_ h0_ => ⟨List.mem_cons_of_mem _ (List.mem_append_right _ (List.mem_append_right _ (List.mem_append_right _ (List.mem_append_left _ h0_)))), (tb_c_X6_copy w_ h0_).2⟩) (List.mem_cons_of_mem _ (List.mem_append_left _ (List.mem_of_getElem? (i := 6) rfl))) (List.mem_cons_of_mem _ (List.mem_append_left _ (List.mem_of_getElem? (i := 7) rfl))) (List.mem_cons_of_mem _ (List.mem_append_left _ (List.mem_of_getElem? (i := 8) rfl))) (List.mem_cons_of_mem _ (List.mem_append_left _ (List.mem_of_getElem? (i := 9) rfl)))) rfl rfl rfl (by decide +kernel) ⟨Nat.le_of_ble_eq_true rfl, Nat.le_of_ble_eq_true rfl⟩) ⟨fun a U g mk q => ⟨q.1, q.2.calling rfl rfl⟩, k_recv hK hI i_13.1 k_21 (ci := 6) rfl, fun U hU hW => ⟨rfl, kIn.of hI hK hE hS hU hW⟩⟩ rfl rfl hl.1 rfl (lv_room (Nat.le_of_ble_eq_true rfl)) dX11_back_45 ⟨Nat.le_of_ble_eq_true rfl, Nat.le_of_ble_eq_true rfl⟩) hS (fun q _ h => h) (fun q h => h) (fun u t H1 locs ht hvm _ hB hz1 hk1 hS => ?_)
      obtain ⟨f_29, hI, kc_31⟩ := hB
      rw [ht] at hI
      have k_33 : f_29 h0 = .inr (11, [.ref (gr g h0 0), .ref (gr g h0 1), .ref (gr g h0 2), .ref (gr g h0 3), .ref (gr g h0 4), .ref (gr g h0 5), .ref (gr g h0 6), .ref (gr g h0 7), .ref (gr g h0 8), .ref (gr g h0 9), .ref (gr g h0 10), .int x_5]) := Kp.at kc_31 i_h0 (by decide) k_4
      have k_34 : f_29 (gr g h0 8) = .inl (gc g 3, 2, .inl q_9) := Kp.at kc_31 i_7 (by decide) k_8
      have k_35 : f_29 (gr g h0 7) = .inl (gc g 5, 2, .inr (.inr (.inr (.inr q_17)))) := Kp.at kc_31 i_15 (by decide) k_16
      have kp_36 := Kp.call hk0 kc_31 (by decide)
      generalize H1 = H at hI hS ⊢
      refine W.widen (k := 0) (n := 0) (Nat.le_of_ble_eq_true rfl) (Nat.le_of_ble_eq_true rfl) ?_
      refine lv_aload_n hx hb dX11_back_48 rfl (lv_at hl 0 rfl) ?_
      refine k_get (ci := 11) (v := .ref (gr g h0 9)) (C := RX11) (T := TX11) (N := 12) hx hb hts (fun _ h0_ => List.mem_cons_of_mem _ (List.mem_append_right _ (List.mem_append_right _ (List.mem_append_left _ h0_)))) hown hK hI i_h0.1 k_33 rfl 9 (by decide) (hts (.fieldLink RX11 65 "DeadlineShare" "history" "LDeadlineShare$History;") (List.mem_cons_of_mem _ (List.mem_append_left _ (List.mem_of_getElem? (i := 10) rfl)))) (fun _ h9 => h9) rfl dX11_back_49 ?_
      have i_38 := kw_11_9 hG i_h0
      refine lv_iconst (v := 0) hx hb dX11_back_52 (by decide) ?_
      obtain ⟨x_40, x_41, k_39⟩ := op_1 hI i_38
      refine k_put (ci := 1) (v := .int 0) (ty := .int) (C := RX1) (T := TX1) (N := 4) hx hb hts (fun _ h0_ => List.mem_cons_of_mem _ (List.mem_append_right _ (List.mem_append_right _ (List.mem_append_right _ (List.mem_append_right _ (List.mem_append_left _ h0_)))))) tyX1 tyX1_ok nmX1 hown hK hI hS i_38.1 k_39 rfl 3 (by decide) (hts (.fieldLink RX11 230 "DeadlineShare$History" "size" "I") (List.mem_cons_of_mem _ (List.mem_append_left _ (List.mem_of_getElem? (i := 11) rfl)))) (fun _ h9 => h9) rfl (by decide +kernel) rfl rfl (Nat.le_of_ble_eq_true rfl) rfl (cl_1 i_38) dX11_back_53 (fun f_42 H locs e_43 hI hS => ?_)
      have k_45 : f_42 h0 = .inr (11, [.ref (gr g h0 0), .ref (gr g h0 1), .ref (gr g h0 2), .ref (gr g h0 3), .ref (gr g h0 4), .ref (gr g h0 5), .ref (gr g h0 6), .ref (gr g h0 7), .ref (gr g h0 8), .ref (gr g h0 9), .ref (gr g h0 10), .int x_5]) := by rw [e_43, va_up_ne _ _ (ik_ne i_h0 i_38 (by decide))]; exact k_33
      have k_46 : f_42 (gr g h0 8) = .inl (gc g 3, 2, .inl q_9) := by rw [e_43, va_up_ne _ _ (ik_ne i_7 i_38 (by decide))]; exact k_34
      have k_47 : f_42 (gr g h0 7) = .inl (gc g 5, 2, .inr (.inr (.inr (.inr q_17)))) := by rw [e_43, va_up_ne _ _ (ik_ne i_15 i_38 (by decide))]; exact k_35
      have k_48 : f_42 (gr g h0 9) = .inr (1, [.ref (gr g (gr g h0 9) 0), .ref (gr g (gr g h0 9) 1), .int x_40, .int 0]) := by rw [e_43]; exact va_up_self _ _ _
      have kp_44 := Kp.put kp_36 i_38 (by decide) e_43
      refine lv_aload_n hx hb dX11_back_56 rfl (lv_at hl 0 rfl) ?_
      refine k_get (ci := 11) (v := .ref (gr g h0 10)) (C := RX11) (T := TX11) (N := 12) hx hb hts (fun _ h0_ => List.mem_cons_of_mem _ (List.mem_append_right _ (List.mem_append_right _ (List.mem_append_left _ h0_)))) hown hK hI i_h0.1 k_45 rfl 10 (by decide) (hts (.fieldLink RX11 72 "DeadlineShare" "refusals" "LDeadlineShare$Refusals;") (List.mem_cons_of_mem _ (List.mem_append_left _ (List.mem_of_getElem? (i := 12) rfl)))) (fun _ h9 => h9) rfl dX11_back_57 ?_
      have i_50 := kw_11_10 hG i_h0
      refine lv_aload_n hx hb dX11_back_60 rfl (lv_at hl 0 rfl) ?_
      refine k_get (ci := 11) (v := .ref (gr g h0 3)) (C := RX11) (T := TX11) (N := 12) hx hb hts (fun _ h0_ => List.mem_cons_of_mem _ (List.mem_append_right _ (List.mem_append_right _ (List.mem_append_left _ h0_)))) hown hK hI i_h0.1 k_45 rfl 3 (by decide) (hts (.fieldLink RX11 37 "DeadlineShare" "now" "LDeadlineShare$State;") (List.mem_cons_of_mem _ (List.mem_append_left _ (List.mem_of_getElem? (i := 4) rfl)))) (fun _ h9 => h9) rfl dX11_back_61 ?_
      obtain ⟨x_54, x_55, x_56, x_57, x_58, k_53, b_59, b_60⟩ := op_6 hI i_13
      refine k_get (ci := 6) (v := .int x_55) (C := RX6) (T := TX6) (N := 10) hx hb hts (fun _ h0_ => List.mem_cons_of_mem _ (List.mem_append_right _ (List.mem_append_right _ (List.mem_append_right _ (List.mem_append_right _ (List.mem_append_right _ (List.mem_append_left _ h0_))))))) hown hK hI i_13.1 k_53 rfl 6 (by decide) (hts (.fieldLink RX11 223 "DeadlineShare$State" "time" "I") (List.mem_cons_of_mem _ (List.mem_append_left _ (List.mem_of_getElem? (i := 13) rfl)))) (fun _ h9 => h9) rfl dX11_back_64 ?_
      obtain ⟨x_62, k_61⟩ := op_4 hI i_50
      refine va_calli (va_runV (As := [.int x_55]) (rest := []) ⟨hx, hb, hml, hown, hts⟩ (c_X4_none l dC dI g A hG f_42 (gr g h0 10) x_55 i_50) (cwV 1 hts (gi_V (fun w_ h0_ => ⟨List.mem_cons_of_mem _ (List.mem_append_right _ (List.mem_append_right _ (List.mem_append_right _ (List.mem_append_right _ (List.mem_append_right _ (List.mem_append_right _ (List.mem_append_left _ h0_))))))), (tb_c_X4_none w_ h0_).2⟩) (List.mem_cons_of_mem _ (List.mem_append_left _ (List.mem_of_getElem? (i := 14) rfl))) (List.mem_cons_of_mem _ (List.mem_append_left _ (List.mem_of_getElem? (i := 15) rfl))) (List.mem_cons_of_mem _ (List.mem_append_left _ (List.mem_of_getElem? (i := 16) rfl))) (List.mem_cons_of_mem _ (List.mem_append_left _ (List.mem_of_getElem? (i := 17) rfl)))) rfl rfl rfl (by decide +kernel) ⟨Nat.le_of_ble_eq_true rfl, Nat.le_of_ble_eq_true rfl⟩) ⟨fun a U g mk q => ⟨q.1, q.2.calling rfl rfl⟩, k_recv hK hI i_50.1 k_61 (ci := 4) rfl, fun U hU hW => ⟨rfl, kIn.of hI hK hE hS hU hW⟩⟩ rfl rfl hl.1 rfl (lv_room (Nat.le_of_ble_eq_true rfl)) dX11_back_67 ⟨Nat.le_of_ble_eq_true rfl, Nat.le_of_ble_eq_true rfl⟩) hS (fun q _ h => h) (fun q h => h) (fun r_65 u t H1 locs ht hvm w_64 hB hz1 hk1 hS => ?_)
      obtain ⟨f_63, hI, kc_66⟩ := hB
      rw [ht] at hI
      have k_68 : f_63 h0 = .inr (11, [.ref (gr g h0 0), .ref (gr g h0 1), .ref (gr g h0 2), .ref (gr g h0 3), .ref (gr g h0 4), .ref (gr g h0 5), .ref (gr g h0 6), .ref (gr g h0 7), .ref (gr g h0 8), .ref (gr g h0 9), .ref (gr g h0 10), .int x_5]) := Kp.at kc_66 i_h0 (by decide) k_45
      have k_69 : f_63 (gr g h0 8) = .inl (gc g 3, 2, .inl q_9) := Kp.at kc_66 i_7 (by decide) k_46
      have k_70 : f_63 (gr g h0 7) = .inl (gc g 5, 2, .inr (.inr (.inr (.inr q_17)))) := Kp.at kc_66 i_15 (by decide) k_47
      have k_71 : f_63 (gr g h0 9) = .inr (1, [.ref (gr g (gr g h0 9) 0), .ref (gr g (gr g h0 9) 1), .int x_40, .int 0]) := Kp.at kc_66 i_38 (by decide) k_48
      have k_72 : f_63 (gr g h0 3) = .inr (6, [.ref (gr g (gr g h0 3) 0), .ref (gr g (gr g h0 3) 1), .ref (gr g (gr g h0 3) 2), .ref (gr g (gr g h0 3) 3), .ref (gr g (gr g h0 3) 4), .int x_54, .int x_55, .long x_56, .int x_57, .int x_58]) := Kp.at kc_66 i_13 (by decide) k_53
      have kp_73 := Kp.call kp_44 kc_66 (by decide)
      generalize H1 = H at hI hS ⊢
      refine W.widen (k := 0) (n := 0) (Nat.le_of_ble_eq_true rfl) (Nat.le_of_ble_eq_true rfl) ?_
      exact W.iret (v := r_65) hx hb hr (fun t ht hW => ⟨⟨r_65, (), rfl, trivial, ⟨f_63, k_ret ht hI, kp_73⟩⟩, hS.F ht⟩) hS.2.2 dX11_back_70
    · have c_11 := kc_eq rfl (by decide : Int32.toInt 0 = 0) c_11
      refine lv_aload_n hx hb dX11_back_25 rfl (lv_at hl 0 rfl) ?_
      refine k_get (ci := 11) (v := .ref (gr g h0 10)) (C := RX11) (T := TX11) (N := 12) hx hb hts (fun _ h0_ => List.mem_cons_of_mem _ (List.mem_append_right _ (List.mem_append_right _ (List.mem_append_left _ h0_)))) hown hK hI i_h0.1 k_4 rfl 10 (by decide) (hts (.fieldLink RX11 72 "DeadlineShare" "refusals" "LDeadlineShare$Refusals;") (List.mem_cons_of_mem _ (List.mem_append_left _ (List.mem_of_getElem? (i := 12) rfl)))) (fun _ h9 => h9) rfl dX11_back_26 ?_
      have i_75 := kw_11_10 hG i_h0
      refine lv_bipush (v := (-4)) hx hb dX11_back_29 (by decide) ?_
      obtain ⟨x_77, k_76⟩ := op_4 hI i_75
      refine va_calli (va_runV (As := [.int (-4)]) (rest := []) ⟨hx, hb, hml, hown, hts⟩ (c_X4_add l dC dI g A hG f (gr g h0 10) (-4) i_75) (cwV 1 hts (gi_V (fun w_ h0_ => ⟨List.mem_cons_of_mem _ (List.mem_append_right _ (List.mem_append_right _ (List.mem_append_right _ (List.mem_append_right _ (List.mem_append_right _ (List.mem_append_right _ (List.mem_append_right _ (List.mem_append_left _ h0_)))))))), (tb_c_X4_add w_ h0_).2⟩) (List.mem_cons_of_mem _ (List.mem_append_left _ (List.mem_of_getElem? (i := 18) rfl))) (List.mem_cons_of_mem _ (List.mem_append_left _ (List.mem_of_getElem? (i := 19) rfl))) (List.mem_cons_of_mem _ (List.mem_append_left _ (List.mem_of_getElem? (i := 20) rfl))) (List.mem_cons_of_mem _ (List.mem_append_left _ (List.mem_of_getElem? (i := 17) rfl)))) rfl rfl rfl (by decide +kernel) ⟨Nat.le_of_ble_eq_true rfl, Nat.le_of_ble_eq_true rfl⟩) ⟨fun a U g mk q => ⟨q.1, q.2.calling rfl rfl⟩, k_recv hK hI i_75.1 k_76 (ci := 4) rfl, fun U hU hW => ⟨rfl, kIn.of hI hK hE hS hU hW⟩⟩ rfl rfl hl.1 rfl (lv_room (Nat.le_of_ble_eq_true rfl)) dX11_back_31 ⟨Nat.le_of_ble_eq_true rfl, Nat.le_of_ble_eq_true rfl⟩) hS (fun q _ h => h) (fun q h => h) (fun r_80 u t H1 locs ht hvm w_79 hB hz1 hk1 hS => ?_)
      obtain ⟨f_78, hI, kc_81⟩ := hB
      rw [ht] at hI
      have k_83 : f_78 h0 = .inr (11, [.ref (gr g h0 0), .ref (gr g h0 1), .ref (gr g h0 2), .ref (gr g h0 3), .ref (gr g h0 4), .ref (gr g h0 5), .ref (gr g h0 6), .ref (gr g h0 7), .ref (gr g h0 8), .ref (gr g h0 9), .ref (gr g h0 10), .int x_5]) := Kp.at kc_81 i_h0 (by decide) k_4
      have k_84 : f_78 (gr g h0 8) = .inl (gc g 3, 2, .inl q_9) := Kp.at kc_81 i_7 (by decide) k_8
      have kp_85 := Kp.call hk0 kc_81 (by decide)
      generalize H1 = H at hI hS ⊢
      refine W.widen (k := 0) (n := 0) (Nat.le_of_ble_eq_true rfl) (Nat.le_of_ble_eq_true rfl) ?_
      exact W.iret (v := r_80) hx hb hr (fun t ht hW => ⟨⟨r_80, (), rfl, trivial, ⟨f_78, k_ret ht hI, kp_85⟩⟩, hS.F ht⟩) hS.2.2 dX11_back_34
  · have c_3 := kc_eq rfl (by decide : Int32.toInt 0 = 0) c_3
    refine lv_aload_n hx hb dX11_back_7 rfl (lv_at hl 0 rfl) ?_
    obtain ⟨x_87, k_86⟩ := op_11 hI i_h0
    refine k_get (ci := 11) (v := .ref (gr g h0 10)) (C := RX11) (T := TX11) (N := 12) hx hb hts (fun _ h0_ => List.mem_cons_of_mem _ (List.mem_append_right _ (List.mem_append_right _ (List.mem_append_left _ h0_)))) hown hK hI i_h0.1 k_86 rfl 10 (by decide) (hts (.fieldLink RX11 72 "DeadlineShare" "refusals" "LDeadlineShare$Refusals;") (List.mem_cons_of_mem _ (List.mem_append_left _ (List.mem_of_getElem? (i := 12) rfl)))) (fun _ h9 => h9) rfl dX11_back_8 ?_
    have i_89 := kw_11_10 hG i_h0
    refine lv_iconst (v := (-1)) hx hb dX11_back_11 (by decide) ?_
    obtain ⟨x_91, k_90⟩ := op_4 hI i_89
    refine va_calli (va_runV (As := [.int (-1)]) (rest := []) ⟨hx, hb, hml, hown, hts⟩ (c_X4_add l dC dI g A hG f (gr g h0 10) (-1) i_89) (cwV 1 hts (gi_V (fun w_ h0_ => ⟨List.mem_cons_of_mem _ (List.mem_append_right _ (List.mem_append_right _ (List.mem_append_right _ (List.mem_append_right _ (List.mem_append_right _ (List.mem_append_right _ (List.mem_append_right _ (List.mem_append_left _ h0_)))))))), (tb_c_X4_add w_ h0_).2⟩) (List.mem_cons_of_mem _ (List.mem_append_left _ (List.mem_of_getElem? (i := 18) rfl))) (List.mem_cons_of_mem _ (List.mem_append_left _ (List.mem_of_getElem? (i := 19) rfl))) (List.mem_cons_of_mem _ (List.mem_append_left _ (List.mem_of_getElem? (i := 20) rfl))) (List.mem_cons_of_mem _ (List.mem_append_left _ (List.mem_of_getElem? (i := 17) rfl)))) rfl rfl rfl (by decide +kernel) ⟨Nat.le_of_ble_eq_true rfl, Nat.le_of_ble_eq_true rfl⟩) ⟨fun a U g mk q => ⟨q.1, q.2.calling rfl rfl⟩, k_recv hK hI i_89.1 k_90 (ci := 4) rfl, fun U hU hW => ⟨rfl, kIn.of hI hK hE hS hU hW⟩⟩ rfl rfl hl.1 rfl (lv_room (Nat.le_of_ble_eq_true rfl)) dX11_back_12 ⟨Nat.le_of_ble_eq_true rfl, Nat.le_of_ble_eq_true rfl⟩) hS (fun q _ h => h) (fun q h => h) (fun r_94 u t H1 locs ht hvm w_93 hB hz1 hk1 hS => ?_)
    obtain ⟨f_92, hI, kc_95⟩ := hB
    rw [ht] at hI
    have k_97 : f_92 h0 = .inr (11, [.ref (gr g h0 0), .ref (gr g h0 1), .ref (gr g h0 2), .ref (gr g h0 3), .ref (gr g h0 4), .ref (gr g h0 5), .ref (gr g h0 6), .ref (gr g h0 7), .ref (gr g h0 8), .ref (gr g h0 9), .ref (gr g h0 10), .int x_87]) := Kp.at kc_95 i_h0 (by decide) k_86
    have kp_98 := Kp.call hk0 kc_95 (by decide)
    generalize H1 = H at hI hS ⊢
    refine W.widen (k := 0) (n := 0) (Nat.le_of_ble_eq_true rfl) (Nat.le_of_ble_eq_true rfl) ?_
    exact W.iret (v := r_94) hx hb hr (fun t ht hW => ⟨⟨r_94, (), rfl, trivial, ⟨f_92, k_ret ht hI, kp_98⟩⟩, hS.F ht⟩) hS.2.2 dX11_back_15
theorem tw_538 : q_g (.selects RX8 yX8_tell yX8_tell) := ⟨(List.mem_append_right _ (List.mem_of_getElem? (i := 901) (by decide +kernel))), good_of_word (by decide +kernel)⟩
theorem tw_539 : q_g (.instanceMethod yX8_tell) := ⟨(List.mem_append_right _ (List.mem_of_getElem? (i := 900) (by decide +kernel))), good_of_word (by decide +kernel)⟩
theorem tw_540 : q_g (.methodLink RX11 242 yX8_tell) := ⟨(List.mem_append_right _ (List.mem_of_getElem? (i := 899) (by decide +kernel))), good_of_word (by decide +kernel)⟩
theorem tw_541 : q_g (.code yX11_of cX11_of 3 (some .int)) := ⟨(List.mem_append_right _ (List.mem_of_getElem? (i := 898) (by decide +kernel))), good_of_word (by decide +kernel)⟩
def ow_c_X11_of : List Cond := [.fieldLink RX11 37 "DeadlineShare" "now" "LDeadlineShare$State;", .methodLink RX11 130 yX6_has, .instanceMethod yX6_has, .selects RX6 yX6_has yX6_has, .initialized RX6, .fieldLink RX11 133 "DeadlineShare$State" "tasks" "[LDeadlineShare$Task;", .methodLink RX11 242 yX8_tell, .instanceMethod yX8_tell, .selects RX8 yX8_tell yX8_tell, .initialized RX8]
def wq_c_X11_of : List Cond := .code yX11_of cX11_of 3 (some .int) :: (ow_c_X11_of ++ (u_ws RX11 TX11 12 ++ (wq_c_X6_has ++ (u_ws RX6 TX6 10 ++ (wq_c_X8_tell ++ ([] : List Cond))))))
theorem tb_c_X11_of : ∀ w ∈ wq_c_X11_of, q_g w := by
  unfold wq_c_X11_of ow_c_X11_of
  exact q_cons tw_541 (q_app (q_cons tw_479 (q_cons tw_492 (q_cons tw_74 (q_cons tw_73 (q_cons tw_47 (q_cons tw_491 (q_cons tw_540 (q_cons tw_539 (q_cons tw_538 (q_cons tw_8 q_nil)))))))))) (q_app tu_X11 (q_app tb_c_X6_has (q_app tu_X6 (q_app tb_c_X8_tell q_nil)))))
set_option maxHeartbeats 4000000 in
set_option maxRecDepth 100000 in
theorem c_X11_of (l : Launch) (dC : Nat → ClassId) (dI : Nat → Nat → Nat) (g : kG) (A : Nat → Prop) (hG : kWf g) (f : Nat → va_E) (h0 : Nat) (p1 : Int32) (p2 : Int32) (i_h0 : ik g 11 h0) : Met l yX11_of wq_c_X11_of ({ frames := 3, cells := 0, slots := 0, locals := 62 } : Room) (va_Pc [.ref h0, .int p1, .int p2] (fun U => kIn dC dI g A f U)) (va_Qi (fun (r : Int32) (_ : Unit) => True) (fun (_ : Unit) t => Iv dC dI g A f t.heap) A) 0 0 A := by
  refine Met.ofW (cc := cX11_of) (maxL := 3) (ret := (some .int)) (by decide) rfl ?_
  intro p e s m args below meth c s₁ B hml hv
  obtain ⟨rfl, hI, hK, hE⟩ := hv
  have hx := B.exec
  have hb := B.bytes
  have hr := B.returns
  have hts := atoms_spec (ws := wq_c_X11_of) B.pre
  have hown : s.vm.findClass RX11 = some m.cls := findClass_of_methodNamed B.named
  have hlocks := B.notSynchronized
  have hS : va_S A s.heap s.heap [] := va_S.rf
  have hl := lv_entry ([.ref h0, .int p1, .int p2]) (n := 3) (Nat.le_of_ble_eq_true rfl)
  rw [lg_entry_eq]
  generalize (lg_sl ([.ref h0, .int p1, .int p2]) ++ List.replicate (3 - (lg_sl ([.ref h0, .int p1, .int p2])).length) Slot.unset).toArray = ls at hl ⊢
  have hl : lv_has ls 3 [(0, .ref h0), (1, .int p1), (2, .int p2)] := hl
  refine lv_aload_n hx hb dX11_of_0 rfl (lv_at hl 0 rfl) ?_
  obtain ⟨x_2, k_1⟩ := op_11 hI i_h0
  refine k_get (ci := 11) (v := .ref (gr g h0 3)) (C := RX11) (T := TX11) (N := 12) hx hb hts (fun _ h0_ => List.mem_cons_of_mem _ (List.mem_append_right _ (List.mem_append_left _ h0_))) hown hK hI i_h0.1 k_1 rfl 3 (by decide) (hts (.fieldLink RX11 37 "DeadlineShare" "now" "LDeadlineShare$State;") (List.mem_cons_of_mem _ (List.mem_append_left _ (List.mem_of_getElem? (i := 0) rfl)))) (fun _ h9 => h9) rfl dX11_of_1 ?_
  have i_4 := kw_11_3 hG i_h0
  refine lv_iload_n hx hb dX11_of_4 rfl (lv_at hl 1 rfl) ?_
  obtain ⟨x_6, x_7, x_8, x_9, x_10, k_5, b_11, b_12⟩ := op_6 hI i_4
  refine va_calli (va_runV (As := [.int p1]) (rest := []) ⟨hx, hb, hml, hown, hts⟩ (c_X6_has l dC dI g A hG f (gr g h0 3) p1 i_4) (cwV 1 hts (gi_V (fun w_ h0_ => ⟨List.mem_cons_of_mem _ (List.mem_append_right _ (List.mem_append_right _ (List.mem_append_left _ h0_))), (tb_c_X6_has w_ h0_).2⟩) (List.mem_cons_of_mem _ (List.mem_append_left _ (List.mem_of_getElem? (i := 1) rfl))) (List.mem_cons_of_mem _ (List.mem_append_left _ (List.mem_of_getElem? (i := 2) rfl))) (List.mem_cons_of_mem _ (List.mem_append_left _ (List.mem_of_getElem? (i := 3) rfl))) (List.mem_cons_of_mem _ (List.mem_append_left _ (List.mem_of_getElem? (i := 4) rfl)))) rfl rfl rfl (by decide +kernel) ⟨Nat.le_of_ble_eq_true rfl, Nat.le_of_ble_eq_true rfl⟩) ⟨fun a U g mk q => ⟨q.1, q.2.calling rfl rfl⟩, k_recv hK hI i_4.1 k_5 (ci := 6) rfl, fun U hU hW => ⟨rfl, kIn.of hI hK hE hS hU hW⟩⟩ rfl rfl hl.1 rfl (lv_room (Nat.le_of_ble_eq_true rfl)) dX11_of_5 ⟨Nat.le_of_ble_eq_true rfl, Nat.le_of_ble_eq_true rfl⟩) hS (fun q _ h => h) (fun q h => h) (fun r_14 u t H1 locs ht hvm w_13 hB hz1 hk1 hS => ?_)
  have hI : Iv dC dI g A f t.heap := hB
  rw [ht] at hI
  generalize H1 = H at hI hS ⊢
  refine W.widen (k := 0) (n := 0) (Nat.le_of_ble_eq_true rfl) (Nat.le_of_ble_eq_true rfl) ?_
  have w_13 : r_14.toInt = 0 ∨ (0 ≤ p1.toInt ∧ p1.toInt < 12) := w_13
  refine lv_if_eq (tgt := 27) hx hb dX11_of_8 (by decide) (fun c_15 => ?_) (fun c_15 => ?_)
  · have c_15 := kc_eq rfl (by decide : Int32.toInt 0 = 0) c_15
    refine lv_iconst (v := (-1)) hx hb dX11_of_27 (by decide) ?_
    exact W.iret (v := (-1)) hx hb hr (fun t ht hW => ⟨⟨(-1), (), rfl, trivial, k_ret ht hI⟩, hS.F ht⟩) hS.2.2 dX11_of_28
  · have c_15 := kn_eq rfl (by decide : Int32.toInt 0 = 0) c_15
    refine lv_aload_n hx hb dX11_of_11 rfl (lv_at hl 0 rfl) ?_
    refine k_get (ci := 11) (v := .ref (gr g h0 3)) (C := RX11) (T := TX11) (N := 12) hx hb hts (fun _ h0_ => List.mem_cons_of_mem _ (List.mem_append_right _ (List.mem_append_left _ h0_))) hown hK hI i_h0.1 k_1 rfl 3 (by decide) (hts (.fieldLink RX11 37 "DeadlineShare" "now" "LDeadlineShare$State;") (List.mem_cons_of_mem _ (List.mem_append_left _ (List.mem_of_getElem? (i := 0) rfl)))) (fun _ h9 => h9) rfl dX11_of_12 ?_
    refine k_get (ci := 6) (v := .ref (gr g (gr g h0 3) 1)) (C := RX6) (T := TX6) (N := 10) hx hb hts (fun _ h0_ => List.mem_cons_of_mem _ (List.mem_append_right _ (List.mem_append_right _ (List.mem_append_right _ (List.mem_append_left _ h0_))))) hown hK hI i_4.1 k_5 rfl 1 (by decide) (hts (.fieldLink RX11 133 "DeadlineShare$State" "tasks" "[LDeadlineShare$Task;") (List.mem_cons_of_mem _ (List.mem_append_left _ (List.mem_of_getElem? (i := 5) rfl)))) (fun _ h9 => h9) rfl dX11_of_15 ?_
    have i_19 := kw_6_1 hG i_4
    refine lv_iload_n hx hb dX11_of_18 rfl (lv_at hl 1 rfl) ?_
    obtain ⟨q_21, k_20, b_22⟩ := op_20 hI i_19
    refine k_aald hx hb hK hI i_19.1 4 k_20 rfl (vp_in_iff.mpr (by omega)) b_22 (fun _ hj => kw_20 hG i_19 hj) dX11_of_19 (fun a_23 i_24 => ?_)
    refine lv_iload_n hx hb dX11_of_20 rfl (lv_at hl 2 rfl) ?_
    obtain ⟨x_26, x_27, x_28, x_29, x_30, x_31, x_32, x_33, x_34, x_35, x_36, x_37, x_38, x_39, x_40, x_41, k_25⟩ := op_8 hI i_24
    refine va_calli (va_runV (As := [.int p2]) (rest := []) ⟨hx, hb, hml, hown, hts⟩ (c_X8_tell l dC dI g A hG f a_23 p2 i_24) (cwV 1 hts (gi_V (fun w_ h0_ => ⟨List.mem_cons_of_mem _ (List.mem_append_right _ (List.mem_append_right _ (List.mem_append_right _ (List.mem_append_right _ (List.mem_append_left _ h0_))))), (tb_c_X8_tell w_ h0_).2⟩) (List.mem_cons_of_mem _ (List.mem_append_left _ (List.mem_of_getElem? (i := 6) rfl))) (List.mem_cons_of_mem _ (List.mem_append_left _ (List.mem_of_getElem? (i := 7) rfl))) (List.mem_cons_of_mem _ (List.mem_append_left _ (List.mem_of_getElem? (i := 8) rfl))) (List.mem_cons_of_mem _ (List.mem_append_left _ (List.mem_of_getElem? (i := 9) rfl)))) rfl rfl rfl (by decide +kernel) ⟨Nat.le_of_ble_eq_true rfl, Nat.le_of_ble_eq_true rfl⟩) ⟨fun a U g mk q => ⟨q.1, q.2.calling rfl rfl⟩, k_recv hK hI i_24.1 k_25 (ci := 8) rfl, fun U hU hW => ⟨rfl, kIn.of hI hK hE hS hU hW⟩⟩ rfl rfl hl.1 rfl (lv_room (Nat.le_of_ble_eq_true rfl)) dX11_of_21 ⟨Nat.le_of_ble_eq_true rfl, Nat.le_of_ble_eq_true rfl⟩) hS (fun q _ h => h) (fun q h => h) (fun r_43 u t H1 locs ht hvm w_42 hB hz1 hk1 hS => ?_)
    have hI : Iv dC dI g A f t.heap := hB
    rw [ht] at hI
    generalize H1 = H at hI hS ⊢
    refine W.widen (k := 0) (n := 0) (Nat.le_of_ble_eq_true rfl) (Nat.le_of_ble_eq_true rfl) ?_
    refine lv_goto (tgt := 28) hx hb dX11_of_24 (by decide) ?_
    exact W.iret (v := r_43) hx hb hr (fun t ht hW => ⟨⟨r_43, (), rfl, trivial, k_ret ht hI⟩, hS.F ht⟩) hS.2.2 dX11_of_28
theorem tw_542 : q_g (.methodLink RX11 251 yX10_asLong) := ⟨(List.mem_append_right _ (List.mem_of_getElem? (i := 914) (by decide +kernel))), good_of_word (by decide +kernel)⟩
theorem tw_543 : q_g (.fieldLink RX11 247 "DeadlineShare$Task" "lag" "LDeadlineShare$Wide;") := ⟨(List.mem_append_right _ (List.mem_of_getElem? (i := 171) (by decide +kernel))), good_of_word (by decide +kernel)⟩
theorem tw_544 : q_g (.constantLong RX11 245 (-9223372036854775808)) := ⟨(List.mem_append_right _ (List.mem_of_getElem? (i := 913) (by decide +kernel))), good_of_word (by decide +kernel)⟩
theorem tw_545 : q_g (.selects RX6 yX6_lagTimesW yX6_lagTimesW) := ⟨(List.mem_append_right _ (List.mem_of_getElem? (i := 918) (by decide +kernel))), good_of_word (by decide +kernel)⟩
theorem tw_546 : q_g (.instanceMethod yX6_lagTimesW) := ⟨(List.mem_append_right _ (List.mem_of_getElem? (i := 917) (by decide +kernel))), good_of_word (by decide +kernel)⟩
theorem tw_547 : q_g (.methodLink RX11 264 yX6_lagTimesW) := ⟨(List.mem_append_right _ (List.mem_of_getElem? (i := 916) (by decide +kernel))), good_of_word (by decide +kernel)⟩
theorem tw_548 : q_g (.methodLink RX11 261 yX8_deadline) := ⟨(List.mem_append_right _ (List.mem_of_getElem? (i := 915) (by decide +kernel))), good_of_word (by decide +kernel)⟩
theorem tw_549 : q_g (.fieldLink RX11 257 "DeadlineShare$Task" "v" "J") := ⟨(List.mem_append_right _ (List.mem_of_getElem? (i := 165) (by decide +kernel))), good_of_word (by decide +kernel)⟩
theorem tw_550 : q_g (.code yX11_exact cX11_exact 4 (some .long)) := ⟨(List.mem_append_right _ (List.mem_of_getElem? (i := 912) (by decide +kernel))), good_of_word (by decide +kernel)⟩
def ow_c_X11_exact : List Cond := [.fieldLink RX11 37 "DeadlineShare" "now" "LDeadlineShare$State;", .methodLink RX11 130 yX6_has, .instanceMethod yX6_has, .selects RX6 yX6_has yX6_has, .initialized RX6, .fieldLink RX11 133 "DeadlineShare$State" "tasks" "[LDeadlineShare$Task;", .methodLink RX11 159 yX8_isOn, .instanceMethod yX8_isOn, .selects RX8 yX8_isOn yX8_isOn, .initialized RX8, .fieldLink RX11 257 "DeadlineShare$Task" "v" "J", .methodLink RX11 261 yX8_deadline, .instanceMethod yX8_deadline, .selects RX8 yX8_deadline yX8_deadline, .methodLink RX11 264 yX6_lagTimesW, .instanceMethod yX6_lagTimesW, .selects RX6 yX6_lagTimesW yX6_lagTimesW, .constantLong RX11 245 (-9223372036854775808), .fieldLink RX11 247 "DeadlineShare$Task" "lag" "LDeadlineShare$Wide;", .methodLink RX11 251 yX10_asLong, .instanceMethod yX10_asLong, .selects RX10 yX10_asLong yX10_asLong, .initialized RX10]
def wq_c_X11_exact : List Cond := .code yX11_exact cX11_exact 4 (some .long) :: (ow_c_X11_exact ++ (u_ws RX11 TX11 12 ++ (wq_c_X6_has ++ (u_ws RX6 TX6 10 ++ (wq_c_X8_isOn ++ (u_ws RX8 TX8 18 ++ (wq_c_X8_deadline ++ (wq_c_X6_lagTimesW ++ (wq_c_X10_asLong ++ ([] : List Cond))))))))))
theorem tb_c_X11_exact : ∀ w ∈ wq_c_X11_exact, q_g w := by
  unfold wq_c_X11_exact ow_c_X11_exact
  exact q_cons tw_550 (q_app (q_cons tw_479 (q_cons tw_492 (q_cons tw_74 (q_cons tw_73 (q_cons tw_47 (q_cons tw_491 (q_cons tw_497 (q_cons tw_10 (q_cons tw_9 (q_cons tw_8 (q_cons tw_549 (q_cons tw_548 (q_cons tw_63 (q_cons tw_62 (q_cons tw_547 (q_cons tw_546 (q_cons tw_545 (q_cons tw_544 (q_cons tw_543 (q_cons tw_542 (q_cons tw_42 (q_cons tw_41 (q_cons tw_26 q_nil))))))))))))))))))))))) (q_app tu_X11 (q_app tb_c_X6_has (q_app tu_X6 (q_app tb_c_X8_isOn (q_app tu_X8 (q_app tb_c_X8_deadline (q_app tb_c_X6_lagTimesW (q_app tb_c_X10_asLong q_nil)))))))))
set_option maxHeartbeats 4000000 in
set_option maxRecDepth 100000 in
theorem c_X11_exact (l : Launch) (dC : Nat → ClassId) (dI : Nat → Nat → Nat) (g : kG) (A : Nat → Prop) (hG : kWf g) (f : Nat → va_E) (h0 : Nat) (p1 : Int32) (p2 : Int32) (i_h0 : ik g 11 h0) : Met l yX11_exact wq_c_X11_exact ({ frames := 3, cells := 0, slots := 0, locals := 70 } : Room) (va_Pc [.ref h0, .int p1, .int p2] (fun U => kIn dC dI g A f U)) (va_Ql (fun (r : Int64) (_ : Unit) => True) (fun (_ : Unit) t => ∃ f1 : Nat → va_E, Iv dC dI g A f1 t.heap ∧ Kp g [10] f f1) A) 0 0 A := by
  refine Met.ofW (cc := cX11_exact) (maxL := 4) (ret := (some .long)) (by decide) rfl ?_
  intro p e s m args below meth c s₁ B hml hv
  obtain ⟨rfl, hI, hK, hE⟩ := hv
  have hx := B.exec
  have hb := B.bytes
  have hr := B.returns
  have hts := atoms_spec (ws := wq_c_X11_exact) B.pre
  have hown : s.vm.findClass RX11 = some m.cls := findClass_of_methodNamed B.named
  have hlocks := B.notSynchronized
  have hS : va_S A s.heap s.heap [] := va_S.rf
  have hk0 : Kp g [10] f f := Kp.rf
  have hl := lv_entry ([.ref h0, .int p1, .int p2]) (n := 4) (Nat.le_of_ble_eq_true rfl)
  rw [lg_entry_eq]
  generalize (lg_sl ([.ref h0, .int p1, .int p2]) ++ List.replicate (4 - (lg_sl ([.ref h0, .int p1, .int p2])).length) Slot.unset).toArray = ls at hl ⊢
  have hl : lv_has ls 4 [(0, .ref h0), (1, .int p1), (2, .int p2)] := hl
  refine lv_aload_n hx hb dX11_exact_0 rfl (lv_at hl 0 rfl) ?_
  obtain ⟨x_2, k_1⟩ := op_11 hI i_h0
  refine k_get (ci := 11) (v := .ref (gr g h0 3)) (C := RX11) (T := TX11) (N := 12) hx hb hts (fun _ h0_ => List.mem_cons_of_mem _ (List.mem_append_right _ (List.mem_append_left _ h0_))) hown hK hI i_h0.1 k_1 rfl 3 (by decide) (hts (.fieldLink RX11 37 "DeadlineShare" "now" "LDeadlineShare$State;") (List.mem_cons_of_mem _ (List.mem_append_left _ (List.mem_of_getElem? (i := 0) rfl)))) (fun _ h9 => h9) rfl dX11_exact_1 ?_
  have i_4 := kw_11_3 hG i_h0
  refine lv_iload_n hx hb dX11_exact_4 rfl (lv_at hl 1 rfl) ?_
  obtain ⟨x_6, x_7, x_8, x_9, x_10, k_5, b_11, b_12⟩ := op_6 hI i_4
  refine va_calli (va_runV (As := [.int p1]) (rest := []) ⟨hx, hb, hml, hown, hts⟩ (c_X6_has l dC dI g A hG f (gr g h0 3) p1 i_4) (cwV 1 hts (gi_V (fun w_ h0_ => ⟨List.mem_cons_of_mem _ (List.mem_append_right _ (List.mem_append_right _ (List.mem_append_left _ h0_))), (tb_c_X6_has w_ h0_).2⟩) (List.mem_cons_of_mem _ (List.mem_append_left _ (List.mem_of_getElem? (i := 1) rfl))) (List.mem_cons_of_mem _ (List.mem_append_left _ (List.mem_of_getElem? (i := 2) rfl))) (List.mem_cons_of_mem _ (List.mem_append_left _ (List.mem_of_getElem? (i := 3) rfl))) (List.mem_cons_of_mem _ (List.mem_append_left _ (List.mem_of_getElem? (i := 4) rfl)))) rfl rfl rfl (by decide +kernel) ⟨Nat.le_of_ble_eq_true rfl, Nat.le_of_ble_eq_true rfl⟩) ⟨fun a U g mk q => ⟨q.1, q.2.calling rfl rfl⟩, k_recv hK hI i_4.1 k_5 (ci := 6) rfl, fun U hU hW => ⟨rfl, kIn.of hI hK hE hS hU hW⟩⟩ rfl rfl hl.1 rfl (lv_room (Nat.le_of_ble_eq_true rfl)) dX11_exact_5 ⟨Nat.le_of_ble_eq_true rfl, Nat.le_of_ble_eq_true rfl⟩) hS (fun q _ h => h) (fun q h => h) (fun r_14 u t H1 locs ht hvm w_13 hB hz1 hk1 hS => ?_)
  have hI : Iv dC dI g A f t.heap := hB
  rw [ht] at hI
  generalize H1 = H at hI hS ⊢
  refine W.widen (k := 0) (n := 0) (Nat.le_of_ble_eq_true rfl) (Nat.le_of_ble_eq_true rfl) ?_
  have w_13 : r_14.toInt = 0 ∨ (0 ≤ p1.toInt ∧ p1.toInt < 12) := w_13
  refine lv_if_ne (tgt := 15) hx hb dX11_exact_8 (by decide) (fun c_15 => ?_) (fun c_15 => ?_)
  · have c_15 := kn_eq rfl (by decide : Int32.toInt 0 = 0) c_15
    refine lv_aload_n hx hb dX11_exact_15 rfl (lv_at hl 0 rfl) ?_
    refine k_get (ci := 11) (v := .ref (gr g h0 3)) (C := RX11) (T := TX11) (N := 12) hx hb hts (fun _ h0_ => List.mem_cons_of_mem _ (List.mem_append_right _ (List.mem_append_left _ h0_))) hown hK hI i_h0.1 k_1 rfl 3 (by decide) (hts (.fieldLink RX11 37 "DeadlineShare" "now" "LDeadlineShare$State;") (List.mem_cons_of_mem _ (List.mem_append_left _ (List.mem_of_getElem? (i := 0) rfl)))) (fun _ h9 => h9) rfl dX11_exact_16 ?_
    refine k_get (ci := 6) (v := .ref (gr g (gr g h0 3) 1)) (C := RX6) (T := TX6) (N := 10) hx hb hts (fun _ h0_ => List.mem_cons_of_mem _ (List.mem_append_right _ (List.mem_append_right _ (List.mem_append_right _ (List.mem_append_left _ h0_))))) hown hK hI i_4.1 k_5 rfl 1 (by decide) (hts (.fieldLink RX11 133 "DeadlineShare$State" "tasks" "[LDeadlineShare$Task;") (List.mem_cons_of_mem _ (List.mem_append_left _ (List.mem_of_getElem? (i := 5) rfl)))) (fun _ h9 => h9) rfl dX11_exact_19 ?_
    have i_19 := kw_6_1 hG i_4
    refine lv_iload_n hx hb dX11_exact_22 rfl (lv_at hl 1 rfl) ?_
    obtain ⟨q_21, k_20, b_22⟩ := op_20 hI i_19
    refine k_aald hx hb hK hI i_19.1 4 k_20 rfl (vp_in_iff.mpr (by omega)) b_22 (fun _ hj => kw_20 hG i_19 hj) dX11_exact_23 (fun a_23 i_24 => ?_)
    refine lv_astore_n (lv' := [(3, .ref a_23), (0, .ref h0), (1, .int p1), (2, .int p2)]) hx hb dX11_exact_24 rfl hl (by decide) rfl (fun ls hl => ?_)
    refine lv_aload_n hx hb dX11_exact_25 rfl (lv_at hl 0 rfl) ?_
    obtain ⟨x_26, x_27, x_28, x_29, x_30, x_31, x_32, x_33, x_34, x_35, x_36, x_37, x_38, x_39, x_40, x_41, k_25⟩ := op_8 hI i_24
    refine va_calli (va_runV (As := []) (rest := []) ⟨hx, hb, hml, hown, hts⟩ (c_X8_isOn l dC dI g A hG f a_23 i_24) (cwV 0 hts (gi_V (fun w_ h0_ => ⟨List.mem_cons_of_mem _ (List.mem_append_right _ (List.mem_append_right _ (List.mem_append_right _ (List.mem_append_right _ (List.mem_append_left _ h0_))))), (tb_c_X8_isOn w_ h0_).2⟩) (List.mem_cons_of_mem _ (List.mem_append_left _ (List.mem_of_getElem? (i := 6) rfl))) (List.mem_cons_of_mem _ (List.mem_append_left _ (List.mem_of_getElem? (i := 7) rfl))) (List.mem_cons_of_mem _ (List.mem_append_left _ (List.mem_of_getElem? (i := 8) rfl))) (List.mem_cons_of_mem _ (List.mem_append_left _ (List.mem_of_getElem? (i := 9) rfl)))) rfl rfl rfl (by decide +kernel) ⟨Nat.le_of_ble_eq_true rfl, Nat.le_of_ble_eq_true rfl⟩) ⟨fun a U g mk q => ⟨q.1, q.2.calling rfl rfl⟩, k_recv hK hI i_24.1 k_25 (ci := 8) rfl, fun U hU hW => ⟨rfl, kIn.of hI hK hE hS hU hW⟩⟩ rfl rfl hl.1 rfl (lv_room (Nat.le_of_ble_eq_true rfl)) dX11_exact_26 ⟨Nat.le_of_ble_eq_true rfl, Nat.le_of_ble_eq_true rfl⟩) hS (fun q _ h => h) (fun q h => h) (fun r_43 u t H1 locs ht hvm w_42 hB hz1 hk1 hS => ?_)
    have hI : Iv dC dI g A f t.heap := hB
    rw [ht] at hI
    generalize H1 = H at hI hS ⊢
    refine W.widen (k := 0) (n := 0) (Nat.le_of_ble_eq_true rfl) (Nat.le_of_ble_eq_true rfl) ?_
    refine lv_if_ne (tgt := 51) hx hb dX11_exact_29 (by decide) (fun c_44 => ?_) (fun c_44 => ?_)
    · have c_44 := kn_eq rfl (by decide : Int32.toInt 0 = 0) c_44
      refine lv_iload_n hx hb dX11_exact_51 rfl (lv_at hl 3 rfl) ?_
      by_cases h_45 : p2 = 0
      · refine k_topi (y := 0) h_45 ?_
        refine lv_tableIn (tgt := 80) hx hb dX11_exact_52 (by decide) (by decide) rfl (by decide) ?_
        have h_45 := kc_eq rfl (by decide : Int32.toInt 0 = 0) h_45
        refine lv_aload_n hx hb dX11_exact_80 rfl (lv_at hl 0 rfl) ?_
        refine k_get (ci := 8) (v := .long x_30) (C := RX8) (T := TX8) (N := 18) hx hb hts (fun _ h0_ => List.mem_cons_of_mem _ (List.mem_append_right _ (List.mem_append_right _ (List.mem_append_right _ (List.mem_append_right _ (List.mem_append_right _ (List.mem_append_left _ h0_))))))) hown hK hI i_24.1 k_25 rfl 5 (by decide) (hts (.fieldLink RX11 257 "DeadlineShare$Task" "v" "J") (List.mem_cons_of_mem _ (List.mem_append_left _ (List.mem_of_getElem? (i := 10) rfl)))) (fun _ h9 => h9) rfl dX11_exact_81 ?_
        exact W.lret (v := x_30) hx hb hr (fun t ht hW => ⟨⟨x_30, (), rfl, trivial, ⟨f, k_ret ht hI, hk0⟩⟩, hS.F ht⟩) hS.2.2 dX11_exact_84
      by_cases h_46 : p2 = 1
      · refine k_topi (y := 1) h_46 ?_
        refine lv_tableIn (tgt := 85) hx hb dX11_exact_52 (by decide) (by decide) rfl (by decide) ?_
        have h_46 := kc_eq rfl (by decide : Int32.toInt 1 = 1) h_46
        refine lv_aload_n hx hb dX11_exact_85 rfl (lv_at hl 0 rfl) ?_
        refine va_calll (va_runV (As := []) (rest := []) ⟨hx, hb, hml, hown, hts⟩ (c_X8_deadline l dC dI g A hG f a_23 i_24) (cwV 0 hts (gi_V (fun w_ h0_ => ⟨List.mem_cons_of_mem _ (List.mem_append_right _ (List.mem_append_right _ (List.mem_append_right _ (List.mem_append_right _ (List.mem_append_right _ (List.mem_append_right _ (List.mem_append_left _ h0_))))))), (tb_c_X8_deadline w_ h0_).2⟩) (List.mem_cons_of_mem _ (List.mem_append_left _ (List.mem_of_getElem? (i := 11) rfl))) (List.mem_cons_of_mem _ (List.mem_append_left _ (List.mem_of_getElem? (i := 12) rfl))) (List.mem_cons_of_mem _ (List.mem_append_left _ (List.mem_of_getElem? (i := 13) rfl))) (List.mem_cons_of_mem _ (List.mem_append_left _ (List.mem_of_getElem? (i := 9) rfl)))) rfl rfl rfl (by decide +kernel) ⟨Nat.le_of_ble_eq_true rfl, Nat.le_of_ble_eq_true rfl⟩) ⟨fun a U g mk q => ⟨q.1, q.2.calling rfl rfl⟩, k_recv hK hI i_24.1 k_25 (ci := 8) rfl, fun U hU hW => ⟨rfl, kIn.of hI hK hE hS hU hW⟩⟩ rfl rfl hl.1 rfl (lv_room (Nat.le_of_ble_eq_true rfl)) dX11_exact_86 ⟨Nat.le_of_ble_eq_true rfl, Nat.le_of_ble_eq_true rfl⟩) hS (fun q _ h => h) (fun q h => h) (fun r_48 u t H1 locs ht hvm w_47 hB hz1 hk1 hS => ?_)
        have hI : Iv dC dI g A f t.heap := hB
        rw [ht] at hI
        generalize H1 = H at hI hS ⊢
        refine W.widen (k := 0) (n := 0) (Nat.le_of_ble_eq_true rfl) (Nat.le_of_ble_eq_true rfl) ?_
        exact W.lret (v := r_48) hx hb hr (fun t ht hW => ⟨⟨r_48, (), rfl, trivial, ⟨f, k_ret ht hI, hk0⟩⟩, hS.F ht⟩) hS.2.2 dX11_exact_89
      by_cases h_49 : p2 = 2
      · refine k_topi (y := 2) h_49 ?_
        refine lv_tableIn (tgt := 90) hx hb dX11_exact_52 (by decide) (by decide) rfl (by decide) ?_
        have h_49 := kc_eq rfl (by decide : Int32.toInt 2 = 2) h_49
        refine lv_aload_n hx hb dX11_exact_90 rfl (lv_at hl 1 rfl) ?_
        refine k_get (ci := 11) (v := .ref (gr g h0 3)) (C := RX11) (T := TX11) (N := 12) hx hb hts (fun _ h0_ => List.mem_cons_of_mem _ (List.mem_append_right _ (List.mem_append_left _ h0_))) hown hK hI i_h0.1 k_1 rfl 3 (by decide) (hts (.fieldLink RX11 37 "DeadlineShare" "now" "LDeadlineShare$State;") (List.mem_cons_of_mem _ (List.mem_append_left _ (List.mem_of_getElem? (i := 0) rfl)))) (fun _ h9 => h9) rfl dX11_exact_91 ?_
        refine lv_aload_n hx hb dX11_exact_94 rfl (lv_at hl 0 rfl) ?_
        refine va_calll (va_runV (As := [.ref a_23]) (rest := []) ⟨hx, hb, hml, hown, hts⟩ (c_X6_lagTimesW l dC dI g A hG f (gr g h0 3) a_23 i_4 i_24) (cwV 1 hts (gi_V (fun w_ h0_ => ⟨List.mem_cons_of_mem _ (List.mem_append_right _ (List.mem_append_right _ (List.mem_append_right _ (List.mem_append_right _ (List.mem_append_right _ (List.mem_append_right _ (List.mem_append_right _ (List.mem_append_left _ h0_)))))))), (tb_c_X6_lagTimesW w_ h0_).2⟩) (List.mem_cons_of_mem _ (List.mem_append_left _ (List.mem_of_getElem? (i := 14) rfl))) (List.mem_cons_of_mem _ (List.mem_append_left _ (List.mem_of_getElem? (i := 15) rfl))) (List.mem_cons_of_mem _ (List.mem_append_left _ (List.mem_of_getElem? (i := 16) rfl))) (List.mem_cons_of_mem _ (List.mem_append_left _ (List.mem_of_getElem? (i := 4) rfl)))) rfl rfl rfl (by decide +kernel) ⟨Nat.le_of_ble_eq_true rfl, Nat.le_of_ble_eq_true rfl⟩) ⟨fun a U g mk q => ⟨q.1, q.2.calling rfl rfl⟩, k_recv hK hI i_4.1 k_5 (ci := 6) rfl, fun U hU hW => ⟨rfl, kIn.of hI hK hE hS hU hW⟩⟩ rfl rfl hl.1 rfl (lv_room (Nat.le_of_ble_eq_true rfl)) dX11_exact_95 ⟨Nat.le_of_ble_eq_true rfl, Nat.le_of_ble_eq_true rfl⟩) hS (fun q _ h => h) (fun q h => h) (fun r_54 u t H1 locs ht hvm w_53 hB hz1 hk1 hS => ?_)
        obtain ⟨f_52, hI, kc_55⟩ := hB
        rw [ht] at hI
        have k_57 : f_52 h0 = .inr (11, [.ref (gr g h0 0), .ref (gr g h0 1), .ref (gr g h0 2), .ref (gr g h0 3), .ref (gr g h0 4), .ref (gr g h0 5), .ref (gr g h0 6), .ref (gr g h0 7), .ref (gr g h0 8), .ref (gr g h0 9), .ref (gr g h0 10), .int x_2]) := Kp.at kc_55 i_h0 (by decide) k_1
        have k_58 : f_52 (gr g h0 3) = .inr (6, [.ref (gr g (gr g h0 3) 0), .ref (gr g (gr g h0 3) 1), .ref (gr g (gr g h0 3) 2), .ref (gr g (gr g h0 3) 3), .ref (gr g (gr g h0 3) 4), .int x_6, .int x_7, .long x_8, .int x_9, .int x_10]) := Kp.at kc_55 i_4 (by decide) k_5
        have k_59 : f_52 (gr g (gr g h0 3) 1) = .inl (gc g 4, 12, .inr (.inr (.inr (.inr q_21)))) := Kp.at kc_55 i_19 (by decide) k_20
        have k_60 : f_52 a_23 = .inr (8, [.int x_26, .ref (gr g a_23 1), .int x_27, .int x_28, .int x_29, .long x_30, .int x_31, .ref (gr g a_23 7), .int x_32, .int x_33, .int x_34, .int x_35, .int x_36, .int x_37, .int x_38, .int x_39, .int x_40, .int x_41]) := Kp.at kc_55 i_24 (by decide) k_25
        have kp_61 := Kp.call hk0 kc_55 (by decide)
        generalize H1 = H at hI hS ⊢
        refine W.widen (k := 0) (n := 0) (Nat.le_of_ble_eq_true rfl) (Nat.le_of_ble_eq_true rfl) ?_
        exact W.lret (v := r_54) hx hb hr (fun t ht hW => ⟨⟨r_54, (), rfl, trivial, ⟨f_52, k_ret ht hI, kp_61⟩⟩, hS.F ht⟩) hS.2.2 dX11_exact_98
      have h_45 := kn_eq rfl (by decide : Int32.toInt 0 = 0) h_45
      have h_46 := kn_eq rfl (by decide : Int32.toInt 1 = 1) h_46
      have h_49 := kn_eq rfl (by decide : Int32.toInt 2 = 2) h_49
      refine lv_tableOut (tgt := 99) hx hb dX11_exact_52 (by omega) (by decide) ?_
      refine lv_ldc2 hx hb hown (hts (.constantLong RX11 245 (-9223372036854775808)) (List.mem_cons_of_mem _ (List.mem_append_left _ (List.mem_of_getElem? (i := 17) rfl)))) dX11_exact_99 ?_
      exact W.lret (v := (-9223372036854775808)) hx hb hr (fun t ht hW => ⟨⟨(-9223372036854775808), (), rfl, trivial, ⟨f, k_ret ht hI, hk0⟩⟩, hS.F ht⟩) hS.2.2 dX11_exact_102
    · have c_44 := kc_eq rfl (by decide : Int32.toInt 0 = 0) c_44
      refine lv_iload_n hx hb dX11_exact_32 rfl (lv_at hl 3 rfl) ?_
      refine lv_iconst (v := 3) hx hb dX11_exact_33 (by decide) ?_
      refine lv_icmp_ne (tgt := 47) hx hb dX11_exact_34 (by decide) (fun c_62 => ?_) (fun c_62 => ?_)
      · have c_62 := kn_eq rfl (by decide : Int32.toInt 3 = 3) c_62
        refine lv_ldc2 hx hb hown (hts (.constantLong RX11 245 (-9223372036854775808)) (List.mem_cons_of_mem _ (List.mem_append_left _ (List.mem_of_getElem? (i := 17) rfl)))) dX11_exact_47 ?_
        exact W.lret (v := (-9223372036854775808)) hx hb hr (fun t ht hW => ⟨⟨(-9223372036854775808), (), rfl, trivial, ⟨f, k_ret ht hI, hk0⟩⟩, hS.F ht⟩) hS.2.2 dX11_exact_50
      · have c_62 := kc_eq rfl (by decide : Int32.toInt 3 = 3) c_62
        refine lv_aload_n hx hb dX11_exact_37 rfl (lv_at hl 0 rfl) ?_
        refine k_get (ci := 8) (v := .ref (gr g a_23 7)) (C := RX8) (T := TX8) (N := 18) hx hb hts (fun _ h0_ => List.mem_cons_of_mem _ (List.mem_append_right _ (List.mem_append_right _ (List.mem_append_right _ (List.mem_append_right _ (List.mem_append_right _ (List.mem_append_left _ h0_))))))) hown hK hI i_24.1 k_25 rfl 7 (by decide) (hts (.fieldLink RX11 247 "DeadlineShare$Task" "lag" "LDeadlineShare$Wide;") (List.mem_cons_of_mem _ (List.mem_append_left _ (List.mem_of_getElem? (i := 18) rfl)))) (fun _ h9 => h9) rfl dX11_exact_38 ?_
        have i_64 := kw_8_7 hG i_24
        obtain ⟨x_66, x_67, k_65⟩ := op_10 hI i_64
        refine va_calll (va_runV (As := []) (rest := []) ⟨hx, hb, hml, hown, hts⟩ (c_X10_asLong l dC dI g A hG f (gr g a_23 7) i_64) (cwV 0 hts (gi_V (fun w_ h0_ => ⟨List.mem_cons_of_mem _ (List.mem_append_right _ (List.mem_append_right _ (List.mem_append_right _ (List.mem_append_right _ (List.mem_append_right _ (List.mem_append_right _ (List.mem_append_right _ (List.mem_append_right _ (List.mem_append_left _ h0_))))))))), (tb_c_X10_asLong w_ h0_).2⟩) (List.mem_cons_of_mem _ (List.mem_append_left _ (List.mem_of_getElem? (i := 19) rfl))) (List.mem_cons_of_mem _ (List.mem_append_left _ (List.mem_of_getElem? (i := 20) rfl))) (List.mem_cons_of_mem _ (List.mem_append_left _ (List.mem_of_getElem? (i := 21) rfl))) (List.mem_cons_of_mem _ (List.mem_append_left _ (List.mem_of_getElem? (i := 22) rfl)))) rfl rfl rfl (by decide +kernel) ⟨Nat.le_of_ble_eq_true rfl, Nat.le_of_ble_eq_true rfl⟩) ⟨fun a U g mk q => ⟨q.1, q.2.calling rfl rfl⟩, k_recv hK hI i_64.1 k_65 (ci := 10) rfl, fun U hU hW => ⟨rfl, kIn.of hI hK hE hS hU hW⟩⟩ rfl rfl hl.1 rfl (lv_room (Nat.le_of_ble_eq_true rfl)) dX11_exact_41 ⟨Nat.le_of_ble_eq_true rfl, Nat.le_of_ble_eq_true rfl⟩) hS (fun q _ h => h) (fun q h => h) (fun r_69 u t H1 locs ht hvm w_68 hB hz1 hk1 hS => ?_)
        have hI : Iv dC dI g A f t.heap := hB
        rw [ht] at hI
        generalize H1 = H at hI hS ⊢
        refine W.widen (k := 0) (n := 0) (Nat.le_of_ble_eq_true rfl) (Nat.le_of_ble_eq_true rfl) ?_
        refine lv_goto (tgt := 50) hx hb dX11_exact_44 (by decide) ?_
        exact W.lret (v := r_69) hx hb hr (fun t ht hW => ⟨⟨r_69, (), rfl, trivial, ⟨f, k_ret ht hI, hk0⟩⟩, hS.F ht⟩) hS.2.2 dX11_exact_50
  · have c_15 := kc_eq rfl (by decide : Int32.toInt 0 = 0) c_15
    refine lv_ldc2 hx hb hown (hts (.constantLong RX11 245 (-9223372036854775808)) (List.mem_cons_of_mem _ (List.mem_append_left _ (List.mem_of_getElem? (i := 17) rfl)))) dX11_exact_11 ?_
    exact W.lret (v := (-9223372036854775808)) hx hb hr (fun t ht hW => ⟨⟨(-9223372036854775808), (), rfl, trivial, ⟨f, k_ret ht hI, hk0⟩⟩, hS.F ht⟩) hS.2.2 dX11_exact_14
theorem tw_551 : q_g (.selects RX6 yX6_restOfV yX6_restOfV) := ⟨(List.mem_append_right _ (List.mem_of_getElem? (i := 927) (by decide +kernel))), good_of_word (by decide +kernel)⟩
theorem tw_552 : q_g (.instanceMethod yX6_restOfV) := ⟨(List.mem_append_right _ (List.mem_of_getElem? (i := 926) (by decide +kernel))), good_of_word (by decide +kernel)⟩
theorem tw_553 : q_g (.methodLink RX11 271 yX6_restOfV) := ⟨(List.mem_append_right _ (List.mem_of_getElem? (i := 925) (by decide +kernel))), good_of_word (by decide +kernel)⟩
theorem tw_554 : q_g (.methodLink RX11 268 yX6_wholeV) := ⟨(List.mem_append_right _ (List.mem_of_getElem? (i := 924) (by decide +kernel))), good_of_word (by decide +kernel)⟩
theorem tw_555 : q_g (.code yX11_time cX11_time 2 (some .long)) := ⟨(List.mem_append_right _ (List.mem_of_getElem? (i := 923) (by decide +kernel))), good_of_word (by decide +kernel)⟩
def ow_c_X11_time : List Cond := [.fieldLink RX11 37 "DeadlineShare" "now" "LDeadlineShare$State;", .methodLink RX11 268 yX6_wholeV, .instanceMethod yX6_wholeV, .selects RX6 yX6_wholeV yX6_wholeV, .initialized RX6, .methodLink RX11 271 yX6_restOfV, .instanceMethod yX6_restOfV, .selects RX6 yX6_restOfV yX6_restOfV, .methodLink RX11 155 yX6_weightOfAll, .instanceMethod yX6_weightOfAll, .selects RX6 yX6_weightOfAll yX6_weightOfAll, .fieldLink RX11 223 "DeadlineShare$State" "time" "I", .constantLong RX11 245 (-9223372036854775808)]
def wq_c_X11_time : List Cond := .code yX11_time cX11_time 2 (some .long) :: (ow_c_X11_time ++ (u_ws RX11 TX11 12 ++ (wq_c_X6_wholeV ++ (wq_c_X6_restOfV ++ (wq_c_X6_weightOfAll ++ (u_ws RX6 TX6 10 ++ ([] : List Cond)))))))
theorem tb_c_X11_time : ∀ w ∈ wq_c_X11_time, q_g w := by
  unfold wq_c_X11_time ow_c_X11_time
  exact q_cons tw_555 (q_app (q_cons tw_479 (q_cons tw_554 (q_cons tw_67 (q_cons tw_66 (q_cons tw_47 (q_cons tw_553 (q_cons tw_552 (q_cons tw_551 (q_cons tw_485 (q_cons tw_88 (q_cons tw_87 (q_cons tw_523 (q_cons tw_544 q_nil))))))))))))) (q_app tu_X11 (q_app tb_c_X6_wholeV (q_app tb_c_X6_restOfV (q_app tb_c_X6_weightOfAll (q_app tu_X6 q_nil))))))
set_option maxHeartbeats 4000000 in
set_option maxRecDepth 100000 in
theorem c_X11_time (l : Launch) (dC : Nat → ClassId) (dI : Nat → Nat → Nat) (g : kG) (A : Nat → Prop) (hG : kWf g) (f : Nat → va_E) (h0 : Nat) (p1 : Int32) (i_h0 : ik g 11 h0) : Met l yX11_time wq_c_X11_time ({ frames := 3, cells := 0, slots := 0, locals := 69 } : Room) (va_Pc [.ref h0, .int p1] (fun U => kIn dC dI g A f U)) (va_Ql (fun (r : Int64) (_ : Unit) => True) (fun (_ : Unit) t => ∃ f1 : Nat → va_E, Iv dC dI g A f1 t.heap ∧ Kp g [10] f f1) A) 0 0 A := by
  refine Met.ofW (cc := cX11_time) (maxL := 2) (ret := (some .long)) (by decide) rfl ?_
  intro p e s m args below meth c s₁ B hml hv
  obtain ⟨rfl, hI, hK, hE⟩ := hv
  have hx := B.exec
  have hb := B.bytes
  have hr := B.returns
  have hts := atoms_spec (ws := wq_c_X11_time) B.pre
  have hown : s.vm.findClass RX11 = some m.cls := findClass_of_methodNamed B.named
  have hlocks := B.notSynchronized
  have hS : va_S A s.heap s.heap [] := va_S.rf
  have hk0 : Kp g [10] f f := Kp.rf
  have hl := lv_entry ([.ref h0, .int p1]) (n := 2) (Nat.le_of_ble_eq_true rfl)
  rw [lg_entry_eq]
  generalize (lg_sl ([.ref h0, .int p1]) ++ List.replicate (2 - (lg_sl ([.ref h0, .int p1])).length) Slot.unset).toArray = ls at hl ⊢
  have hl : lv_has ls 2 [(0, .ref h0), (1, .int p1)] := hl
  refine lv_iload_n hx hb dX11_time_0 rfl (lv_at hl 1 rfl) ?_
  by_cases h_1 : p1 = 0
  · refine k_topi (y := 0) h_1 ?_
    refine lv_tableIn (tgt := 32) hx hb dX11_time_1 (by decide) (by decide) rfl (by decide) ?_
    have h_1 := kc_eq rfl (by decide : Int32.toInt 0 = 0) h_1
    refine lv_aload_n hx hb dX11_time_32 rfl (lv_at hl 0 rfl) ?_
    obtain ⟨x_3, k_2⟩ := op_11 hI i_h0
    refine k_get (ci := 11) (v := .ref (gr g h0 3)) (C := RX11) (T := TX11) (N := 12) hx hb hts (fun _ h0_ => List.mem_cons_of_mem _ (List.mem_append_right _ (List.mem_append_left _ h0_))) hown hK hI i_h0.1 k_2 rfl 3 (by decide) (hts (.fieldLink RX11 37 "DeadlineShare" "now" "LDeadlineShare$State;") (List.mem_cons_of_mem _ (List.mem_append_left _ (List.mem_of_getElem? (i := 0) rfl)))) (fun _ h9 => h9) rfl dX11_time_33 ?_
    have i_5 := kw_11_3 hG i_h0
    obtain ⟨x_7, x_8, x_9, x_10, x_11, k_6, b_12, b_13⟩ := op_6 hI i_5
    refine va_calll (va_runV (As := []) (rest := []) ⟨hx, hb, hml, hown, hts⟩ (c_X6_wholeV l dC dI g A hG f (gr g h0 3) i_5) (cwV 0 hts (gi_V (fun w_ h0_ => ⟨List.mem_cons_of_mem _ (List.mem_append_right _ (List.mem_append_right _ (List.mem_append_left _ h0_))), (tb_c_X6_wholeV w_ h0_).2⟩) (List.mem_cons_of_mem _ (List.mem_append_left _ (List.mem_of_getElem? (i := 1) rfl))) (List.mem_cons_of_mem _ (List.mem_append_left _ (List.mem_of_getElem? (i := 2) rfl))) (List.mem_cons_of_mem _ (List.mem_append_left _ (List.mem_of_getElem? (i := 3) rfl))) (List.mem_cons_of_mem _ (List.mem_append_left _ (List.mem_of_getElem? (i := 4) rfl)))) rfl rfl rfl (by decide +kernel) ⟨Nat.le_of_ble_eq_true rfl, Nat.le_of_ble_eq_true rfl⟩) ⟨fun a U g mk q => ⟨q.1, q.2.calling rfl rfl⟩, k_recv hK hI i_5.1 k_6 (ci := 6) rfl, fun U hU hW => ⟨rfl, kIn.of hI hK hE hS hU hW⟩⟩ rfl rfl hl.1 rfl (lv_room (Nat.le_of_ble_eq_true rfl)) dX11_time_36 ⟨Nat.le_of_ble_eq_true rfl, Nat.le_of_ble_eq_true rfl⟩) hS (fun q _ h => h) (fun q h => h) (fun r_16 u t H1 locs ht hvm w_15 hB hz1 hk1 hS => ?_)
    obtain ⟨f_14, hI, kc_17⟩ := hB
    rw [ht] at hI
    have k_19 : f_14 h0 = .inr (11, [.ref (gr g h0 0), .ref (gr g h0 1), .ref (gr g h0 2), .ref (gr g h0 3), .ref (gr g h0 4), .ref (gr g h0 5), .ref (gr g h0 6), .ref (gr g h0 7), .ref (gr g h0 8), .ref (gr g h0 9), .ref (gr g h0 10), .int x_3]) := Kp.at kc_17 i_h0 (by decide) k_2
    have k_20 : f_14 (gr g h0 3) = .inr (6, [.ref (gr g (gr g h0 3) 0), .ref (gr g (gr g h0 3) 1), .ref (gr g (gr g h0 3) 2), .ref (gr g (gr g h0 3) 3), .ref (gr g (gr g h0 3) 4), .int x_7, .int x_8, .long x_9, .int x_10, .int x_11]) := Kp.at kc_17 i_5 (by decide) k_6
    have kp_21 := Kp.call hk0 kc_17 (by decide)
    generalize H1 = H at hI hS ⊢
    refine W.widen (k := 0) (n := 0) (Nat.le_of_ble_eq_true rfl) (Nat.le_of_ble_eq_true rfl) ?_
    exact W.lret (v := r_16) hx hb hr (fun t ht hW => ⟨⟨r_16, (), rfl, trivial, ⟨f_14, k_ret ht hI, kp_21⟩⟩, hS.F ht⟩) hS.2.2 dX11_time_39
  by_cases h_22 : p1 = 1
  · refine k_topi (y := 1) h_22 ?_
    refine lv_tableIn (tgt := 40) hx hb dX11_time_1 (by decide) (by decide) rfl (by decide) ?_
    have h_22 := kc_eq rfl (by decide : Int32.toInt 1 = 1) h_22
    refine lv_aload_n hx hb dX11_time_40 rfl (lv_at hl 0 rfl) ?_
    obtain ⟨x_24, k_23⟩ := op_11 hI i_h0
    refine k_get (ci := 11) (v := .ref (gr g h0 3)) (C := RX11) (T := TX11) (N := 12) hx hb hts (fun _ h0_ => List.mem_cons_of_mem _ (List.mem_append_right _ (List.mem_append_left _ h0_))) hown hK hI i_h0.1 k_23 rfl 3 (by decide) (hts (.fieldLink RX11 37 "DeadlineShare" "now" "LDeadlineShare$State;") (List.mem_cons_of_mem _ (List.mem_append_left _ (List.mem_of_getElem? (i := 0) rfl)))) (fun _ h9 => h9) rfl dX11_time_41 ?_
    have i_26 := kw_11_3 hG i_h0
    obtain ⟨x_28, x_29, x_30, x_31, x_32, k_27, b_33, b_34⟩ := op_6 hI i_26
    refine va_calll (va_runV (As := []) (rest := []) ⟨hx, hb, hml, hown, hts⟩ (c_X6_restOfV l dC dI g A hG f (gr g h0 3) i_26) (cwV 0 hts (gi_V (fun w_ h0_ => ⟨List.mem_cons_of_mem _ (List.mem_append_right _ (List.mem_append_right _ (List.mem_append_right _ (List.mem_append_left _ h0_)))), (tb_c_X6_restOfV w_ h0_).2⟩) (List.mem_cons_of_mem _ (List.mem_append_left _ (List.mem_of_getElem? (i := 5) rfl))) (List.mem_cons_of_mem _ (List.mem_append_left _ (List.mem_of_getElem? (i := 6) rfl))) (List.mem_cons_of_mem _ (List.mem_append_left _ (List.mem_of_getElem? (i := 7) rfl))) (List.mem_cons_of_mem _ (List.mem_append_left _ (List.mem_of_getElem? (i := 4) rfl)))) rfl rfl rfl (by decide +kernel) ⟨Nat.le_of_ble_eq_true rfl, Nat.le_of_ble_eq_true rfl⟩) ⟨fun a U g mk q => ⟨q.1, q.2.calling rfl rfl⟩, k_recv hK hI i_26.1 k_27 (ci := 6) rfl, fun U hU hW => ⟨rfl, kIn.of hI hK hE hS hU hW⟩⟩ rfl rfl hl.1 rfl (lv_room (Nat.le_of_ble_eq_true rfl)) dX11_time_44 ⟨Nat.le_of_ble_eq_true rfl, Nat.le_of_ble_eq_true rfl⟩) hS (fun q _ h => h) (fun q h => h) (fun r_37 u t H1 locs ht hvm w_36 hB hz1 hk1 hS => ?_)
    obtain ⟨f_35, hI, kc_38⟩ := hB
    rw [ht] at hI
    have k_40 : f_35 h0 = .inr (11, [.ref (gr g h0 0), .ref (gr g h0 1), .ref (gr g h0 2), .ref (gr g h0 3), .ref (gr g h0 4), .ref (gr g h0 5), .ref (gr g h0 6), .ref (gr g h0 7), .ref (gr g h0 8), .ref (gr g h0 9), .ref (gr g h0 10), .int x_24]) := Kp.at kc_38 i_h0 (by decide) k_23
    have k_41 : f_35 (gr g h0 3) = .inr (6, [.ref (gr g (gr g h0 3) 0), .ref (gr g (gr g h0 3) 1), .ref (gr g (gr g h0 3) 2), .ref (gr g (gr g h0 3) 3), .ref (gr g (gr g h0 3) 4), .int x_28, .int x_29, .long x_30, .int x_31, .int x_32]) := Kp.at kc_38 i_26 (by decide) k_27
    have kp_42 := Kp.call hk0 kc_38 (by decide)
    generalize H1 = H at hI hS ⊢
    refine W.widen (k := 0) (n := 0) (Nat.le_of_ble_eq_true rfl) (Nat.le_of_ble_eq_true rfl) ?_
    exact W.lret (v := r_37) hx hb hr (fun t ht hW => ⟨⟨r_37, (), rfl, trivial, ⟨f_35, k_ret ht hI, kp_42⟩⟩, hS.F ht⟩) hS.2.2 dX11_time_47
  by_cases h_43 : p1 = 2
  · refine k_topi (y := 2) h_43 ?_
    refine lv_tableIn (tgt := 48) hx hb dX11_time_1 (by decide) (by decide) rfl (by decide) ?_
    have h_43 := kc_eq rfl (by decide : Int32.toInt 2 = 2) h_43
    refine lv_aload_n hx hb dX11_time_48 rfl (lv_at hl 0 rfl) ?_
    obtain ⟨x_45, k_44⟩ := op_11 hI i_h0
    refine k_get (ci := 11) (v := .ref (gr g h0 3)) (C := RX11) (T := TX11) (N := 12) hx hb hts (fun _ h0_ => List.mem_cons_of_mem _ (List.mem_append_right _ (List.mem_append_left _ h0_))) hown hK hI i_h0.1 k_44 rfl 3 (by decide) (hts (.fieldLink RX11 37 "DeadlineShare" "now" "LDeadlineShare$State;") (List.mem_cons_of_mem _ (List.mem_append_left _ (List.mem_of_getElem? (i := 0) rfl)))) (fun _ h9 => h9) rfl dX11_time_49 ?_
    have i_47 := kw_11_3 hG i_h0
    obtain ⟨x_49, x_50, x_51, x_52, x_53, k_48, b_54, b_55⟩ := op_6 hI i_47
    refine va_calli (va_runV (As := []) (rest := []) ⟨hx, hb, hml, hown, hts⟩ (c_X6_weightOfAll l dC dI g A hG f (gr g h0 3) i_47) (cwV 0 hts (gi_V (fun w_ h0_ => ⟨List.mem_cons_of_mem _ (List.mem_append_right _ (List.mem_append_right _ (List.mem_append_right _ (List.mem_append_right _ (List.mem_append_left _ h0_))))), (tb_c_X6_weightOfAll w_ h0_).2⟩) (List.mem_cons_of_mem _ (List.mem_append_left _ (List.mem_of_getElem? (i := 8) rfl))) (List.mem_cons_of_mem _ (List.mem_append_left _ (List.mem_of_getElem? (i := 9) rfl))) (List.mem_cons_of_mem _ (List.mem_append_left _ (List.mem_of_getElem? (i := 10) rfl))) (List.mem_cons_of_mem _ (List.mem_append_left _ (List.mem_of_getElem? (i := 4) rfl)))) rfl rfl rfl (by decide +kernel) ⟨Nat.le_of_ble_eq_true rfl, Nat.le_of_ble_eq_true rfl⟩) ⟨fun a U g mk q => ⟨q.1, q.2.calling rfl rfl⟩, k_recv hK hI i_47.1 k_48 (ci := 6) rfl, fun U hU hW => ⟨rfl, kIn.of hI hK hE hS hU hW⟩⟩ rfl rfl hl.1 rfl (lv_room (Nat.le_of_ble_eq_true rfl)) dX11_time_52 ⟨Nat.le_of_ble_eq_true rfl, Nat.le_of_ble_eq_true rfl⟩) hS (fun q _ h => h) (fun q h => h) (fun r_57 u t H1 locs ht hvm w_56 hB hz1 hk1 hS => ?_)
    have hI : Iv dC dI g A f t.heap := hB
    rw [ht] at hI
    generalize H1 = H at hI hS ⊢
    refine W.widen (k := 0) (n := 0) (Nat.le_of_ble_eq_true rfl) (Nat.le_of_ble_eq_true rfl) ?_
    refine lv_i2l (v := r_57.toInt64) hx hb dX11_time_55 rfl ?_
    have t_58 := Int32.toInt_toInt64 r_57
    exact W.lret (v := r_57.toInt64) hx hb hr (fun t ht hW => ⟨⟨r_57.toInt64, (), rfl, trivial, ⟨f, k_ret ht hI, hk0⟩⟩, hS.F ht⟩) hS.2.2 dX11_time_56
  by_cases h_59 : p1 = 3
  · refine k_topi (y := 3) h_59 ?_
    refine lv_tableIn (tgt := 57) hx hb dX11_time_1 (by decide) (by decide) rfl (by decide) ?_
    have h_59 := kc_eq rfl (by decide : Int32.toInt 3 = 3) h_59
    refine lv_aload_n hx hb dX11_time_57 rfl (lv_at hl 0 rfl) ?_
    obtain ⟨x_61, k_60⟩ := op_11 hI i_h0
    refine k_get (ci := 11) (v := .ref (gr g h0 3)) (C := RX11) (T := TX11) (N := 12) hx hb hts (fun _ h0_ => List.mem_cons_of_mem _ (List.mem_append_right _ (List.mem_append_left _ h0_))) hown hK hI i_h0.1 k_60 rfl 3 (by decide) (hts (.fieldLink RX11 37 "DeadlineShare" "now" "LDeadlineShare$State;") (List.mem_cons_of_mem _ (List.mem_append_left _ (List.mem_of_getElem? (i := 0) rfl)))) (fun _ h9 => h9) rfl dX11_time_58 ?_
    have i_63 := kw_11_3 hG i_h0
    obtain ⟨x_65, x_66, x_67, x_68, x_69, k_64, b_70, b_71⟩ := op_6 hI i_63
    refine k_get (ci := 6) (v := .int x_66) (C := RX6) (T := TX6) (N := 10) hx hb hts (fun _ h0_ => List.mem_cons_of_mem _ (List.mem_append_right _ (List.mem_append_right _ (List.mem_append_right _ (List.mem_append_right _ (List.mem_append_right _ (List.mem_append_left _ h0_))))))) hown hK hI i_63.1 k_64 rfl 6 (by decide) (hts (.fieldLink RX11 223 "DeadlineShare$State" "time" "I") (List.mem_cons_of_mem _ (List.mem_append_left _ (List.mem_of_getElem? (i := 11) rfl)))) (fun _ h9 => h9) rfl dX11_time_61 ?_
    refine lv_i2l (v := x_66.toInt64) hx hb dX11_time_64 rfl ?_
    have t_72 := Int32.toInt_toInt64 x_66
    exact W.lret (v := x_66.toInt64) hx hb hr (fun t ht hW => ⟨⟨x_66.toInt64, (), rfl, trivial, ⟨f, k_ret ht hI, hk0⟩⟩, hS.F ht⟩) hS.2.2 dX11_time_65
  have h_1 := kn_eq rfl (by decide : Int32.toInt 0 = 0) h_1
  have h_22 := kn_eq rfl (by decide : Int32.toInt 1 = 1) h_22
  have h_43 := kn_eq rfl (by decide : Int32.toInt 2 = 2) h_43
  have h_59 := kn_eq rfl (by decide : Int32.toInt 3 = 3) h_59
  refine lv_tableOut (tgt := 66) hx hb dX11_time_1 (by omega) (by decide) ?_
  refine lv_ldc2 hx hb hown (hts (.constantLong RX11 245 (-9223372036854775808)) (List.mem_cons_of_mem _ (List.mem_append_left _ (List.mem_of_getElem? (i := 12) rfl)))) dX11_time_66 ?_
  exact W.lret (v := (-9223372036854775808)) hx hb hr (fun t ht hW => ⟨⟨(-9223372036854775808), (), rfl, trivial, ⟨f, k_ret ht hI, hk0⟩⟩, hS.F ht⟩) hS.2.2 dX11_time_69
theorem tw_556 : q_g (.methodLink RX11 274 yX6_eligibleBits) := ⟨(List.mem_append_right _ (List.mem_of_getElem? (i := 937) (by decide +kernel))), good_of_word (by decide +kernel)⟩
theorem tw_557 : q_g (.code yX11_eligible cX11_eligible 1 (some .int)) := ⟨(List.mem_append_right _ (List.mem_of_getElem? (i := 936) (by decide +kernel))), good_of_word (by decide +kernel)⟩
def ow_c_X11_eligible : List Cond := [.fieldLink RX11 37 "DeadlineShare" "now" "LDeadlineShare$State;", .methodLink RX11 274 yX6_eligibleBits, .instanceMethod yX6_eligibleBits, .selects RX6 yX6_eligibleBits yX6_eligibleBits, .initialized RX6]
def wq_c_X11_eligible : List Cond := .code yX11_eligible cX11_eligible 1 (some .int) :: (ow_c_X11_eligible ++ (u_ws RX11 TX11 12 ++ (wq_c_X6_eligibleBits ++ ([] : List Cond))))
theorem tb_c_X11_eligible : ∀ w ∈ wq_c_X11_eligible, q_g w := by
  unfold wq_c_X11_eligible ow_c_X11_eligible
  exact q_cons tw_557 (q_app (q_cons tw_479 (q_cons tw_556 (q_cons tw_317 (q_cons tw_316 (q_cons tw_47 q_nil))))) (q_app tu_X11 (q_app tb_c_X6_eligibleBits q_nil)))
set_option maxHeartbeats 4000000 in
set_option maxRecDepth 100000 in
theorem c_X11_eligible (l : Launch) (dC : Nat → ClassId) (dI : Nat → Nat → Nat) (g : kG) (A : Nat → Prop) (hG : kWf g) (f : Nat → va_E) (h0 : Nat) (i_h0 : ik g 11 h0) : Met l yX11_eligible wq_c_X11_eligible ({ frames := 4, cells := 0, slots := 0, locals := 93 } : Room) (va_Pc [.ref h0] (fun U => kIn dC dI g A f U)) (va_Qi (fun (r : Int32) (_ : Unit) => True) (fun (_ : Unit) t => ∃ f1 : Nat → va_E, Iv dC dI g A f1 t.heap ∧ Kp g [10] f f1) A) 0 0 A := by
  refine Met.ofW (cc := cX11_eligible) (maxL := 1) (ret := (some .int)) (by decide) rfl ?_
  intro p e s m args below meth c s₁ B hml hv
  obtain ⟨rfl, hI, hK, hE⟩ := hv
  have hx := B.exec
  have hb := B.bytes
  have hr := B.returns
  have hts := atoms_spec (ws := wq_c_X11_eligible) B.pre
  have hown : s.vm.findClass RX11 = some m.cls := findClass_of_methodNamed B.named
  have hlocks := B.notSynchronized
  have hS : va_S A s.heap s.heap [] := va_S.rf
  have hk0 : Kp g [10] f f := Kp.rf
  have hl := lv_entry ([.ref h0]) (n := 1) (Nat.le_of_ble_eq_true rfl)
  rw [lg_entry_eq]
  generalize (lg_sl ([.ref h0]) ++ List.replicate (1 - (lg_sl ([.ref h0])).length) Slot.unset).toArray = ls at hl ⊢
  have hl : lv_has ls 1 [(0, .ref h0)] := hl
  refine lv_aload_n hx hb dX11_eligible_0 rfl (lv_at hl 0 rfl) ?_
  obtain ⟨x_2, k_1⟩ := op_11 hI i_h0
  refine k_get (ci := 11) (v := .ref (gr g h0 3)) (C := RX11) (T := TX11) (N := 12) hx hb hts (fun _ h0_ => List.mem_cons_of_mem _ (List.mem_append_right _ (List.mem_append_left _ h0_))) hown hK hI i_h0.1 k_1 rfl 3 (by decide) (hts (.fieldLink RX11 37 "DeadlineShare" "now" "LDeadlineShare$State;") (List.mem_cons_of_mem _ (List.mem_append_left _ (List.mem_of_getElem? (i := 0) rfl)))) (fun _ h9 => h9) rfl dX11_eligible_1 ?_
  have i_4 := kw_11_3 hG i_h0
  obtain ⟨x_6, x_7, x_8, x_9, x_10, k_5, b_11, b_12⟩ := op_6 hI i_4
  refine va_calli (va_runV (As := []) (rest := []) ⟨hx, hb, hml, hown, hts⟩ (c_X6_eligibleBits l dC dI g A hG f (gr g h0 3) i_4) (cwV 0 hts (gi_V (fun w_ h0_ => ⟨List.mem_cons_of_mem _ (List.mem_append_right _ (List.mem_append_right _ (List.mem_append_left _ h0_))), (tb_c_X6_eligibleBits w_ h0_).2⟩) (List.mem_cons_of_mem _ (List.mem_append_left _ (List.mem_of_getElem? (i := 1) rfl))) (List.mem_cons_of_mem _ (List.mem_append_left _ (List.mem_of_getElem? (i := 2) rfl))) (List.mem_cons_of_mem _ (List.mem_append_left _ (List.mem_of_getElem? (i := 3) rfl))) (List.mem_cons_of_mem _ (List.mem_append_left _ (List.mem_of_getElem? (i := 4) rfl)))) rfl rfl rfl (by decide +kernel) ⟨Nat.le_of_ble_eq_true rfl, Nat.le_of_ble_eq_true rfl⟩) ⟨fun a U g mk q => ⟨q.1, q.2.calling rfl rfl⟩, k_recv hK hI i_4.1 k_5 (ci := 6) rfl, fun U hU hW => ⟨rfl, kIn.of hI hK hE hS hU hW⟩⟩ rfl rfl hl.1 rfl (lv_room (Nat.le_of_ble_eq_true rfl)) dX11_eligible_4 ⟨Nat.le_of_ble_eq_true rfl, Nat.le_of_ble_eq_true rfl⟩) hS (fun q _ h => h) (fun q h => h) (fun r_15 u t H1 locs ht hvm w_14 hB hz1 hk1 hS => ?_)
  obtain ⟨f_13, hI, kc_16⟩ := hB
  rw [ht] at hI
  have k_18 : f_13 h0 = .inr (11, [.ref (gr g h0 0), .ref (gr g h0 1), .ref (gr g h0 2), .ref (gr g h0 3), .ref (gr g h0 4), .ref (gr g h0 5), .ref (gr g h0 6), .ref (gr g h0 7), .ref (gr g h0 8), .ref (gr g h0 9), .ref (gr g h0 10), .int x_2]) := Kp.at kc_16 i_h0 (by decide) k_1
  have k_19 : f_13 (gr g h0 3) = .inr (6, [.ref (gr g (gr g h0 3) 0), .ref (gr g (gr g h0 3) 1), .ref (gr g (gr g h0 3) 2), .ref (gr g (gr g h0 3) 3), .ref (gr g (gr g h0 3) 4), .int x_6, .int x_7, .long x_8, .int x_9, .int x_10]) := Kp.at kc_16 i_4 (by decide) k_5
  have kp_20 := Kp.call hk0 kc_16 (by decide)
  generalize H1 = H at hI hS ⊢
  refine W.widen (k := 0) (n := 0) (Nat.le_of_ble_eq_true rfl) (Nat.le_of_ble_eq_true rfl) ?_
  exact W.iret (v := r_15) hx hb hr (fun t ht hW => ⟨⟨r_15, (), rfl, trivial, ⟨f_13, k_ret ht hI, kp_20⟩⟩, hS.F ht⟩) hS.2.2 dX11_eligible_7
theorem tw_558 : q_g (.selects RX6 yX6_eligibleAt yX6_eligibleAt) := ⟨(List.mem_append_right _ (List.mem_of_getElem? (i := 947) (by decide +kernel))), good_of_word (by decide +kernel)⟩
theorem tw_559 : q_g (.instanceMethod yX6_eligibleAt) := ⟨(List.mem_append_right _ (List.mem_of_getElem? (i := 946) (by decide +kernel))), good_of_word (by decide +kernel)⟩
theorem tw_560 : q_g (.methodLink RX11 277 yX6_eligibleAt) := ⟨(List.mem_append_right _ (List.mem_of_getElem? (i := 945) (by decide +kernel))), good_of_word (by decide +kernel)⟩
theorem tw_561 : q_g (.code yX11_earliest cX11_earliest 2 (some .int)) := ⟨(List.mem_append_right _ (List.mem_of_getElem? (i := 944) (by decide +kernel))), good_of_word (by decide +kernel)⟩
def ow_c_X11_earliest : List Cond := [.fieldLink RX11 37 "DeadlineShare" "now" "LDeadlineShare$State;", .methodLink RX11 277 yX6_eligibleAt, .instanceMethod yX6_eligibleAt, .selects RX6 yX6_eligibleAt yX6_eligibleAt, .initialized RX6]
def wq_c_X11_earliest : List Cond := .code yX11_earliest cX11_earliest 2 (some .int) :: (ow_c_X11_earliest ++ (u_ws RX11 TX11 12 ++ (wq_c_X6_eligibleAt ++ ([] : List Cond))))
theorem tb_c_X11_earliest : ∀ w ∈ wq_c_X11_earliest, q_g w := by
  unfold wq_c_X11_earliest ow_c_X11_earliest
  exact q_cons tw_561 (q_app (q_cons tw_479 (q_cons tw_560 (q_cons tw_559 (q_cons tw_558 (q_cons tw_47 q_nil))))) (q_app tu_X11 (q_app tb_c_X6_eligibleAt q_nil)))
set_option maxHeartbeats 4000000 in
set_option maxRecDepth 100000 in
theorem c_X11_earliest (l : Launch) (dC : Nat → ClassId) (dI : Nat → Nat → Nat) (g : kG) (A : Nat → Prop) (hG : kWf g) (f : Nat → va_E) (h0 : Nat) (p1 : Int32) (i_h0 : ik g 11 h0) : Met l yX11_earliest wq_c_X11_earliest ({ frames := 5, cells := 0, slots := 0, locals := 116 } : Room) (va_Pc [.ref h0, .int p1] (fun U => kIn dC dI g A f U)) (va_Qi (fun (r : Int32) (_ : Unit) => True) (fun (_ : Unit) t => ∃ f1 : Nat → va_E, Iv dC dI g A f1 t.heap ∧ Kp g [10] f f1) A) 0 0 A := by
  refine Met.ofW (cc := cX11_earliest) (maxL := 2) (ret := (some .int)) (by decide) rfl ?_
  intro p e s m args below meth c s₁ B hml hv
  obtain ⟨rfl, hI, hK, hE⟩ := hv
  have hx := B.exec
  have hb := B.bytes
  have hr := B.returns
  have hts := atoms_spec (ws := wq_c_X11_earliest) B.pre
  have hown : s.vm.findClass RX11 = some m.cls := findClass_of_methodNamed B.named
  have hlocks := B.notSynchronized
  have hS : va_S A s.heap s.heap [] := va_S.rf
  have hk0 : Kp g [10] f f := Kp.rf
  have hl := lv_entry ([.ref h0, .int p1]) (n := 2) (Nat.le_of_ble_eq_true rfl)
  rw [lg_entry_eq]
  generalize (lg_sl ([.ref h0, .int p1]) ++ List.replicate (2 - (lg_sl ([.ref h0, .int p1])).length) Slot.unset).toArray = ls at hl ⊢
  have hl : lv_has ls 2 [(0, .ref h0), (1, .int p1)] := hl
  refine lv_aload_n hx hb dX11_earliest_0 rfl (lv_at hl 0 rfl) ?_
  obtain ⟨x_2, k_1⟩ := op_11 hI i_h0
  refine k_get (ci := 11) (v := .ref (gr g h0 3)) (C := RX11) (T := TX11) (N := 12) hx hb hts (fun _ h0_ => List.mem_cons_of_mem _ (List.mem_append_right _ (List.mem_append_left _ h0_))) hown hK hI i_h0.1 k_1 rfl 3 (by decide) (hts (.fieldLink RX11 37 "DeadlineShare" "now" "LDeadlineShare$State;") (List.mem_cons_of_mem _ (List.mem_append_left _ (List.mem_of_getElem? (i := 0) rfl)))) (fun _ h9 => h9) rfl dX11_earliest_1 ?_
  have i_4 := kw_11_3 hG i_h0
  refine lv_iload_n hx hb dX11_earliest_4 rfl (lv_at hl 1 rfl) ?_
  obtain ⟨x_6, x_7, x_8, x_9, x_10, k_5, b_11, b_12⟩ := op_6 hI i_4
  refine va_calli (va_runV (As := [.int p1]) (rest := []) ⟨hx, hb, hml, hown, hts⟩ (c_X6_eligibleAt l dC dI g A hG f (gr g h0 3) p1 i_4) (cwV 1 hts (gi_V (fun w_ h0_ => ⟨List.mem_cons_of_mem _ (List.mem_append_right _ (List.mem_append_right _ (List.mem_append_left _ h0_))), (tb_c_X6_eligibleAt w_ h0_).2⟩) (List.mem_cons_of_mem _ (List.mem_append_left _ (List.mem_of_getElem? (i := 1) rfl))) (List.mem_cons_of_mem _ (List.mem_append_left _ (List.mem_of_getElem? (i := 2) rfl))) (List.mem_cons_of_mem _ (List.mem_append_left _ (List.mem_of_getElem? (i := 3) rfl))) (List.mem_cons_of_mem _ (List.mem_append_left _ (List.mem_of_getElem? (i := 4) rfl)))) rfl rfl rfl (by decide +kernel) ⟨Nat.le_of_ble_eq_true rfl, Nat.le_of_ble_eq_true rfl⟩) ⟨fun a U g mk q => ⟨q.1, q.2.calling rfl rfl⟩, k_recv hK hI i_4.1 k_5 (ci := 6) rfl, fun U hU hW => ⟨rfl, kIn.of hI hK hE hS hU hW⟩⟩ rfl rfl hl.1 rfl (lv_room (Nat.le_of_ble_eq_true rfl)) dX11_earliest_5 ⟨Nat.le_of_ble_eq_true rfl, Nat.le_of_ble_eq_true rfl⟩) hS (fun q _ h => h) (fun q h => h) (fun r_15 u t H1 locs ht hvm w_14 hB hz1 hk1 hS => ?_)
  obtain ⟨f_13, hI, kc_16⟩ := hB
  rw [ht] at hI
  have k_18 : f_13 h0 = .inr (11, [.ref (gr g h0 0), .ref (gr g h0 1), .ref (gr g h0 2), .ref (gr g h0 3), .ref (gr g h0 4), .ref (gr g h0 5), .ref (gr g h0 6), .ref (gr g h0 7), .ref (gr g h0 8), .ref (gr g h0 9), .ref (gr g h0 10), .int x_2]) := Kp.at kc_16 i_h0 (by decide) k_1
  have k_19 : f_13 (gr g h0 3) = .inr (6, [.ref (gr g (gr g h0 3) 0), .ref (gr g (gr g h0 3) 1), .ref (gr g (gr g h0 3) 2), .ref (gr g (gr g h0 3) 3), .ref (gr g (gr g h0 3) 4), .int x_6, .int x_7, .long x_8, .int x_9, .int x_10]) := Kp.at kc_16 i_4 (by decide) k_5
  have kp_20 := Kp.call hk0 kc_16 (by decide)
  generalize H1 = H at hI hS ⊢
  refine W.widen (k := 0) (n := 0) (Nat.le_of_ble_eq_true rfl) (Nat.le_of_ble_eq_true rfl) ?_
  exact W.iret (v := r_15) hx hb hr (fun t ht hW => ⟨⟨r_15, (), rfl, trivial, ⟨f_13, k_ret ht hI, kp_20⟩⟩, hS.F ht⟩) hS.2.2 dX11_earliest_8
theorem tw_562 : q_g (.selects RX6 yX6_howManyBefore yX6_howManyBefore) := ⟨(List.mem_append_right _ (List.mem_of_getElem? (i := 960) (by decide +kernel))), good_of_word (by decide +kernel)⟩
theorem tw_563 : q_g (.instanceMethod yX6_howManyBefore) := ⟨(List.mem_append_right _ (List.mem_of_getElem? (i := 959) (by decide +kernel))), good_of_word (by decide +kernel)⟩
theorem tw_564 : q_g (.methodLink RX11 280 yX6_howManyBefore) := ⟨(List.mem_append_right _ (List.mem_of_getElem? (i := 958) (by decide +kernel))), good_of_word (by decide +kernel)⟩
theorem tw_565 : q_g (.code yX11_rank cX11_rank 2 (some .int)) := ⟨(List.mem_append_right _ (List.mem_of_getElem? (i := 957) (by decide +kernel))), good_of_word (by decide +kernel)⟩
def ow_c_X11_rank : List Cond := [.fieldLink RX11 37 "DeadlineShare" "now" "LDeadlineShare$State;", .methodLink RX11 130 yX6_has, .instanceMethod yX6_has, .selects RX6 yX6_has yX6_has, .initialized RX6, .fieldLink RX11 133 "DeadlineShare$State" "tasks" "[LDeadlineShare$Task;", .methodLink RX11 159 yX8_isOn, .instanceMethod yX8_isOn, .selects RX8 yX8_isOn yX8_isOn, .initialized RX8, .methodLink RX11 280 yX6_howManyBefore, .instanceMethod yX6_howManyBefore, .selects RX6 yX6_howManyBefore yX6_howManyBefore]
def wq_c_X11_rank : List Cond := .code yX11_rank cX11_rank 2 (some .int) :: (ow_c_X11_rank ++ (u_ws RX11 TX11 12 ++ (wq_c_X6_has ++ (u_ws RX6 TX6 10 ++ (wq_c_X8_isOn ++ (wq_c_X6_howManyBefore ++ ([] : List Cond)))))))
theorem tb_c_X11_rank : ∀ w ∈ wq_c_X11_rank, q_g w := by
  unfold wq_c_X11_rank ow_c_X11_rank
  exact q_cons tw_565 (q_app (q_cons tw_479 (q_cons tw_492 (q_cons tw_74 (q_cons tw_73 (q_cons tw_47 (q_cons tw_491 (q_cons tw_497 (q_cons tw_10 (q_cons tw_9 (q_cons tw_8 (q_cons tw_564 (q_cons tw_563 (q_cons tw_562 q_nil))))))))))))) (q_app tu_X11 (q_app tb_c_X6_has (q_app tu_X6 (q_app tb_c_X8_isOn (q_app tb_c_X6_howManyBefore q_nil))))))
set_option maxHeartbeats 4000000 in
set_option maxRecDepth 100000 in
theorem c_X11_rank (l : Launch) (dC : Nat → ClassId) (dI : Nat → Nat → Nat) (g : kG) (A : Nat → Prop) (hG : kWf g) (f : Nat → va_E) (h0 : Nat) (p1 : Int32) (i_h0 : ik g 11 h0) : Met l yX11_rank wq_c_X11_rank ({ frames := 2, cells := 0, slots := 0, locals := 44 } : Room) (va_Pc [.ref h0, .int p1] (fun U => kIn dC dI g A f U)) (va_Qi (fun (r : Int32) (_ : Unit) => True) (fun (_ : Unit) t => Iv dC dI g A f t.heap) A) 0 0 A := by
  refine Met.ofW (cc := cX11_rank) (maxL := 2) (ret := (some .int)) (by decide) rfl ?_
  intro p e s m args below meth c s₁ B hml hv
  obtain ⟨rfl, hI, hK, hE⟩ := hv
  have hx := B.exec
  have hb := B.bytes
  have hr := B.returns
  have hts := atoms_spec (ws := wq_c_X11_rank) B.pre
  have hown : s.vm.findClass RX11 = some m.cls := findClass_of_methodNamed B.named
  have hlocks := B.notSynchronized
  have hS : va_S A s.heap s.heap [] := va_S.rf
  have hl := lv_entry ([.ref h0, .int p1]) (n := 2) (Nat.le_of_ble_eq_true rfl)
  rw [lg_entry_eq]
  generalize (lg_sl ([.ref h0, .int p1]) ++ List.replicate (2 - (lg_sl ([.ref h0, .int p1])).length) Slot.unset).toArray = ls at hl ⊢
  have hl : lv_has ls 2 [(0, .ref h0), (1, .int p1)] := hl
  refine lv_aload_n hx hb dX11_rank_0 rfl (lv_at hl 0 rfl) ?_
  obtain ⟨x_2, k_1⟩ := op_11 hI i_h0
  refine k_get (ci := 11) (v := .ref (gr g h0 3)) (C := RX11) (T := TX11) (N := 12) hx hb hts (fun _ h0_ => List.mem_cons_of_mem _ (List.mem_append_right _ (List.mem_append_left _ h0_))) hown hK hI i_h0.1 k_1 rfl 3 (by decide) (hts (.fieldLink RX11 37 "DeadlineShare" "now" "LDeadlineShare$State;") (List.mem_cons_of_mem _ (List.mem_append_left _ (List.mem_of_getElem? (i := 0) rfl)))) (fun _ h9 => h9) rfl dX11_rank_1 ?_
  have i_4 := kw_11_3 hG i_h0
  refine lv_iload_n hx hb dX11_rank_4 rfl (lv_at hl 1 rfl) ?_
  obtain ⟨x_6, x_7, x_8, x_9, x_10, k_5, b_11, b_12⟩ := op_6 hI i_4
  refine va_calli (va_runV (As := [.int p1]) (rest := []) ⟨hx, hb, hml, hown, hts⟩ (c_X6_has l dC dI g A hG f (gr g h0 3) p1 i_4) (cwV 1 hts (gi_V (fun w_ h0_ => ⟨List.mem_cons_of_mem _ (List.mem_append_right _ (List.mem_append_right _ (List.mem_append_left _ h0_))), (tb_c_X6_has w_ h0_).2⟩) (List.mem_cons_of_mem _ (List.mem_append_left _ (List.mem_of_getElem? (i := 1) rfl))) (List.mem_cons_of_mem _ (List.mem_append_left _ (List.mem_of_getElem? (i := 2) rfl))) (List.mem_cons_of_mem _ (List.mem_append_left _ (List.mem_of_getElem? (i := 3) rfl))) (List.mem_cons_of_mem _ (List.mem_append_left _ (List.mem_of_getElem? (i := 4) rfl)))) rfl rfl rfl (by decide +kernel) ⟨Nat.le_of_ble_eq_true rfl, Nat.le_of_ble_eq_true rfl⟩) ⟨fun a U g mk q => ⟨q.1, q.2.calling rfl rfl⟩, k_recv hK hI i_4.1 k_5 (ci := 6) rfl, fun U hU hW => ⟨rfl, kIn.of hI hK hE hS hU hW⟩⟩ rfl rfl hl.1 rfl (lv_room (Nat.le_of_ble_eq_true rfl)) dX11_rank_5 ⟨Nat.le_of_ble_eq_true rfl, Nat.le_of_ble_eq_true rfl⟩) hS (fun q _ h => h) (fun q h => h) (fun r_14 u t H1 locs ht hvm w_13 hB hz1 hk1 hS => ?_)
  have hI : Iv dC dI g A f t.heap := hB
  rw [ht] at hI
  generalize H1 = H at hI hS ⊢
  refine W.widen (k := 0) (n := 0) (Nat.le_of_ble_eq_true rfl) (Nat.le_of_ble_eq_true rfl) ?_
  have w_13 : r_14.toInt = 0 ∨ (0 ≤ p1.toInt ∧ p1.toInt < 12) := w_13
  refine lv_if_eq (tgt := 45) hx hb dX11_rank_8 (by decide) (fun c_15 => ?_) (fun c_15 => ?_)
  · have c_15 := kc_eq rfl (by decide : Int32.toInt 0 = 0) c_15
    refine lv_iconst (v := (-1)) hx hb dX11_rank_45 (by decide) ?_
    exact W.iret (v := (-1)) hx hb hr (fun t ht hW => ⟨⟨(-1), (), rfl, trivial, k_ret ht hI⟩, hS.F ht⟩) hS.2.2 dX11_rank_46
  · have c_15 := kn_eq rfl (by decide : Int32.toInt 0 = 0) c_15
    refine lv_aload_n hx hb dX11_rank_11 rfl (lv_at hl 0 rfl) ?_
    refine k_get (ci := 11) (v := .ref (gr g h0 3)) (C := RX11) (T := TX11) (N := 12) hx hb hts (fun _ h0_ => List.mem_cons_of_mem _ (List.mem_append_right _ (List.mem_append_left _ h0_))) hown hK hI i_h0.1 k_1 rfl 3 (by decide) (hts (.fieldLink RX11 37 "DeadlineShare" "now" "LDeadlineShare$State;") (List.mem_cons_of_mem _ (List.mem_append_left _ (List.mem_of_getElem? (i := 0) rfl)))) (fun _ h9 => h9) rfl dX11_rank_12 ?_
    refine k_get (ci := 6) (v := .ref (gr g (gr g h0 3) 1)) (C := RX6) (T := TX6) (N := 10) hx hb hts (fun _ h0_ => List.mem_cons_of_mem _ (List.mem_append_right _ (List.mem_append_right _ (List.mem_append_right _ (List.mem_append_left _ h0_))))) hown hK hI i_4.1 k_5 rfl 1 (by decide) (hts (.fieldLink RX11 133 "DeadlineShare$State" "tasks" "[LDeadlineShare$Task;") (List.mem_cons_of_mem _ (List.mem_append_left _ (List.mem_of_getElem? (i := 5) rfl)))) (fun _ h9 => h9) rfl dX11_rank_15 ?_
    have i_19 := kw_6_1 hG i_4
    refine lv_iload_n hx hb dX11_rank_18 rfl (lv_at hl 1 rfl) ?_
    obtain ⟨q_21, k_20, b_22⟩ := op_20 hI i_19
    refine k_aald hx hb hK hI i_19.1 4 k_20 rfl (vp_in_iff.mpr (by omega)) b_22 (fun _ hj => kw_20 hG i_19 hj) dX11_rank_19 (fun a_23 i_24 => ?_)
    obtain ⟨x_26, x_27, x_28, x_29, x_30, x_31, x_32, x_33, x_34, x_35, x_36, x_37, x_38, x_39, x_40, x_41, k_25⟩ := op_8 hI i_24
    refine va_calli (va_runV (As := []) (rest := []) ⟨hx, hb, hml, hown, hts⟩ (c_X8_isOn l dC dI g A hG f a_23 i_24) (cwV 0 hts (gi_V (fun w_ h0_ => ⟨List.mem_cons_of_mem _ (List.mem_append_right _ (List.mem_append_right _ (List.mem_append_right _ (List.mem_append_right _ (List.mem_append_left _ h0_))))), (tb_c_X8_isOn w_ h0_).2⟩) (List.mem_cons_of_mem _ (List.mem_append_left _ (List.mem_of_getElem? (i := 6) rfl))) (List.mem_cons_of_mem _ (List.mem_append_left _ (List.mem_of_getElem? (i := 7) rfl))) (List.mem_cons_of_mem _ (List.mem_append_left _ (List.mem_of_getElem? (i := 8) rfl))) (List.mem_cons_of_mem _ (List.mem_append_left _ (List.mem_of_getElem? (i := 9) rfl)))) rfl rfl rfl (by decide +kernel) ⟨Nat.le_of_ble_eq_true rfl, Nat.le_of_ble_eq_true rfl⟩) ⟨fun a U g mk q => ⟨q.1, q.2.calling rfl rfl⟩, k_recv hK hI i_24.1 k_25 (ci := 8) rfl, fun U hU hW => ⟨rfl, kIn.of hI hK hE hS hU hW⟩⟩ rfl rfl hl.1 rfl (lv_room (Nat.le_of_ble_eq_true rfl)) dX11_rank_20 ⟨Nat.le_of_ble_eq_true rfl, Nat.le_of_ble_eq_true rfl⟩) hS (fun q _ h => h) (fun q h => h) (fun r_43 u t H1 locs ht hvm w_42 hB hz1 hk1 hS => ?_)
    have hI : Iv dC dI g A f t.heap := hB
    rw [ht] at hI
    generalize H1 = H at hI hS ⊢
    refine W.widen (k := 0) (n := 0) (Nat.le_of_ble_eq_true rfl) (Nat.le_of_ble_eq_true rfl) ?_
    refine lv_if_eq (tgt := 45) hx hb dX11_rank_23 (by decide) (fun c_44 => ?_) (fun c_44 => ?_)
    · have c_44 := kc_eq rfl (by decide : Int32.toInt 0 = 0) c_44
      refine lv_iconst (v := (-1)) hx hb dX11_rank_45 (by decide) ?_
      exact W.iret (v := (-1)) hx hb hr (fun t ht hW => ⟨⟨(-1), (), rfl, trivial, k_ret ht hI⟩, hS.F ht⟩) hS.2.2 dX11_rank_46
    · have c_44 := kn_eq rfl (by decide : Int32.toInt 0 = 0) c_44
      refine lv_aload_n hx hb dX11_rank_26 rfl (lv_at hl 0 rfl) ?_
      refine k_get (ci := 11) (v := .ref (gr g h0 3)) (C := RX11) (T := TX11) (N := 12) hx hb hts (fun _ h0_ => List.mem_cons_of_mem _ (List.mem_append_right _ (List.mem_append_left _ h0_))) hown hK hI i_h0.1 k_1 rfl 3 (by decide) (hts (.fieldLink RX11 37 "DeadlineShare" "now" "LDeadlineShare$State;") (List.mem_cons_of_mem _ (List.mem_append_left _ (List.mem_of_getElem? (i := 0) rfl)))) (fun _ h9 => h9) rfl dX11_rank_27 ?_
      refine lv_aload_n hx hb dX11_rank_30 rfl (lv_at hl 0 rfl) ?_
      refine k_get (ci := 11) (v := .ref (gr g h0 3)) (C := RX11) (T := TX11) (N := 12) hx hb hts (fun _ h0_ => List.mem_cons_of_mem _ (List.mem_append_right _ (List.mem_append_left _ h0_))) hown hK hI i_h0.1 k_1 rfl 3 (by decide) (hts (.fieldLink RX11 37 "DeadlineShare" "now" "LDeadlineShare$State;") (List.mem_cons_of_mem _ (List.mem_append_left _ (List.mem_of_getElem? (i := 0) rfl)))) (fun _ h9 => h9) rfl dX11_rank_31 ?_
      refine k_get (ci := 6) (v := .ref (gr g (gr g h0 3) 1)) (C := RX6) (T := TX6) (N := 10) hx hb hts (fun _ h0_ => List.mem_cons_of_mem _ (List.mem_append_right _ (List.mem_append_right _ (List.mem_append_right _ (List.mem_append_left _ h0_))))) hown hK hI i_4.1 k_5 rfl 1 (by decide) (hts (.fieldLink RX11 133 "DeadlineShare$State" "tasks" "[LDeadlineShare$Task;") (List.mem_cons_of_mem _ (List.mem_append_left _ (List.mem_of_getElem? (i := 5) rfl)))) (fun _ h9 => h9) rfl dX11_rank_34 ?_
      refine lv_iload_n hx hb dX11_rank_37 rfl (lv_at hl 1 rfl) ?_
      refine k_aald hx hb hK hI i_19.1 4 k_20 rfl (vp_in_iff.mpr (by omega)) b_22 (fun _ hj => kw_20 hG i_19 hj) dX11_rank_38 (fun a_51 i_52 => ?_)
      refine va_calli (va_runV (As := [.ref a_51]) (rest := []) ⟨hx, hb, hml, hown, hts⟩ (c_X6_howManyBefore l dC dI g A hG f (gr g h0 3) a_51 i_4 i_52) (cwV 1 hts (gi_V (fun w_ h0_ => ⟨List.mem_cons_of_mem _ (List.mem_append_right _ (List.mem_append_right _ (List.mem_append_right _ (List.mem_append_right _ (List.mem_append_right _ (List.mem_append_left _ h0_)))))), (tb_c_X6_howManyBefore w_ h0_).2⟩) (List.mem_cons_of_mem _ (List.mem_append_left _ (List.mem_of_getElem? (i := 10) rfl))) (List.mem_cons_of_mem _ (List.mem_append_left _ (List.mem_of_getElem? (i := 11) rfl))) (List.mem_cons_of_mem _ (List.mem_append_left _ (List.mem_of_getElem? (i := 12) rfl))) (List.mem_cons_of_mem _ (List.mem_append_left _ (List.mem_of_getElem? (i := 4) rfl)))) rfl rfl rfl (by decide +kernel) ⟨Nat.le_of_ble_eq_true rfl, Nat.le_of_ble_eq_true rfl⟩) ⟨fun a U g mk q => ⟨q.1, q.2.calling rfl rfl⟩, k_recv hK hI i_4.1 k_5 (ci := 6) rfl, fun U hU hW => ⟨rfl, kIn.of hI hK hE hS hU hW⟩⟩ rfl rfl hl.1 rfl (lv_room (Nat.le_of_ble_eq_true rfl)) dX11_rank_39 ⟨Nat.le_of_ble_eq_true rfl, Nat.le_of_ble_eq_true rfl⟩) hS (fun q _ h => h) (fun q h => h) (fun r_54 u t H1 locs ht hvm w_53 hB hz1 hk1 hS => ?_)
      have hI : Iv dC dI g A f t.heap := hB
      rw [ht] at hI
      generalize H1 = H at hI hS ⊢
      refine W.widen (k := 0) (n := 0) (Nat.le_of_ble_eq_true rfl) (Nat.le_of_ble_eq_true rfl) ?_
      refine lv_goto (tgt := 46) hx hb dX11_rank_42 (by decide) ?_
      exact W.iret (v := r_54) hx hb hr (fun t ht hW => ⟨⟨r_54, (), rfl, trivial, k_ret ht hI⟩, hS.F ht⟩) hS.2.2 dX11_rank_46
theorem tw_566 : q_g (.methodLink RX11 291 yX2_runner) := ⟨(List.mem_append_right _ (List.mem_of_getElem? (i := 974) (by decide +kernel))), good_of_word (by decide +kernel)⟩
theorem tw_567 : q_g (.fieldLink RX11 287 "DeadlineShare$State" "log" "LDeadlineShare$Log;") := ⟨(List.mem_append_right _ (List.mem_of_getElem? (i := 233) (by decide +kernel))), good_of_word (by decide +kernel)⟩
theorem tw_568 : q_g (.selects RX6 yX6_logHolds yX6_logHolds) := ⟨(List.mem_append_right _ (List.mem_of_getElem? (i := 968) (by decide +kernel))), good_of_word (by decide +kernel)⟩
theorem tw_569 : q_g (.instanceMethod yX6_logHolds) := ⟨(List.mem_append_right _ (List.mem_of_getElem? (i := 967) (by decide +kernel))), good_of_word (by decide +kernel)⟩
theorem tw_570 : q_g (.methodLink RX11 284 yX6_logHolds) := ⟨(List.mem_append_right _ (List.mem_of_getElem? (i := 966) (by decide +kernel))), good_of_word (by decide +kernel)⟩
theorem tw_571 : q_g (.code yX11_ran cX11_ran 2 (some .int)) := ⟨(List.mem_append_right _ (List.mem_of_getElem? (i := 965) (by decide +kernel))), good_of_word (by decide +kernel)⟩
def ow_c_X11_ran : List Cond := [.fieldLink RX11 37 "DeadlineShare" "now" "LDeadlineShare$State;", .methodLink RX11 284 yX6_logHolds, .instanceMethod yX6_logHolds, .selects RX6 yX6_logHolds yX6_logHolds, .initialized RX6, .fieldLink RX11 287 "DeadlineShare$State" "log" "LDeadlineShare$Log;", .methodLink RX11 291 yX2_runner, .instanceMethod yX2_runner, .selects RX2 yX2_runner yX2_runner, .initialized RX2]
def wq_c_X11_ran : List Cond := .code yX11_ran cX11_ran 2 (some .int) :: (ow_c_X11_ran ++ (u_ws RX11 TX11 12 ++ (wq_c_X6_logHolds ++ (u_ws RX6 TX6 10 ++ (wq_c_X2_runner ++ ([] : List Cond))))))
theorem tb_c_X11_ran : ∀ w ∈ wq_c_X11_ran, q_g w := by
  unfold wq_c_X11_ran ow_c_X11_ran
  exact q_cons tw_571 (q_app (q_cons tw_479 (q_cons tw_570 (q_cons tw_569 (q_cons tw_568 (q_cons tw_47 (q_cons tw_567 (q_cons tw_566 (q_cons tw_175 (q_cons tw_174 (q_cons tw_147 q_nil)))))))))) (q_app tu_X11 (q_app tb_c_X6_logHolds (q_app tu_X6 (q_app tb_c_X2_runner q_nil)))))
set_option maxHeartbeats 4000000 in
set_option maxRecDepth 100000 in
theorem c_X11_ran (l : Launch) (dC : Nat → ClassId) (dI : Nat → Nat → Nat) (g : kG) (A : Nat → Prop) (hG : kWf g) (f : Nat → va_E) (h0 : Nat) (p1 : Int32) (i_h0 : ik g 11 h0) : Met l yX11_ran wq_c_X11_ran ({ frames := 3, cells := 0, slots := 0, locals := 56 } : Room) (va_Pc [.ref h0, .int p1] (fun U => kIn dC dI g A f U)) (va_Qi (fun (r : Int32) (_ : Unit) => True) (fun (_ : Unit) t => Iv dC dI g A f t.heap) A) 0 0 A := by
  refine Met.ofW (cc := cX11_ran) (maxL := 2) (ret := (some .int)) (by decide) rfl ?_
  intro p e s m args below meth c s₁ B hml hv
  obtain ⟨rfl, hI, hK, hE⟩ := hv
  have hx := B.exec
  have hb := B.bytes
  have hr := B.returns
  have hts := atoms_spec (ws := wq_c_X11_ran) B.pre
  have hown : s.vm.findClass RX11 = some m.cls := findClass_of_methodNamed B.named
  have hlocks := B.notSynchronized
  have hS : va_S A s.heap s.heap [] := va_S.rf
  have hl := lv_entry ([.ref h0, .int p1]) (n := 2) (Nat.le_of_ble_eq_true rfl)
  rw [lg_entry_eq]
  generalize (lg_sl ([.ref h0, .int p1]) ++ List.replicate (2 - (lg_sl ([.ref h0, .int p1])).length) Slot.unset).toArray = ls at hl ⊢
  have hl : lv_has ls 2 [(0, .ref h0), (1, .int p1)] := hl
  refine lv_aload_n hx hb dX11_ran_0 rfl (lv_at hl 0 rfl) ?_
  obtain ⟨x_2, k_1⟩ := op_11 hI i_h0
  refine k_get (ci := 11) (v := .ref (gr g h0 3)) (C := RX11) (T := TX11) (N := 12) hx hb hts (fun _ h0_ => List.mem_cons_of_mem _ (List.mem_append_right _ (List.mem_append_left _ h0_))) hown hK hI i_h0.1 k_1 rfl 3 (by decide) (hts (.fieldLink RX11 37 "DeadlineShare" "now" "LDeadlineShare$State;") (List.mem_cons_of_mem _ (List.mem_append_left _ (List.mem_of_getElem? (i := 0) rfl)))) (fun _ h9 => h9) rfl dX11_ran_1 ?_
  have i_4 := kw_11_3 hG i_h0
  refine lv_iload_n hx hb dX11_ran_4 rfl (lv_at hl 1 rfl) ?_
  obtain ⟨x_6, x_7, x_8, x_9, x_10, k_5, b_11, b_12⟩ := op_6 hI i_4
  refine va_calli (va_runV (As := [.int p1]) (rest := []) ⟨hx, hb, hml, hown, hts⟩ (c_X6_logHolds l dC dI g A hG f (gr g h0 3) p1 i_4) (cwV 1 hts (gi_V (fun w_ h0_ => ⟨List.mem_cons_of_mem _ (List.mem_append_right _ (List.mem_append_right _ (List.mem_append_left _ h0_))), (tb_c_X6_logHolds w_ h0_).2⟩) (List.mem_cons_of_mem _ (List.mem_append_left _ (List.mem_of_getElem? (i := 1) rfl))) (List.mem_cons_of_mem _ (List.mem_append_left _ (List.mem_of_getElem? (i := 2) rfl))) (List.mem_cons_of_mem _ (List.mem_append_left _ (List.mem_of_getElem? (i := 3) rfl))) (List.mem_cons_of_mem _ (List.mem_append_left _ (List.mem_of_getElem? (i := 4) rfl)))) rfl rfl rfl (by decide +kernel) ⟨Nat.le_of_ble_eq_true rfl, Nat.le_of_ble_eq_true rfl⟩) ⟨fun a U g mk q => ⟨q.1, q.2.calling rfl rfl⟩, k_recv hK hI i_4.1 k_5 (ci := 6) rfl, fun U hU hW => ⟨rfl, kIn.of hI hK hE hS hU hW⟩⟩ rfl rfl hl.1 rfl (lv_room (Nat.le_of_ble_eq_true rfl)) dX11_ran_5 ⟨Nat.le_of_ble_eq_true rfl, Nat.le_of_ble_eq_true rfl⟩) hS (fun q _ h => h) (fun q h => h) (fun r_14 u t H1 locs ht hvm w_13 hB hz1 hk1 hS => ?_)
  have hI : Iv dC dI g A f t.heap := hB
  rw [ht] at hI
  generalize H1 = H at hI hS ⊢
  refine W.widen (k := 0) (n := 0) (Nat.le_of_ble_eq_true rfl) (Nat.le_of_ble_eq_true rfl) ?_
  refine lv_if_eq (tgt := 25) hx hb dX11_ran_8 (by decide) (fun c_15 => ?_) (fun c_15 => ?_)
  · have c_15 := kc_eq rfl (by decide : Int32.toInt 0 = 0) c_15
    refine lv_iconst (v := (-1)) hx hb dX11_ran_25 (by decide) ?_
    exact W.iret (v := (-1)) hx hb hr (fun t ht hW => ⟨⟨(-1), (), rfl, trivial, k_ret ht hI⟩, hS.F ht⟩) hS.2.2 dX11_ran_26
  · have c_15 := kn_eq rfl (by decide : Int32.toInt 0 = 0) c_15
    refine lv_aload_n hx hb dX11_ran_11 rfl (lv_at hl 0 rfl) ?_
    refine k_get (ci := 11) (v := .ref (gr g h0 3)) (C := RX11) (T := TX11) (N := 12) hx hb hts (fun _ h0_ => List.mem_cons_of_mem _ (List.mem_append_right _ (List.mem_append_left _ h0_))) hown hK hI i_h0.1 k_1 rfl 3 (by decide) (hts (.fieldLink RX11 37 "DeadlineShare" "now" "LDeadlineShare$State;") (List.mem_cons_of_mem _ (List.mem_append_left _ (List.mem_of_getElem? (i := 0) rfl)))) (fun _ h9 => h9) rfl dX11_ran_12 ?_
    refine k_get (ci := 6) (v := .ref (gr g (gr g h0 3) 2)) (C := RX6) (T := TX6) (N := 10) hx hb hts (fun _ h0_ => List.mem_cons_of_mem _ (List.mem_append_right _ (List.mem_append_right _ (List.mem_append_right _ (List.mem_append_left _ h0_))))) hown hK hI i_4.1 k_5 rfl 2 (by decide) (hts (.fieldLink RX11 287 "DeadlineShare$State" "log" "LDeadlineShare$Log;") (List.mem_cons_of_mem _ (List.mem_append_left _ (List.mem_of_getElem? (i := 5) rfl)))) (fun _ h9 => h9) rfl dX11_ran_15 ?_
    have i_19 := kw_6_2 hG i_4
    refine lv_iload_n hx hb dX11_ran_18 rfl (lv_at hl 1 rfl) ?_
    have k_20 := op_2 hI i_19
    refine va_calli (va_runV (As := [.int p1]) (rest := []) ⟨hx, hb, hml, hown, hts⟩ (c_X2_runner l dC dI g A hG f (gr g (gr g h0 3) 2) p1 i_19) (cwV 1 hts (gi_V (fun w_ h0_ => ⟨List.mem_cons_of_mem _ (List.mem_append_right _ (List.mem_append_right _ (List.mem_append_right _ (List.mem_append_right _ (List.mem_append_left _ h0_))))), (tb_c_X2_runner w_ h0_).2⟩) (List.mem_cons_of_mem _ (List.mem_append_left _ (List.mem_of_getElem? (i := 6) rfl))) (List.mem_cons_of_mem _ (List.mem_append_left _ (List.mem_of_getElem? (i := 7) rfl))) (List.mem_cons_of_mem _ (List.mem_append_left _ (List.mem_of_getElem? (i := 8) rfl))) (List.mem_cons_of_mem _ (List.mem_append_left _ (List.mem_of_getElem? (i := 9) rfl)))) rfl rfl rfl (by decide +kernel) ⟨Nat.le_of_ble_eq_true rfl, Nat.le_of_ble_eq_true rfl⟩) ⟨fun a U g mk q => ⟨q.1, q.2.calling rfl rfl⟩, k_recv hK hI i_19.1 k_20 (ci := 2) rfl, fun U hU hW => ⟨rfl, kIn.of hI hK hE hS hU hW⟩⟩ rfl rfl hl.1 rfl (lv_room (Nat.le_of_ble_eq_true rfl)) dX11_ran_19 ⟨Nat.le_of_ble_eq_true rfl, Nat.le_of_ble_eq_true rfl⟩) hS (fun q _ h => h) (fun q h => h) (fun r_22 u t H1 locs ht hvm w_21 hB hz1 hk1 hS => ?_)
    have hI : Iv dC dI g A f t.heap := hB
    rw [ht] at hI
    generalize H1 = H at hI hS ⊢
    refine W.widen (k := 0) (n := 0) (Nat.le_of_ble_eq_true rfl) (Nat.le_of_ble_eq_true rfl) ?_
    refine lv_goto (tgt := 26) hx hb dX11_ran_22 (by decide) ?_
    exact W.iret (v := r_22) hx hb hr (fun t ht hW => ⟨⟨r_22, (), rfl, trivial, k_ret ht hI⟩, hS.F ht⟩) hS.2.2 dX11_ran_26
theorem tw_572 : q_g (.selects RX2 yX2_serviceIn yX2_serviceIn) := ⟨(List.mem_append_right _ (List.mem_of_getElem? (i := 988) (by decide +kernel))), good_of_word (by decide +kernel)⟩
theorem tw_573 : q_g (.instanceMethod yX2_serviceIn) := ⟨(List.mem_append_right _ (List.mem_of_getElem? (i := 987) (by decide +kernel))), good_of_word (by decide +kernel)⟩
theorem tw_574 : q_g (.methodLink RX11 299 yX2_serviceIn) := ⟨(List.mem_append_right _ (List.mem_of_getElem? (i := 986) (by decide +kernel))), good_of_word (by decide +kernel)⟩
theorem tw_575 : q_g (.selects RX6 yX6_isWindow yX6_isWindow) := ⟨(List.mem_append_right _ (List.mem_of_getElem? (i := 984) (by decide +kernel))), good_of_word (by decide +kernel)⟩
theorem tw_576 : q_g (.instanceMethod yX6_isWindow) := ⟨(List.mem_append_right _ (List.mem_of_getElem? (i := 983) (by decide +kernel))), good_of_word (by decide +kernel)⟩
theorem tw_577 : q_g (.methodLink RX11 296 yX6_isWindow) := ⟨(List.mem_append_right _ (List.mem_of_getElem? (i := 982) (by decide +kernel))), good_of_word (by decide +kernel)⟩
theorem tw_578 : q_g (.code yX11_service cX11_service 4 (some .int)) := ⟨(List.mem_append_right _ (List.mem_of_getElem? (i := 981) (by decide +kernel))), good_of_word (by decide +kernel)⟩
def ow_c_X11_service : List Cond := [.fieldLink RX11 37 "DeadlineShare" "now" "LDeadlineShare$State;", .methodLink RX11 130 yX6_has, .instanceMethod yX6_has, .selects RX6 yX6_has yX6_has, .initialized RX6, .methodLink RX11 296 yX6_isWindow, .instanceMethod yX6_isWindow, .selects RX6 yX6_isWindow yX6_isWindow, .fieldLink RX11 287 "DeadlineShare$State" "log" "LDeadlineShare$Log;", .methodLink RX11 299 yX2_serviceIn, .instanceMethod yX2_serviceIn, .selects RX2 yX2_serviceIn yX2_serviceIn, .initialized RX2]
def wq_c_X11_service : List Cond := .code yX11_service cX11_service 4 (some .int) :: (ow_c_X11_service ++ (u_ws RX11 TX11 12 ++ (wq_c_X6_has ++ (wq_c_X6_isWindow ++ (u_ws RX6 TX6 10 ++ (wq_c_X2_serviceIn ++ ([] : List Cond)))))))
theorem tb_c_X11_service : ∀ w ∈ wq_c_X11_service, q_g w := by
  unfold wq_c_X11_service ow_c_X11_service
  exact q_cons tw_578 (q_app (q_cons tw_479 (q_cons tw_492 (q_cons tw_74 (q_cons tw_73 (q_cons tw_47 (q_cons tw_577 (q_cons tw_576 (q_cons tw_575 (q_cons tw_567 (q_cons tw_574 (q_cons tw_573 (q_cons tw_572 (q_cons tw_147 q_nil))))))))))))) (q_app tu_X11 (q_app tb_c_X6_has (q_app tb_c_X6_isWindow (q_app tu_X6 (q_app tb_c_X2_serviceIn q_nil))))))
set_option maxHeartbeats 4000000 in
set_option maxRecDepth 100000 in
theorem c_X11_service (l : Launch) (dC : Nat → ClassId) (dI : Nat → Nat → Nat) (g : kG) (A : Nat → Prop) (hG : kWf g) (f : Nat → va_E) (h0 : Nat) (p1 : Int32) (p2 : Int32) (p3 : Int32) (i_h0 : ik g 11 h0) : Met l yX11_service wq_c_X11_service ({ frames := 3, cells := 0, slots := 0, locals := 57 } : Room) (va_Pc [.ref h0, .int p1, .int p2, .int p3] (fun U => kIn dC dI g A f U)) (va_Qi (fun (r : Int32) (_ : Unit) => True) (fun (_ : Unit) t => Iv dC dI g A f t.heap) A) 0 0 A := by
  refine Met.ofW (cc := cX11_service) (maxL := 4) (ret := (some .int)) (by decide) rfl ?_
  intro p e s m args below meth c s₁ B hml hv
  obtain ⟨rfl, hI, hK, hE⟩ := hv
  have hx := B.exec
  have hb := B.bytes
  have hr := B.returns
  have hts := atoms_spec (ws := wq_c_X11_service) B.pre
  have hown : s.vm.findClass RX11 = some m.cls := findClass_of_methodNamed B.named
  have hlocks := B.notSynchronized
  have hS : va_S A s.heap s.heap [] := va_S.rf
  have hl := lv_entry ([.ref h0, .int p1, .int p2, .int p3]) (n := 4) (Nat.le_of_ble_eq_true rfl)
  rw [lg_entry_eq]
  generalize (lg_sl ([.ref h0, .int p1, .int p2, .int p3]) ++ List.replicate (4 - (lg_sl ([.ref h0, .int p1, .int p2, .int p3])).length) Slot.unset).toArray = ls at hl ⊢
  have hl : lv_has ls 4 [(0, .ref h0), (1, .int p1), (2, .int p2), (3, .int p3)] := hl
  refine lv_aload_n hx hb dX11_service_0 rfl (lv_at hl 0 rfl) ?_
  obtain ⟨x_2, k_1⟩ := op_11 hI i_h0
  refine k_get (ci := 11) (v := .ref (gr g h0 3)) (C := RX11) (T := TX11) (N := 12) hx hb hts (fun _ h0_ => List.mem_cons_of_mem _ (List.mem_append_right _ (List.mem_append_left _ h0_))) hown hK hI i_h0.1 k_1 rfl 3 (by decide) (hts (.fieldLink RX11 37 "DeadlineShare" "now" "LDeadlineShare$State;") (List.mem_cons_of_mem _ (List.mem_append_left _ (List.mem_of_getElem? (i := 0) rfl)))) (fun _ h9 => h9) rfl dX11_service_1 ?_
  have i_4 := kw_11_3 hG i_h0
  refine lv_iload_n hx hb dX11_service_4 rfl (lv_at hl 1 rfl) ?_
  obtain ⟨x_6, x_7, x_8, x_9, x_10, k_5, b_11, b_12⟩ := op_6 hI i_4
  refine va_calli (va_runV (As := [.int p1]) (rest := []) ⟨hx, hb, hml, hown, hts⟩ (c_X6_has l dC dI g A hG f (gr g h0 3) p1 i_4) (cwV 1 hts (gi_V (fun w_ h0_ => ⟨List.mem_cons_of_mem _ (List.mem_append_right _ (List.mem_append_right _ (List.mem_append_left _ h0_))), (tb_c_X6_has w_ h0_).2⟩) (List.mem_cons_of_mem _ (List.mem_append_left _ (List.mem_of_getElem? (i := 1) rfl))) (List.mem_cons_of_mem _ (List.mem_append_left _ (List.mem_of_getElem? (i := 2) rfl))) (List.mem_cons_of_mem _ (List.mem_append_left _ (List.mem_of_getElem? (i := 3) rfl))) (List.mem_cons_of_mem _ (List.mem_append_left _ (List.mem_of_getElem? (i := 4) rfl)))) rfl rfl rfl (by decide +kernel) ⟨Nat.le_of_ble_eq_true rfl, Nat.le_of_ble_eq_true rfl⟩) ⟨fun a U g mk q => ⟨q.1, q.2.calling rfl rfl⟩, k_recv hK hI i_4.1 k_5 (ci := 6) rfl, fun U hU hW => ⟨rfl, kIn.of hI hK hE hS hU hW⟩⟩ rfl rfl hl.1 rfl (lv_room (Nat.le_of_ble_eq_true rfl)) dX11_service_5 ⟨Nat.le_of_ble_eq_true rfl, Nat.le_of_ble_eq_true rfl⟩) hS (fun q _ h => h) (fun q h => h) (fun r_14 u t H1 locs ht hvm w_13 hB hz1 hk1 hS => ?_)
  have hI : Iv dC dI g A f t.heap := hB
  rw [ht] at hI
  generalize H1 = H at hI hS ⊢
  refine W.widen (k := 0) (n := 0) (Nat.le_of_ble_eq_true rfl) (Nat.le_of_ble_eq_true rfl) ?_
  have w_13 : r_14.toInt = 0 ∨ (0 ≤ p1.toInt ∧ p1.toInt < 12) := w_13
  refine lv_if_eq (tgt := 23) hx hb dX11_service_8 (by decide) (fun c_15 => ?_) (fun c_15 => ?_)
  · have c_15 := kc_eq rfl (by decide : Int32.toInt 0 = 0) c_15
    refine lv_iconst (v := (-1)) hx hb dX11_service_23 (by decide) ?_
    exact W.iret (v := (-1)) hx hb hr (fun t ht hW => ⟨⟨(-1), (), rfl, trivial, k_ret ht hI⟩, hS.F ht⟩) hS.2.2 dX11_service_24
  · have c_15 := kn_eq rfl (by decide : Int32.toInt 0 = 0) c_15
    refine lv_aload_n hx hb dX11_service_11 rfl (lv_at hl 0 rfl) ?_
    refine k_get (ci := 11) (v := .ref (gr g h0 3)) (C := RX11) (T := TX11) (N := 12) hx hb hts (fun _ h0_ => List.mem_cons_of_mem _ (List.mem_append_right _ (List.mem_append_left _ h0_))) hown hK hI i_h0.1 k_1 rfl 3 (by decide) (hts (.fieldLink RX11 37 "DeadlineShare" "now" "LDeadlineShare$State;") (List.mem_cons_of_mem _ (List.mem_append_left _ (List.mem_of_getElem? (i := 0) rfl)))) (fun _ h9 => h9) rfl dX11_service_12 ?_
    refine lv_iload_n hx hb dX11_service_15 rfl (lv_at hl 2 rfl) ?_
    refine lv_iload_n hx hb dX11_service_16 rfl (lv_at hl 3 rfl) ?_
    refine va_calli (va_runV (As := [.int p2, .int p3]) (rest := []) ⟨hx, hb, hml, hown, hts⟩ (c_X6_isWindow l dC dI g A hG f (gr g h0 3) p2 p3 i_4) (cwV 2 hts (gi_V (fun w_ h0_ => ⟨List.mem_cons_of_mem _ (List.mem_append_right _ (List.mem_append_right _ (List.mem_append_right _ (List.mem_append_left _ h0_)))), (tb_c_X6_isWindow w_ h0_).2⟩) (List.mem_cons_of_mem _ (List.mem_append_left _ (List.mem_of_getElem? (i := 5) rfl))) (List.mem_cons_of_mem _ (List.mem_append_left _ (List.mem_of_getElem? (i := 6) rfl))) (List.mem_cons_of_mem _ (List.mem_append_left _ (List.mem_of_getElem? (i := 7) rfl))) (List.mem_cons_of_mem _ (List.mem_append_left _ (List.mem_of_getElem? (i := 4) rfl)))) rfl rfl rfl (by decide +kernel) ⟨Nat.le_of_ble_eq_true rfl, Nat.le_of_ble_eq_true rfl⟩) ⟨fun a U g mk q => ⟨q.1, q.2.calling rfl rfl⟩, k_recv hK hI i_4.1 k_5 (ci := 6) rfl, fun U hU hW => ⟨rfl, kIn.of hI hK hE hS hU hW⟩⟩ rfl rfl hl.1 rfl (lv_room (Nat.le_of_ble_eq_true rfl)) dX11_service_17 ⟨Nat.le_of_ble_eq_true rfl, Nat.le_of_ble_eq_true rfl⟩) hS (fun q _ h => h) (fun q h => h) (fun r_19 u t H1 locs ht hvm w_18 hB hz1 hk1 hS => ?_)
    have hI : Iv dC dI g A f t.heap := hB
    rw [ht] at hI
    generalize H1 = H at hI hS ⊢
    refine W.widen (k := 0) (n := 0) (Nat.le_of_ble_eq_true rfl) (Nat.le_of_ble_eq_true rfl) ?_
    refine lv_if_ne (tgt := 25) hx hb dX11_service_20 (by decide) (fun c_20 => ?_) (fun c_20 => ?_)
    · have c_20 := kn_eq rfl (by decide : Int32.toInt 0 = 0) c_20
      refine lv_iload_n hx hb dX11_service_25 rfl (lv_at hl 2 rfl) ?_
      refine lv_iload_n hx hb dX11_service_26 rfl (lv_at hl 3 rfl) ?_
      refine lv_icmp_ne (tgt := 34) hx hb dX11_service_27 (by decide) (fun c_21 => ?_) (fun c_21 => ?_)
      · have c_21 := kn_eq rfl rfl c_21
        refine lv_aload_n hx hb dX11_service_34 rfl (lv_at hl 0 rfl) ?_
        refine k_get (ci := 11) (v := .ref (gr g h0 3)) (C := RX11) (T := TX11) (N := 12) hx hb hts (fun _ h0_ => List.mem_cons_of_mem _ (List.mem_append_right _ (List.mem_append_left _ h0_))) hown hK hI i_h0.1 k_1 rfl 3 (by decide) (hts (.fieldLink RX11 37 "DeadlineShare" "now" "LDeadlineShare$State;") (List.mem_cons_of_mem _ (List.mem_append_left _ (List.mem_of_getElem? (i := 0) rfl)))) (fun _ h9 => h9) rfl dX11_service_35 ?_
        refine k_get (ci := 6) (v := .ref (gr g (gr g h0 3) 2)) (C := RX6) (T := TX6) (N := 10) hx hb hts (fun _ h0_ => List.mem_cons_of_mem _ (List.mem_append_right _ (List.mem_append_right _ (List.mem_append_right _ (List.mem_append_right _ (List.mem_append_left _ h0_)))))) hown hK hI i_4.1 k_5 rfl 2 (by decide) (hts (.fieldLink RX11 287 "DeadlineShare$State" "log" "LDeadlineShare$Log;") (List.mem_cons_of_mem _ (List.mem_append_left _ (List.mem_of_getElem? (i := 8) rfl)))) (fun _ h9 => h9) rfl dX11_service_38 ?_
        have i_25 := kw_6_2 hG i_4
        refine lv_iload_n hx hb dX11_service_41 rfl (lv_at hl 1 rfl) ?_
        refine lv_iload_n hx hb dX11_service_42 rfl (lv_at hl 2 rfl) ?_
        refine lv_iload_n hx hb dX11_service_43 rfl (lv_at hl 3 rfl) ?_
        have k_26 := op_2 hI i_25
        refine va_calli (va_runV (As := [.int p1, .int p2, .int p3]) (rest := []) ⟨hx, hb, hml, hown, hts⟩ (c_X2_serviceIn l dC dI g A hG f (gr g (gr g h0 3) 2) p1 p2 p3 i_25) (cwV 3 hts (gi_V (fun w_ h0_ => ⟨List.mem_cons_of_mem _ (List.mem_append_right _ (List.mem_append_right _ (List.mem_append_right _ (List.mem_append_right _ (List.mem_append_right _ (List.mem_append_left _ h0_)))))), (tb_c_X2_serviceIn w_ h0_).2⟩) (List.mem_cons_of_mem _ (List.mem_append_left _ (List.mem_of_getElem? (i := 9) rfl))) (List.mem_cons_of_mem _ (List.mem_append_left _ (List.mem_of_getElem? (i := 10) rfl))) (List.mem_cons_of_mem _ (List.mem_append_left _ (List.mem_of_getElem? (i := 11) rfl))) (List.mem_cons_of_mem _ (List.mem_append_left _ (List.mem_of_getElem? (i := 12) rfl)))) rfl rfl rfl (by decide +kernel) ⟨Nat.le_of_ble_eq_true rfl, Nat.le_of_ble_eq_true rfl⟩) ⟨fun a U g mk q => ⟨q.1, q.2.calling rfl rfl⟩, k_recv hK hI i_25.1 k_26 (ci := 2) rfl, fun U hU hW => ⟨rfl, kIn.of hI hK hE hS hU hW⟩⟩ rfl rfl hl.1 rfl (lv_room (Nat.le_of_ble_eq_true rfl)) dX11_service_44 ⟨Nat.le_of_ble_eq_true rfl, Nat.le_of_ble_eq_true rfl⟩) hS (fun q _ h => h) (fun q h => h) (fun r_28 u t H1 locs ht hvm w_27 hB hz1 hk1 hS => ?_)
        have hI : Iv dC dI g A f t.heap := hB
        rw [ht] at hI
        generalize H1 = H at hI hS ⊢
        refine W.widen (k := 0) (n := 0) (Nat.le_of_ble_eq_true rfl) (Nat.le_of_ble_eq_true rfl) ?_
        exact W.iret (v := r_28) hx hb hr (fun t ht hW => ⟨⟨r_28, (), rfl, trivial, k_ret ht hI⟩, hS.F ht⟩) hS.2.2 dX11_service_47
      · have c_21 := kc_eq rfl rfl c_21
        refine lv_iconst (v := 0) hx hb dX11_service_30 (by decide) ?_
        refine lv_goto (tgt := 47) hx hb dX11_service_31 (by decide) ?_
        exact W.iret (v := 0) hx hb hr (fun t ht hW => ⟨⟨0, (), rfl, trivial, k_ret ht hI⟩, hS.F ht⟩) hS.2.2 dX11_service_47
    · have c_20 := kc_eq rfl (by decide : Int32.toInt 0 = 0) c_20
      refine lv_iconst (v := (-1)) hx hb dX11_service_23 (by decide) ?_
      exact W.iret (v := (-1)) hx hb hr (fun t ht hW => ⟨⟨(-1), (), rfl, trivial, k_ret ht hI⟩, hS.F ht⟩) hS.2.2 dX11_service_24
theorem tw_579 : q_g (.selects RX2 yX2_shareIn yX2_shareIn) := ⟨(List.mem_append_right _ (List.mem_of_getElem? (i := 997) (by decide +kernel))), good_of_word (by decide +kernel)⟩
theorem tw_580 : q_g (.instanceMethod yX2_shareIn) := ⟨(List.mem_append_right _ (List.mem_of_getElem? (i := 996) (by decide +kernel))), good_of_word (by decide +kernel)⟩
theorem tw_581 : q_g (.methodLink RX11 303 yX2_shareIn) := ⟨(List.mem_append_right _ (List.mem_of_getElem? (i := 995) (by decide +kernel))), good_of_word (by decide +kernel)⟩
theorem tw_582 : q_g (.code yX11_share cX11_share 4 (some .long)) := ⟨(List.mem_append_right _ (List.mem_of_getElem? (i := 994) (by decide +kernel))), good_of_word (by decide +kernel)⟩
def ow_c_X11_share : List Cond := [.fieldLink RX11 37 "DeadlineShare" "now" "LDeadlineShare$State;", .methodLink RX11 130 yX6_has, .instanceMethod yX6_has, .selects RX6 yX6_has yX6_has, .initialized RX6, .constantLong RX11 245 (-9223372036854775808), .methodLink RX11 296 yX6_isWindow, .instanceMethod yX6_isWindow, .selects RX6 yX6_isWindow yX6_isWindow, .fieldLink RX11 287 "DeadlineShare$State" "log" "LDeadlineShare$Log;", .methodLink RX11 303 yX2_shareIn, .instanceMethod yX2_shareIn, .selects RX2 yX2_shareIn yX2_shareIn, .initialized RX2]
def wq_c_X11_share : List Cond := .code yX11_share cX11_share 4 (some .long) :: (ow_c_X11_share ++ (u_ws RX11 TX11 12 ++ (wq_c_X6_has ++ (wq_c_X6_isWindow ++ (u_ws RX6 TX6 10 ++ (wq_c_X2_shareIn ++ ([] : List Cond)))))))
theorem tb_c_X11_share : ∀ w ∈ wq_c_X11_share, q_g w := by
  unfold wq_c_X11_share ow_c_X11_share
  exact q_cons tw_582 (q_app (q_cons tw_479 (q_cons tw_492 (q_cons tw_74 (q_cons tw_73 (q_cons tw_47 (q_cons tw_544 (q_cons tw_577 (q_cons tw_576 (q_cons tw_575 (q_cons tw_567 (q_cons tw_581 (q_cons tw_580 (q_cons tw_579 (q_cons tw_147 q_nil)))))))))))))) (q_app tu_X11 (q_app tb_c_X6_has (q_app tb_c_X6_isWindow (q_app tu_X6 (q_app tb_c_X2_shareIn q_nil))))))
set_option maxHeartbeats 4000000 in
set_option maxRecDepth 100000 in
theorem c_X11_share (l : Launch) (dC : Nat → ClassId) (dI : Nat → Nat → Nat) (g : kG) (A : Nat → Prop) (hG : kWf g) (f : Nat → va_E) (h0 : Nat) (p1 : Int32) (p2 : Int32) (p3 : Int32) (i_h0 : ik g 11 h0) : Met l yX11_share wq_c_X11_share ({ frames := 3, cells := 0, slots := 0, locals := 71 } : Room) (va_Pc [.ref h0, .int p1, .int p2, .int p3] (fun U => kIn dC dI g A f U)) (va_Ql (fun (r : Int64) (_ : Unit) => True) (fun (_ : Unit) t => Iv dC dI g A f t.heap) A) 0 0 A := by
  refine Met.ofW (cc := cX11_share) (maxL := 4) (ret := (some .long)) (by decide) rfl ?_
  intro p e s m args below meth c s₁ B hml hv
  obtain ⟨rfl, hI, hK, hE⟩ := hv
  have hx := B.exec
  have hb := B.bytes
  have hr := B.returns
  have hts := atoms_spec (ws := wq_c_X11_share) B.pre
  have hown : s.vm.findClass RX11 = some m.cls := findClass_of_methodNamed B.named
  have hlocks := B.notSynchronized
  have hS : va_S A s.heap s.heap [] := va_S.rf
  have hl := lv_entry ([.ref h0, .int p1, .int p2, .int p3]) (n := 4) (Nat.le_of_ble_eq_true rfl)
  rw [lg_entry_eq]
  generalize (lg_sl ([.ref h0, .int p1, .int p2, .int p3]) ++ List.replicate (4 - (lg_sl ([.ref h0, .int p1, .int p2, .int p3])).length) Slot.unset).toArray = ls at hl ⊢
  have hl : lv_has ls 4 [(0, .ref h0), (1, .int p1), (2, .int p2), (3, .int p3)] := hl
  refine lv_aload_n hx hb dX11_share_0 rfl (lv_at hl 0 rfl) ?_
  obtain ⟨x_2, k_1⟩ := op_11 hI i_h0
  refine k_get (ci := 11) (v := .ref (gr g h0 3)) (C := RX11) (T := TX11) (N := 12) hx hb hts (fun _ h0_ => List.mem_cons_of_mem _ (List.mem_append_right _ (List.mem_append_left _ h0_))) hown hK hI i_h0.1 k_1 rfl 3 (by decide) (hts (.fieldLink RX11 37 "DeadlineShare" "now" "LDeadlineShare$State;") (List.mem_cons_of_mem _ (List.mem_append_left _ (List.mem_of_getElem? (i := 0) rfl)))) (fun _ h9 => h9) rfl dX11_share_1 ?_
  have i_4 := kw_11_3 hG i_h0
  refine lv_iload_n hx hb dX11_share_4 rfl (lv_at hl 1 rfl) ?_
  obtain ⟨x_6, x_7, x_8, x_9, x_10, k_5, b_11, b_12⟩ := op_6 hI i_4
  refine va_calli (va_runV (As := [.int p1]) (rest := []) ⟨hx, hb, hml, hown, hts⟩ (c_X6_has l dC dI g A hG f (gr g h0 3) p1 i_4) (cwV 1 hts (gi_V (fun w_ h0_ => ⟨List.mem_cons_of_mem _ (List.mem_append_right _ (List.mem_append_right _ (List.mem_append_left _ h0_))), (tb_c_X6_has w_ h0_).2⟩) (List.mem_cons_of_mem _ (List.mem_append_left _ (List.mem_of_getElem? (i := 1) rfl))) (List.mem_cons_of_mem _ (List.mem_append_left _ (List.mem_of_getElem? (i := 2) rfl))) (List.mem_cons_of_mem _ (List.mem_append_left _ (List.mem_of_getElem? (i := 3) rfl))) (List.mem_cons_of_mem _ (List.mem_append_left _ (List.mem_of_getElem? (i := 4) rfl)))) rfl rfl rfl (by decide +kernel) ⟨Nat.le_of_ble_eq_true rfl, Nat.le_of_ble_eq_true rfl⟩) ⟨fun a U g mk q => ⟨q.1, q.2.calling rfl rfl⟩, k_recv hK hI i_4.1 k_5 (ci := 6) rfl, fun U hU hW => ⟨rfl, kIn.of hI hK hE hS hU hW⟩⟩ rfl rfl hl.1 rfl (lv_room (Nat.le_of_ble_eq_true rfl)) dX11_share_5 ⟨Nat.le_of_ble_eq_true rfl, Nat.le_of_ble_eq_true rfl⟩) hS (fun q _ h => h) (fun q h => h) (fun r_14 u t H1 locs ht hvm w_13 hB hz1 hk1 hS => ?_)
  have hI : Iv dC dI g A f t.heap := hB
  rw [ht] at hI
  generalize H1 = H at hI hS ⊢
  refine W.widen (k := 0) (n := 0) (Nat.le_of_ble_eq_true rfl) (Nat.le_of_ble_eq_true rfl) ?_
  have w_13 : r_14.toInt = 0 ∨ (0 ≤ p1.toInt ∧ p1.toInt < 12) := w_13
  refine lv_if_eq (tgt := 23) hx hb dX11_share_8 (by decide) (fun c_15 => ?_) (fun c_15 => ?_)
  · have c_15 := kc_eq rfl (by decide : Int32.toInt 0 = 0) c_15
    refine lv_ldc2 hx hb hown (hts (.constantLong RX11 245 (-9223372036854775808)) (List.mem_cons_of_mem _ (List.mem_append_left _ (List.mem_of_getElem? (i := 5) rfl)))) dX11_share_23 ?_
    exact W.lret (v := (-9223372036854775808)) hx hb hr (fun t ht hW => ⟨⟨(-9223372036854775808), (), rfl, trivial, k_ret ht hI⟩, hS.F ht⟩) hS.2.2 dX11_share_26
  · have c_15 := kn_eq rfl (by decide : Int32.toInt 0 = 0) c_15
    refine lv_aload_n hx hb dX11_share_11 rfl (lv_at hl 0 rfl) ?_
    refine k_get (ci := 11) (v := .ref (gr g h0 3)) (C := RX11) (T := TX11) (N := 12) hx hb hts (fun _ h0_ => List.mem_cons_of_mem _ (List.mem_append_right _ (List.mem_append_left _ h0_))) hown hK hI i_h0.1 k_1 rfl 3 (by decide) (hts (.fieldLink RX11 37 "DeadlineShare" "now" "LDeadlineShare$State;") (List.mem_cons_of_mem _ (List.mem_append_left _ (List.mem_of_getElem? (i := 0) rfl)))) (fun _ h9 => h9) rfl dX11_share_12 ?_
    refine lv_iload_n hx hb dX11_share_15 rfl (lv_at hl 2 rfl) ?_
    refine lv_iload_n hx hb dX11_share_16 rfl (lv_at hl 3 rfl) ?_
    refine va_calli (va_runV (As := [.int p2, .int p3]) (rest := []) ⟨hx, hb, hml, hown, hts⟩ (c_X6_isWindow l dC dI g A hG f (gr g h0 3) p2 p3 i_4) (cwV 2 hts (gi_V (fun w_ h0_ => ⟨List.mem_cons_of_mem _ (List.mem_append_right _ (List.mem_append_right _ (List.mem_append_right _ (List.mem_append_left _ h0_)))), (tb_c_X6_isWindow w_ h0_).2⟩) (List.mem_cons_of_mem _ (List.mem_append_left _ (List.mem_of_getElem? (i := 6) rfl))) (List.mem_cons_of_mem _ (List.mem_append_left _ (List.mem_of_getElem? (i := 7) rfl))) (List.mem_cons_of_mem _ (List.mem_append_left _ (List.mem_of_getElem? (i := 8) rfl))) (List.mem_cons_of_mem _ (List.mem_append_left _ (List.mem_of_getElem? (i := 4) rfl)))) rfl rfl rfl (by decide +kernel) ⟨Nat.le_of_ble_eq_true rfl, Nat.le_of_ble_eq_true rfl⟩) ⟨fun a U g mk q => ⟨q.1, q.2.calling rfl rfl⟩, k_recv hK hI i_4.1 k_5 (ci := 6) rfl, fun U hU hW => ⟨rfl, kIn.of hI hK hE hS hU hW⟩⟩ rfl rfl hl.1 rfl (lv_room (Nat.le_of_ble_eq_true rfl)) dX11_share_17 ⟨Nat.le_of_ble_eq_true rfl, Nat.le_of_ble_eq_true rfl⟩) hS (fun q _ h => h) (fun q h => h) (fun r_19 u t H1 locs ht hvm w_18 hB hz1 hk1 hS => ?_)
    have hI : Iv dC dI g A f t.heap := hB
    rw [ht] at hI
    generalize H1 = H at hI hS ⊢
    refine W.widen (k := 0) (n := 0) (Nat.le_of_ble_eq_true rfl) (Nat.le_of_ble_eq_true rfl) ?_
    refine lv_if_ne (tgt := 27) hx hb dX11_share_20 (by decide) (fun c_20 => ?_) (fun c_20 => ?_)
    · have c_20 := kn_eq rfl (by decide : Int32.toInt 0 = 0) c_20
      refine lv_iload_n hx hb dX11_share_27 rfl (lv_at hl 2 rfl) ?_
      refine lv_iload_n hx hb dX11_share_28 rfl (lv_at hl 3 rfl) ?_
      refine lv_icmp_ne (tgt := 36) hx hb dX11_share_29 (by decide) (fun c_21 => ?_) (fun c_21 => ?_)
      · have c_21 := kn_eq rfl rfl c_21
        refine lv_aload_n hx hb dX11_share_36 rfl (lv_at hl 0 rfl) ?_
        refine k_get (ci := 11) (v := .ref (gr g h0 3)) (C := RX11) (T := TX11) (N := 12) hx hb hts (fun _ h0_ => List.mem_cons_of_mem _ (List.mem_append_right _ (List.mem_append_left _ h0_))) hown hK hI i_h0.1 k_1 rfl 3 (by decide) (hts (.fieldLink RX11 37 "DeadlineShare" "now" "LDeadlineShare$State;") (List.mem_cons_of_mem _ (List.mem_append_left _ (List.mem_of_getElem? (i := 0) rfl)))) (fun _ h9 => h9) rfl dX11_share_37 ?_
        refine k_get (ci := 6) (v := .ref (gr g (gr g h0 3) 2)) (C := RX6) (T := TX6) (N := 10) hx hb hts (fun _ h0_ => List.mem_cons_of_mem _ (List.mem_append_right _ (List.mem_append_right _ (List.mem_append_right _ (List.mem_append_right _ (List.mem_append_left _ h0_)))))) hown hK hI i_4.1 k_5 rfl 2 (by decide) (hts (.fieldLink RX11 287 "DeadlineShare$State" "log" "LDeadlineShare$Log;") (List.mem_cons_of_mem _ (List.mem_append_left _ (List.mem_of_getElem? (i := 9) rfl)))) (fun _ h9 => h9) rfl dX11_share_40 ?_
        have i_25 := kw_6_2 hG i_4
        refine lv_iload_n hx hb dX11_share_43 rfl (lv_at hl 1 rfl) ?_
        refine lv_iload_n hx hb dX11_share_44 rfl (lv_at hl 2 rfl) ?_
        refine lv_iload_n hx hb dX11_share_45 rfl (lv_at hl 3 rfl) ?_
        have k_26 := op_2 hI i_25
        refine va_calll (va_runV (As := [.int p1, .int p2, .int p3]) (rest := []) ⟨hx, hb, hml, hown, hts⟩ (c_X2_shareIn l dC dI g A hG f (gr g (gr g h0 3) 2) p1 p2 p3 i_25) (cwV 3 hts (gi_V (fun w_ h0_ => ⟨List.mem_cons_of_mem _ (List.mem_append_right _ (List.mem_append_right _ (List.mem_append_right _ (List.mem_append_right _ (List.mem_append_right _ (List.mem_append_left _ h0_)))))), (tb_c_X2_shareIn w_ h0_).2⟩) (List.mem_cons_of_mem _ (List.mem_append_left _ (List.mem_of_getElem? (i := 10) rfl))) (List.mem_cons_of_mem _ (List.mem_append_left _ (List.mem_of_getElem? (i := 11) rfl))) (List.mem_cons_of_mem _ (List.mem_append_left _ (List.mem_of_getElem? (i := 12) rfl))) (List.mem_cons_of_mem _ (List.mem_append_left _ (List.mem_of_getElem? (i := 13) rfl)))) rfl rfl rfl (by decide +kernel) ⟨Nat.le_of_ble_eq_true rfl, Nat.le_of_ble_eq_true rfl⟩) ⟨fun a U g mk q => ⟨q.1, q.2.calling rfl rfl⟩, k_recv hK hI i_25.1 k_26 (ci := 2) rfl, fun U hU hW => ⟨rfl, kIn.of hI hK hE hS hU hW⟩⟩ rfl rfl hl.1 rfl (lv_room (Nat.le_of_ble_eq_true rfl)) dX11_share_46 ⟨Nat.le_of_ble_eq_true rfl, Nat.le_of_ble_eq_true rfl⟩) hS (fun q _ h => h) (fun q h => h) (fun r_28 u t H1 locs ht hvm w_27 hB hz1 hk1 hS => ?_)
        have hI : Iv dC dI g A f t.heap := hB
        rw [ht] at hI
        generalize H1 = H at hI hS ⊢
        refine W.widen (k := 0) (n := 0) (Nat.le_of_ble_eq_true rfl) (Nat.le_of_ble_eq_true rfl) ?_
        exact W.lret (v := r_28) hx hb hr (fun t ht hW => ⟨⟨r_28, (), rfl, trivial, k_ret ht hI⟩, hS.F ht⟩) hS.2.2 dX11_share_49
      · have c_21 := kc_eq rfl rfl c_21
        refine lv_lconst (v := 0) hx hb dX11_share_32 (by decide) ?_
        refine lv_goto (tgt := 49) hx hb dX11_share_33 (by decide) ?_
        exact W.lret (v := 0) hx hb hr (fun t ht hW => ⟨⟨0, (), rfl, trivial, k_ret ht hI⟩, hS.F ht⟩) hS.2.2 dX11_share_49
    · have c_20 := kc_eq rfl (by decide : Int32.toInt 0 = 0) c_20
      refine lv_ldc2 hx hb hown (hts (.constantLong RX11 245 (-9223372036854775808)) (List.mem_cons_of_mem _ (List.mem_append_left _ (List.mem_of_getElem? (i := 5) rfl)))) dX11_share_23 ?_
      exact W.lret (v := (-9223372036854775808)) hx hb hr (fun t ht hW => ⟨⟨(-9223372036854775808), (), rfl, trivial, k_ret ht hI⟩, hS.F ht⟩) hS.2.2 dX11_share_26
theorem tw_583 : q_g (.selects RX2 yX2_edge yX2_edge) := ⟨(List.mem_append_right _ (List.mem_of_getElem? (i := 1015) (by decide +kernel))), good_of_word (by decide +kernel)⟩
theorem tw_584 : q_g (.instanceMethod yX2_edge) := ⟨(List.mem_append_right _ (List.mem_of_getElem? (i := 1014) (by decide +kernel))), good_of_word (by decide +kernel)⟩
theorem tw_585 : q_g (.methodLink RX11 310 yX2_edge) := ⟨(List.mem_append_right _ (List.mem_of_getElem? (i := 1013) (by decide +kernel))), good_of_word (by decide +kernel)⟩
theorem tw_586 : q_g (.methodLink RX11 307 yX6_firstInLog) := ⟨(List.mem_append_right _ (List.mem_of_getElem? (i := 1012) (by decide +kernel))), good_of_word (by decide +kernel)⟩
theorem tw_587 : q_g (.code yX11_worst cX11_worst 3 (some .long)) := ⟨(List.mem_append_right _ (List.mem_of_getElem? (i := 1011) (by decide +kernel))), good_of_word (by decide +kernel)⟩
def ow_c_X11_worst : List Cond := [.fieldLink RX11 37 "DeadlineShare" "now" "LDeadlineShare$State;", .methodLink RX11 130 yX6_has, .instanceMethod yX6_has, .selects RX6 yX6_has yX6_has, .initialized RX6, .constantLong RX11 245 (-9223372036854775808), .fieldLink RX11 287 "DeadlineShare$State" "log" "LDeadlineShare$Log;", .methodLink RX11 307 yX6_firstInLog, .instanceMethod yX6_firstInLog, .selects RX6 yX6_firstInLog yX6_firstInLog, .fieldLink RX11 223 "DeadlineShare$State" "time" "I", .methodLink RX11 310 yX2_edge, .instanceMethod yX2_edge, .selects RX2 yX2_edge yX2_edge, .initialized RX2]
def wq_c_X11_worst : List Cond := .code yX11_worst cX11_worst 3 (some .long) :: (ow_c_X11_worst ++ (u_ws RX11 TX11 12 ++ (wq_c_X6_has ++ (u_ws RX6 TX6 10 ++ (wq_c_X6_firstInLog ++ (wq_c_X2_edge ++ ([] : List Cond)))))))
theorem tb_c_X11_worst : ∀ w ∈ wq_c_X11_worst, q_g w := by
  unfold wq_c_X11_worst ow_c_X11_worst
  exact q_cons tw_587 (q_app (q_cons tw_479 (q_cons tw_492 (q_cons tw_74 (q_cons tw_73 (q_cons tw_47 (q_cons tw_544 (q_cons tw_567 (q_cons tw_586 (q_cons tw_416 (q_cons tw_415 (q_cons tw_523 (q_cons tw_585 (q_cons tw_584 (q_cons tw_583 (q_cons tw_147 q_nil))))))))))))))) (q_app tu_X11 (q_app tb_c_X6_has (q_app tu_X6 (q_app tb_c_X6_firstInLog (q_app tb_c_X2_edge q_nil))))))
set_option maxHeartbeats 4000000 in
set_option maxRecDepth 100000 in
theorem c_X11_worst (l : Launch) (dC : Nat → ClassId) (dI : Nat → Nat → Nat) (g : kG) (A : Nat → Prop) (hG : kWf g) (f : Nat → va_E) (h0 : Nat) (p1 : Int32) (p2 : Int32) (i_h0 : ik g 11 h0) : Met l yX11_worst wq_c_X11_worst ({ frames := 3, cells := 0, slots := 0, locals := 80 } : Room) (va_Pc [.ref h0, .int p1, .int p2] (fun U => kIn dC dI g A f U)) (va_Ql (fun (r : Int64) (_ : Unit) => True) (fun (_ : Unit) t => Iv dC dI g A f t.heap) A) 0 0 A := by
  refine Met.ofW (cc := cX11_worst) (maxL := 3) (ret := (some .long)) (by decide) rfl ?_
  intro p e s m args below meth c s₁ B hml hv
  obtain ⟨rfl, hI, hK, hE⟩ := hv
  have hx := B.exec
  have hb := B.bytes
  have hr := B.returns
  have hts := atoms_spec (ws := wq_c_X11_worst) B.pre
  have hown : s.vm.findClass RX11 = some m.cls := findClass_of_methodNamed B.named
  have hlocks := B.notSynchronized
  have hS : va_S A s.heap s.heap [] := va_S.rf
  have hl := lv_entry ([.ref h0, .int p1, .int p2]) (n := 3) (Nat.le_of_ble_eq_true rfl)
  rw [lg_entry_eq]
  generalize (lg_sl ([.ref h0, .int p1, .int p2]) ++ List.replicate (3 - (lg_sl ([.ref h0, .int p1, .int p2])).length) Slot.unset).toArray = ls at hl ⊢
  have hl : lv_has ls 3 [(0, .ref h0), (1, .int p1), (2, .int p2)] := hl
  refine lv_aload_n hx hb dX11_worst_0 rfl (lv_at hl 0 rfl) ?_
  obtain ⟨x_2, k_1⟩ := op_11 hI i_h0
  refine k_get (ci := 11) (v := .ref (gr g h0 3)) (C := RX11) (T := TX11) (N := 12) hx hb hts (fun _ h0_ => List.mem_cons_of_mem _ (List.mem_append_right _ (List.mem_append_left _ h0_))) hown hK hI i_h0.1 k_1 rfl 3 (by decide) (hts (.fieldLink RX11 37 "DeadlineShare" "now" "LDeadlineShare$State;") (List.mem_cons_of_mem _ (List.mem_append_left _ (List.mem_of_getElem? (i := 0) rfl)))) (fun _ h9 => h9) rfl dX11_worst_1 ?_
  have i_4 := kw_11_3 hG i_h0
  refine lv_iload_n hx hb dX11_worst_4 rfl (lv_at hl 1 rfl) ?_
  obtain ⟨x_6, x_7, x_8, x_9, x_10, k_5, b_11, b_12⟩ := op_6 hI i_4
  refine va_calli (va_runV (As := [.int p1]) (rest := []) ⟨hx, hb, hml, hown, hts⟩ (c_X6_has l dC dI g A hG f (gr g h0 3) p1 i_4) (cwV 1 hts (gi_V (fun w_ h0_ => ⟨List.mem_cons_of_mem _ (List.mem_append_right _ (List.mem_append_right _ (List.mem_append_left _ h0_))), (tb_c_X6_has w_ h0_).2⟩) (List.mem_cons_of_mem _ (List.mem_append_left _ (List.mem_of_getElem? (i := 1) rfl))) (List.mem_cons_of_mem _ (List.mem_append_left _ (List.mem_of_getElem? (i := 2) rfl))) (List.mem_cons_of_mem _ (List.mem_append_left _ (List.mem_of_getElem? (i := 3) rfl))) (List.mem_cons_of_mem _ (List.mem_append_left _ (List.mem_of_getElem? (i := 4) rfl)))) rfl rfl rfl (by decide +kernel) ⟨Nat.le_of_ble_eq_true rfl, Nat.le_of_ble_eq_true rfl⟩) ⟨fun a U g mk q => ⟨q.1, q.2.calling rfl rfl⟩, k_recv hK hI i_4.1 k_5 (ci := 6) rfl, fun U hU hW => ⟨rfl, kIn.of hI hK hE hS hU hW⟩⟩ rfl rfl hl.1 rfl (lv_room (Nat.le_of_ble_eq_true rfl)) dX11_worst_5 ⟨Nat.le_of_ble_eq_true rfl, Nat.le_of_ble_eq_true rfl⟩) hS (fun q _ h => h) (fun q h => h) (fun r_14 u t H1 locs ht hvm w_13 hB hz1 hk1 hS => ?_)
  have hI : Iv dC dI g A f t.heap := hB
  rw [ht] at hI
  generalize H1 = H at hI hS ⊢
  refine W.widen (k := 0) (n := 0) (Nat.le_of_ble_eq_true rfl) (Nat.le_of_ble_eq_true rfl) ?_
  have w_13 : r_14.toInt = 0 ∨ (0 ≤ p1.toInt ∧ p1.toInt < 12) := w_13
  refine lv_if_eq (tgt := 20) hx hb dX11_worst_8 (by decide) (fun c_15 => ?_) (fun c_15 => ?_)
  · have c_15 := kc_eq rfl (by decide : Int32.toInt 0 = 0) c_15
    refine lv_ldc2 hx hb hown (hts (.constantLong RX11 245 (-9223372036854775808)) (List.mem_cons_of_mem _ (List.mem_append_left _ (List.mem_of_getElem? (i := 5) rfl)))) dX11_worst_20 ?_
    exact W.lret (v := (-9223372036854775808)) hx hb hr (fun t ht hW => ⟨⟨(-9223372036854775808), (), rfl, trivial, k_ret ht hI⟩, hS.F ht⟩) hS.2.2 dX11_worst_23
  · have c_15 := kn_eq rfl (by decide : Int32.toInt 0 = 0) c_15
    refine lv_iload_n hx hb dX11_worst_11 rfl (lv_at hl 2 rfl) ?_
    refine lv_if_lt (tgt := 20) hx hb dX11_worst_12 (by decide) (fun c_16 => ?_) (fun c_16 => ?_)
    · have c_16 := kc_lt rfl (by decide : Int32.toInt 0 = 0) c_16
      refine lv_ldc2 hx hb hown (hts (.constantLong RX11 245 (-9223372036854775808)) (List.mem_cons_of_mem _ (List.mem_append_left _ (List.mem_of_getElem? (i := 5) rfl)))) dX11_worst_20 ?_
      exact W.lret (v := (-9223372036854775808)) hx hb hr (fun t ht hW => ⟨⟨(-9223372036854775808), (), rfl, trivial, k_ret ht hI⟩, hS.F ht⟩) hS.2.2 dX11_worst_23
    · have c_16 := kn_lt rfl (by decide : Int32.toInt 0 = 0) c_16
      refine lv_iload_n hx hb dX11_worst_15 rfl (lv_at hl 2 rfl) ?_
      refine lv_iconst (v := 1) hx hb dX11_worst_16 (by decide) ?_
      refine lv_icmp_le (tgt := 24) hx hb dX11_worst_17 (by decide) (fun c_17 => ?_) (fun c_17 => ?_)
      · have c_17 := kc_le rfl (by decide : Int32.toInt 1 = 1) c_17
        refine lv_aload_n hx hb dX11_worst_24 rfl (lv_at hl 0 rfl) ?_
        refine k_get (ci := 11) (v := .ref (gr g h0 3)) (C := RX11) (T := TX11) (N := 12) hx hb hts (fun _ h0_ => List.mem_cons_of_mem _ (List.mem_append_right _ (List.mem_append_left _ h0_))) hown hK hI i_h0.1 k_1 rfl 3 (by decide) (hts (.fieldLink RX11 37 "DeadlineShare" "now" "LDeadlineShare$State;") (List.mem_cons_of_mem _ (List.mem_append_left _ (List.mem_of_getElem? (i := 0) rfl)))) (fun _ h9 => h9) rfl dX11_worst_25 ?_
        refine k_get (ci := 6) (v := .ref (gr g (gr g h0 3) 2)) (C := RX6) (T := TX6) (N := 10) hx hb hts (fun _ h0_ => List.mem_cons_of_mem _ (List.mem_append_right _ (List.mem_append_right _ (List.mem_append_right _ (List.mem_append_left _ h0_))))) hown hK hI i_4.1 k_5 rfl 2 (by decide) (hts (.fieldLink RX11 287 "DeadlineShare$State" "log" "LDeadlineShare$Log;") (List.mem_cons_of_mem _ (List.mem_append_left _ (List.mem_of_getElem? (i := 6) rfl)))) (fun _ h9 => h9) rfl dX11_worst_28 ?_
        have i_21 := kw_6_2 hG i_4
        refine lv_iload_n hx hb dX11_worst_31 rfl (lv_at hl 1 rfl) ?_
        refine lv_aload_n hx hb dX11_worst_32 rfl (lv_at hl 0 rfl) ?_
        refine k_get (ci := 11) (v := .ref (gr g h0 3)) (C := RX11) (T := TX11) (N := 12) hx hb hts (fun _ h0_ => List.mem_cons_of_mem _ (List.mem_append_right _ (List.mem_append_left _ h0_))) hown hK hI i_h0.1 k_1 rfl 3 (by decide) (hts (.fieldLink RX11 37 "DeadlineShare" "now" "LDeadlineShare$State;") (List.mem_cons_of_mem _ (List.mem_append_left _ (List.mem_of_getElem? (i := 0) rfl)))) (fun _ h9 => h9) rfl dX11_worst_33 ?_
        refine va_calli (va_runV (As := []) (rest := [.int p1, .ref (gr g (gr g h0 3) 2)]) ⟨hx, hb, hml, hown, hts⟩ (c_X6_firstInLog l dC dI g A hG f (gr g h0 3) i_4) (cwV 0 hts (gi_V (fun w_ h0_ => ⟨List.mem_cons_of_mem _ (List.mem_append_right _ (List.mem_append_right _ (List.mem_append_right _ (List.mem_append_right _ (List.mem_append_left _ h0_))))), (tb_c_X6_firstInLog w_ h0_).2⟩) (List.mem_cons_of_mem _ (List.mem_append_left _ (List.mem_of_getElem? (i := 7) rfl))) (List.mem_cons_of_mem _ (List.mem_append_left _ (List.mem_of_getElem? (i := 8) rfl))) (List.mem_cons_of_mem _ (List.mem_append_left _ (List.mem_of_getElem? (i := 9) rfl))) (List.mem_cons_of_mem _ (List.mem_append_left _ (List.mem_of_getElem? (i := 4) rfl)))) rfl rfl rfl (by decide +kernel) ⟨Nat.le_of_ble_eq_true rfl, Nat.le_of_ble_eq_true rfl⟩) ⟨fun a U g mk q => ⟨q.1, q.2.calling rfl rfl⟩, k_recv hK hI i_4.1 k_5 (ci := 6) rfl, fun U hU hW => ⟨rfl, kIn.of hI hK hE hS hU hW⟩⟩ rfl rfl hl.1 rfl (lv_room (Nat.le_of_ble_eq_true rfl)) dX11_worst_36 ⟨Nat.le_of_ble_eq_true rfl, Nat.le_of_ble_eq_true rfl⟩) hS (fun q _ h => h) (fun q h => h) (fun r_25 u t H1 locs ht hvm w_24 hB hz1 hk1 hS => ?_)
        have hI : Iv dC dI g A f t.heap := hB
        rw [ht] at hI
        generalize H1 = H at hI hS ⊢
        refine W.widen (k := 0) (n := 0) (Nat.le_of_ble_eq_true rfl) (Nat.le_of_ble_eq_true rfl) ?_
        refine lv_aload_n hx hb dX11_worst_39 rfl (lv_at hl 0 rfl) ?_
        refine k_get (ci := 11) (v := .ref (gr g h0 3)) (C := RX11) (T := TX11) (N := 12) hx hb hts (fun _ h0_ => List.mem_cons_of_mem _ (List.mem_append_right _ (List.mem_append_left _ h0_))) hown hK hI i_h0.1 k_1 rfl 3 (by decide) (hts (.fieldLink RX11 37 "DeadlineShare" "now" "LDeadlineShare$State;") (List.mem_cons_of_mem _ (List.mem_append_left _ (List.mem_of_getElem? (i := 0) rfl)))) (fun _ h9 => h9) rfl dX11_worst_40 ?_
        refine k_get (ci := 6) (v := .int x_7) (C := RX6) (T := TX6) (N := 10) hx hb hts (fun _ h0_ => List.mem_cons_of_mem _ (List.mem_append_right _ (List.mem_append_right _ (List.mem_append_right _ (List.mem_append_left _ h0_))))) hown hK hI i_4.1 k_5 rfl 6 (by decide) (hts (.fieldLink RX11 223 "DeadlineShare$State" "time" "I") (List.mem_cons_of_mem _ (List.mem_append_left _ (List.mem_of_getElem? (i := 10) rfl)))) (fun _ h9 => h9) rfl dX11_worst_43 ?_
        refine lv_iload_n hx hb dX11_worst_46 rfl (lv_at hl 2 rfl) ?_
        have J_55 : ∀ (y_28 : Int32) (y_29 : Int32) (H : Heap) (locs : List Loc) (ls : Array Slot), Iv dC dI g A f H → va_S A s.heap H locs → lv_has ls 3 [(0, .ref h0), (1, .int p1), (2, .int p2)] → W p l e (headSpec wq_c_X11_worst ({ frames := 3, cells := 0, slots := 0, locals := 80 } : Room)).room s m ([.ref h0, .int p1, .int p2].toArray) below meth c H locs 0 0 (MQ below (va_Ql (fun (r : Int64) (_ : Unit) => True) (fun (_ : Unit) t => Iv dC dI g A f t.heap) A) ([.ref h0, .int p1, .int p2].toArray) s 0 0 A) (F0 m 55 ls [.int y_28, .int y_29, .int r_25, .int p1, .ref (gr g (gr g h0 3) 2)]) := by
          intro y_28 y_29 H locs ls hI hS  hl
          have k_30 := op_2 hI i_21
          refine va_calll (va_runV (As := [.int p1, .int r_25, .int y_29, .int y_28]) (rest := []) ⟨hx, hb, hml, hown, hts⟩ (c_X2_edge l dC dI g A hG f (gr g (gr g h0 3) 2) p1 r_25 y_29 y_28 i_21) (cwV 4 hts (gi_V (fun w_ h0_ => ⟨List.mem_cons_of_mem _ (List.mem_append_right _ (List.mem_append_right _ (List.mem_append_right _ (List.mem_append_right _ (List.mem_append_right _ (List.mem_append_left _ h0_)))))), (tb_c_X2_edge w_ h0_).2⟩) (List.mem_cons_of_mem _ (List.mem_append_left _ (List.mem_of_getElem? (i := 11) rfl))) (List.mem_cons_of_mem _ (List.mem_append_left _ (List.mem_of_getElem? (i := 12) rfl))) (List.mem_cons_of_mem _ (List.mem_append_left _ (List.mem_of_getElem? (i := 13) rfl))) (List.mem_cons_of_mem _ (List.mem_append_left _ (List.mem_of_getElem? (i := 14) rfl)))) rfl rfl rfl (by decide +kernel) ⟨Nat.le_of_ble_eq_true rfl, Nat.le_of_ble_eq_true rfl⟩) ⟨fun a U g mk q => ⟨q.1, q.2.calling rfl rfl⟩, k_recv hK hI i_21.1 k_30 (ci := 2) rfl, fun U hU hW => ⟨rfl, kIn.of hI hK hE hS hU hW⟩⟩ rfl rfl hl.1 rfl (lv_room (Nat.le_of_ble_eq_true rfl)) dX11_worst_55 ⟨Nat.le_of_ble_eq_true rfl, Nat.le_of_ble_eq_true rfl⟩) hS (fun q _ h => h) (fun q h => h) (fun r_32 u t H1 locs ht hvm w_31 hB hz1 hk1 hS => ?_)
          have hI : Iv dC dI g A f t.heap := hB
          rw [ht] at hI
          generalize H1 = H at hI hS ⊢
          refine W.widen (k := 0) (n := 0) (Nat.le_of_ble_eq_true rfl) (Nat.le_of_ble_eq_true rfl) ?_
          exact W.lret (v := r_32) hx hb hr (fun t ht hW => ⟨⟨r_32, (), rfl, trivial, k_ret ht hI⟩, hS.F ht⟩) hS.2.2 dX11_worst_58
        refine lv_if_ne (tgt := 54) hx hb dX11_worst_47 (by decide) (fun c_33 => ?_) (fun c_33 => ?_)
        · have c_33 := kn_eq rfl (by decide : Int32.toInt 0 = 0) c_33
          refine lv_iconst (v := 0) hx hb dX11_worst_54 (by decide) ?_
          exact J_55 0 x_7 _ _ _ hI hS  (lv_sub hl [0, 1, 2] rfl)
        · have c_33 := kc_eq rfl (by decide : Int32.toInt 0 = 0) c_33
          refine lv_iconst (v := 1) hx hb dX11_worst_50 (by decide) ?_
          refine lv_goto (tgt := 55) hx hb dX11_worst_51 (by decide) ?_
          exact J_55 1 x_7 _ _ _ hI hS  (lv_sub hl [0, 1, 2] rfl)
      · have c_17 := kn_le rfl (by decide : Int32.toInt 1 = 1) c_17
        refine lv_ldc2 hx hb hown (hts (.constantLong RX11 245 (-9223372036854775808)) (List.mem_cons_of_mem _ (List.mem_append_left _ (List.mem_of_getElem? (i := 5) rfl)))) dX11_worst_20 ?_
        exact W.lret (v := (-9223372036854775808)) hx hb hr (fun t ht hW => ⟨⟨(-9223372036854775808), (), rfl, trivial, k_ret ht hI⟩, hS.F ht⟩) hS.2.2 dX11_worst_23
theorem tw_588 : q_g (.code yX11_canTick cX11_canTick 2 (some .boolean)) := ⟨(List.mem_append_right _ (List.mem_of_getElem? (i := 1029) (by decide +kernel))), good_of_word (by decide +kernel)⟩
def ow_c_X11_canTick : List Cond := [.fieldLink RX11 37 "DeadlineShare" "now" "LDeadlineShare$State;", .fieldLink RX11 223 "DeadlineShare$State" "time" "I"]
def wq_c_X11_canTick : List Cond := .code yX11_canTick cX11_canTick 2 (some .boolean) :: (ow_c_X11_canTick ++ (u_ws RX11 TX11 12 ++ (u_ws RX6 TX6 10 ++ ([] : List Cond))))
theorem tb_c_X11_canTick : ∀ w ∈ wq_c_X11_canTick, q_g w := by
  unfold wq_c_X11_canTick ow_c_X11_canTick
  exact q_cons tw_588 (q_app (q_cons tw_479 (q_cons tw_523 q_nil)) (q_app tu_X11 (q_app tu_X6 q_nil)))
set_option maxHeartbeats 4000000 in
set_option maxRecDepth 100000 in
theorem c_X11_canTick (l : Launch) (dC : Nat → ClassId) (dI : Nat → Nat → Nat) (g : kG) (A : Nat → Prop) (hG : kWf g) (f : Nat → va_E) (h0 : Nat) (p1 : Int32) (i_h0 : ik g 11 h0) : Met l yX11_canTick wq_c_X11_canTick ({ frames := 0, cells := 0, slots := 0, locals := 0 } : Room) (va_Pc [.ref h0, .int p1] (fun U => kIn dC dI g A f U)) (va_Qi (fun (r : Int32) (_ : Unit) => True) (fun (_ : Unit) t => Iv dC dI g A f t.heap) A) 0 0 A := by
  refine Met.ofW (cc := cX11_canTick) (maxL := 2) (ret := (some .boolean)) (by decide) rfl ?_
  intro p e s m args below meth c s₁ B hml hv
  obtain ⟨rfl, hI, hK, hE⟩ := hv
  have hx := B.exec
  have hb := B.bytes
  have hr := B.returns
  have hts := atoms_spec (ws := wq_c_X11_canTick) B.pre
  have hown : s.vm.findClass RX11 = some m.cls := findClass_of_methodNamed B.named
  have hlocks := B.notSynchronized
  have hS : va_S A s.heap s.heap [] := va_S.rf
  have hl := lv_entry ([.ref h0, .int p1]) (n := 2) (Nat.le_of_ble_eq_true rfl)
  rw [lg_entry_eq]
  generalize (lg_sl ([.ref h0, .int p1]) ++ List.replicate (2 - (lg_sl ([.ref h0, .int p1])).length) Slot.unset).toArray = ls at hl ⊢
  have hl : lv_has ls 2 [(0, .ref h0), (1, .int p1)] := hl
  refine lv_iload_n hx hb dX11_canTick_0 rfl (lv_at hl 1 rfl) ?_
  refine lv_iconst (v := 1) hx hb dX11_canTick_1 (by decide) ?_
  refine lv_icmp_lt (tgt := 30) hx hb dX11_canTick_2 (by decide) (fun c_1 => ?_) (fun c_1 => ?_)
  · have c_1 := kc_lt rfl (by decide : Int32.toInt 1 = 1) c_1
    refine lv_iconst (v := 0) hx hb dX11_canTick_30 (by decide) ?_
    exact W.zret (v := 0) hx hb hr rfl (fun t ht hW => ⟨⟨0, (), rfl, trivial, k_ret ht hI⟩, hS.F ht⟩) hS.2.2 dX11_canTick_31
  · have c_1 := kn_lt rfl (by decide : Int32.toInt 1 = 1) c_1
    refine lv_iload_n hx hb dX11_canTick_5 rfl (lv_at hl 1 rfl) ?_
    refine lv_bipush (v := 60) hx hb dX11_canTick_6 (by decide) ?_
    refine lv_icmp_gt (tgt := 30) hx hb dX11_canTick_8 (by decide) (fun c_2 => ?_) (fun c_2 => ?_)
    · have c_2 := kc_lt (by decide : Int32.toInt 60 = 60) rfl c_2
      refine lv_iconst (v := 0) hx hb dX11_canTick_30 (by decide) ?_
      exact W.zret (v := 0) hx hb hr rfl (fun t ht hW => ⟨⟨0, (), rfl, trivial, k_ret ht hI⟩, hS.F ht⟩) hS.2.2 dX11_canTick_31
    · have c_2 := kn_lt (by decide : Int32.toInt 60 = 60) rfl c_2
      refine lv_aload_n hx hb dX11_canTick_11 rfl (lv_at hl 0 rfl) ?_
      obtain ⟨x_4, k_3⟩ := op_11 hI i_h0
      refine k_get (ci := 11) (v := .ref (gr g h0 3)) (C := RX11) (T := TX11) (N := 12) hx hb hts (fun _ h0_ => List.mem_cons_of_mem _ (List.mem_append_right _ (List.mem_append_left _ h0_))) hown hK hI i_h0.1 k_3 rfl 3 (by decide) (hts (.fieldLink RX11 37 "DeadlineShare" "now" "LDeadlineShare$State;") (List.mem_cons_of_mem _ (List.mem_append_left _ (List.mem_of_getElem? (i := 0) rfl)))) (fun _ h9 => h9) rfl dX11_canTick_12 ?_
      have i_6 := kw_11_3 hG i_h0
      obtain ⟨x_8, x_9, x_10, x_11, x_12, k_7, b_13, b_14⟩ := op_6 hI i_6
      refine k_get (ci := 6) (v := .int x_9) (C := RX6) (T := TX6) (N := 10) hx hb hts (fun _ h0_ => List.mem_cons_of_mem _ (List.mem_append_right _ (List.mem_append_right _ (List.mem_append_left _ h0_)))) hown hK hI i_6.1 k_7 rfl 6 (by decide) (hts (.fieldLink RX11 223 "DeadlineShare$State" "time" "I") (List.mem_cons_of_mem _ (List.mem_append_left _ (List.mem_of_getElem? (i := 1) rfl)))) (fun _ h9 => h9) rfl dX11_canTick_15 ?_
      refine lv_iload_n hx hb dX11_canTick_18 rfl (lv_at hl 1 rfl) ?_
      refine lv_iadd hx hb dX11_canTick_19 ?_
      refine lv_topi (fun v_15 ev_15 => ?_)
      have tv_15 := k_ad x_9 p1
      rw [← ev_15] at tv_15
      refine lv_sipush (v := 9999) hx hb dX11_canTick_20 (by decide) ?_
      refine lv_icmp_gt (tgt := 30) hx hb dX11_canTick_23 (by decide) (fun c_16 => ?_) (fun c_16 => ?_)
      · have c_16 := kc_lt (by decide : Int32.toInt 9999 = 9999) rfl c_16
        refine lv_iconst (v := 0) hx hb dX11_canTick_30 (by decide) ?_
        exact W.zret (v := 0) hx hb hr rfl (fun t ht hW => ⟨⟨0, (), rfl, trivial, k_ret ht hI⟩, hS.F ht⟩) hS.2.2 dX11_canTick_31
      · have c_16 := kn_lt (by decide : Int32.toInt 9999 = 9999) rfl c_16
        refine lv_iconst (v := 1) hx hb dX11_canTick_26 (by decide) ?_
        refine lv_goto (tgt := 31) hx hb dX11_canTick_27 (by decide) ?_
        exact W.zret (v := 1) hx hb hr rfl (fun t ht hW => ⟨⟨1, (), rfl, trivial, k_ret ht hI⟩, hS.F ht⟩) hS.2.2 dX11_canTick_31
theorem tw_589 : q_g (.fieldLink RX11 41 "DeadlineShare" "paper" "LDeadlineShare$State;") := ⟨(List.mem_append_right _ (List.mem_of_getElem? (i := 324) (by decide +kernel))), good_of_word (by decide +kernel)⟩
theorem tw_590 : q_g (.selects RX11 yX11_canTick yX11_canTick) := ⟨(List.mem_append_left _ (List.mem_of_getElem? (i := 19) (by decide +kernel))), good_of_word (by decide +kernel)⟩
theorem tw_591 : q_g (.instanceMethod yX11_canTick) := ⟨(List.mem_append_right _ (List.mem_of_getElem? (i := 1028) (by decide +kernel))), good_of_word (by decide +kernel)⟩
theorem tw_592 : q_g (.methodLink RX11 314 yX11_canTick) := ⟨(List.mem_append_right _ (List.mem_of_getElem? (i := 1026) (by decide +kernel))), good_of_word (by decide +kernel)⟩
theorem tw_593 : q_g (.code yX11_ahead cX11_ahead 4 (some .int)) := ⟨(List.mem_append_right _ (List.mem_of_getElem? (i := 1025) (by decide +kernel))), good_of_word (by decide +kernel)⟩
def ow_c_X11_ahead : List Cond := [.methodLink RX11 314 yX11_canTick, .instanceMethod yX11_canTick, .selects RX11 yX11_canTick yX11_canTick, .initialized RX11, .fieldLink RX11 41 "DeadlineShare" "paper" "LDeadlineShare$State;", .fieldLink RX11 37 "DeadlineShare" "now" "LDeadlineShare$State;", .methodLink RX11 238 yX6_copy, .instanceMethod yX6_copy, .selects RX6 yX6_copy yX6_copy, .initialized RX6, .fieldLink RX11 47 "DeadlineShare" "asTold" "LDeadlineShare$Chooser;", .methodLink RX11 226 yX6_tick, .instanceMethod yX6_tick, .selects RX6 yX6_tick yX6_tick]
def wq_c_X11_ahead : List Cond := .code yX11_ahead cX11_ahead 4 (some .int) :: (ow_c_X11_ahead ++ (wq_c_X11_canTick ++ (u_ws RX11 TX11 12 ++ (wq_c_X6_copy ++ (wq_c_X6_tick ++ ([] : List Cond))))))
theorem tb_c_X11_ahead : ∀ w ∈ wq_c_X11_ahead, q_g w := by
  unfold wq_c_X11_ahead ow_c_X11_ahead
  exact q_cons tw_593 (q_app (q_cons tw_592 (q_cons tw_591 (q_cons tw_590 (q_cons tw_56 (q_cons tw_589 (q_cons tw_479 (q_cons tw_532 (q_cons tw_160 (q_cons tw_159 (q_cons tw_47 (q_cons tw_522 (q_cons tw_521 (q_cons tw_520 (q_cons tw_519 q_nil)))))))))))))) (q_app tb_c_X11_canTick (q_app tu_X11 (q_app tb_c_X6_copy (q_app tb_c_X6_tick q_nil)))))
set_option maxHeartbeats 4000000 in
set_option maxRecDepth 100000 in
theorem c_X11_ahead (l : Launch) (dC : Nat → ClassId) (dI : Nat → Nat → Nat) (g : kG) (A : Nat → Prop) (hG : kWf g) (f : Nat → va_E) (h0 : Nat) (p1 : Int32) (i_h0 : ik g 11 h0) : Met l yX11_ahead wq_c_X11_ahead ({ frames := 6, cells := 0, slots := 0, locals := 139 } : Room) (va_Pc [.ref h0, .int p1] (fun U => kIn dC dI g A f U)) (va_Qi (fun (r : Int32) (_ : Unit) => True) (fun (_ : Unit) t => ∃ f1 : Nat → va_E, Iv dC dI g A f1 t.heap ∧ Kp g [0, 5, 6, 8, 10, 23, 24] f f1) A) 0 0 A := by
  refine Met.ofW (cc := cX11_ahead) (maxL := 4) (ret := (some .int)) (by decide) rfl ?_
  intro p e s m args below meth c s₁ B hml hv
  obtain ⟨rfl, hI, hK, hE⟩ := hv
  have hx := B.exec
  have hb := B.bytes
  have hr := B.returns
  have hts := atoms_spec (ws := wq_c_X11_ahead) B.pre
  have hown : s.vm.findClass RX11 = some m.cls := findClass_of_methodNamed B.named
  have hlocks := B.notSynchronized
  have hS : va_S A s.heap s.heap [] := va_S.rf
  have hk0 : Kp g [0, 5, 6, 8, 10, 23, 24] f f := Kp.rf
  have hl := lv_entry ([.ref h0, .int p1]) (n := 4) (Nat.le_of_ble_eq_true rfl)
  rw [lg_entry_eq]
  generalize (lg_sl ([.ref h0, .int p1]) ++ List.replicate (4 - (lg_sl ([.ref h0, .int p1])).length) Slot.unset).toArray = ls at hl ⊢
  have hl : lv_has ls 4 [(0, .ref h0), (1, .int p1)] := hl
  refine lv_aload_n hx hb dX11_ahead_0 rfl (lv_at hl 0 rfl) ?_
  refine lv_iload_n hx hb dX11_ahead_1 rfl (lv_at hl 1 rfl) ?_
  obtain ⟨x_2, k_1⟩ := op_11 hI i_h0
  refine va_calli (va_runV (As := [.int p1]) (rest := []) ⟨hx, hb, hml, hown, hts⟩ (c_X11_canTick l dC dI g A hG f h0 p1 i_h0) (cwV 1 hts (gi_V (fun w_ h0_ => ⟨List.mem_cons_of_mem _ (List.mem_append_right _ (List.mem_append_left _ h0_)), (tb_c_X11_canTick w_ h0_).2⟩) (List.mem_cons_of_mem _ (List.mem_append_left _ (List.mem_of_getElem? (i := 0) rfl))) (List.mem_cons_of_mem _ (List.mem_append_left _ (List.mem_of_getElem? (i := 1) rfl))) (List.mem_cons_of_mem _ (List.mem_append_left _ (List.mem_of_getElem? (i := 2) rfl))) (List.mem_cons_of_mem _ (List.mem_append_left _ (List.mem_of_getElem? (i := 3) rfl)))) rfl rfl rfl (by decide +kernel) ⟨Nat.le_of_ble_eq_true rfl, Nat.le_of_ble_eq_true rfl⟩) ⟨fun a U g mk q => ⟨q.1, q.2.calling rfl rfl⟩, k_recv hK hI i_h0.1 k_1 (ci := 11) rfl, fun U hU hW => ⟨rfl, kIn.of hI hK hE hS hU hW⟩⟩ rfl rfl hl.1 rfl (lv_room (Nat.le_of_ble_eq_true rfl)) dX11_ahead_2 ⟨Nat.le_of_ble_eq_true rfl, Nat.le_of_ble_eq_true rfl⟩) hS (fun q _ h => h) (fun q h => h) (fun r_4 u t H1 locs ht hvm w_3 hB hz1 hk1 hS => ?_)
  have hI : Iv dC dI g A f t.heap := hB
  rw [ht] at hI
  generalize H1 = H at hI hS ⊢
  refine W.widen (k := 0) (n := 0) (Nat.le_of_ble_eq_true rfl) (Nat.le_of_ble_eq_true rfl) ?_
  refine lv_if_ne (tgt := 10) hx hb dX11_ahead_5 (by decide) (fun c_5 => ?_) (fun c_5 => ?_)
  · have c_5 := kn_eq rfl (by decide : Int32.toInt 0 = 0) c_5
    refine lv_aload_n hx hb dX11_ahead_10 rfl (lv_at hl 0 rfl) ?_
    refine k_get (ci := 11) (v := .ref (gr g h0 4)) (C := RX11) (T := TX11) (N := 12) hx hb hts (fun _ h0_ => List.mem_cons_of_mem _ (List.mem_append_right _ (List.mem_append_right _ (List.mem_append_left _ h0_)))) hown hK hI i_h0.1 k_1 rfl 4 (by decide) (hts (.fieldLink RX11 41 "DeadlineShare" "paper" "LDeadlineShare$State;") (List.mem_cons_of_mem _ (List.mem_append_left _ (List.mem_of_getElem? (i := 4) rfl)))) (fun _ h9 => h9) rfl dX11_ahead_11 ?_
    have i_7 := kw_11_4 hG i_h0
    refine lv_aload_n hx hb dX11_ahead_14 rfl (lv_at hl 0 rfl) ?_
    refine k_get (ci := 11) (v := .ref (gr g h0 3)) (C := RX11) (T := TX11) (N := 12) hx hb hts (fun _ h0_ => List.mem_cons_of_mem _ (List.mem_append_right _ (List.mem_append_right _ (List.mem_append_left _ h0_)))) hown hK hI i_h0.1 k_1 rfl 3 (by decide) (hts (.fieldLink RX11 37 "DeadlineShare" "now" "LDeadlineShare$State;") (List.mem_cons_of_mem _ (List.mem_append_left _ (List.mem_of_getElem? (i := 5) rfl)))) (fun _ h9 => h9) rfl dX11_ahead_15 ?_
    have i_9 := kw_11_3 hG i_h0
    obtain ⟨x_11, x_12, x_13, x_14, x_15, k_10, b_16, b_17⟩ := op_6 hI i_7
    refine va_callv (va_runV (As := [.ref (gr g h0 3)]) (rest := []) ⟨hx, hb, hml, hown, hts⟩ (c_X6_copy l dC dI g A hG f (gr g h0 4) (gr g h0 3) i_7 i_9) (cwV 1 hts (gi_V (fun w_ h0_ => ⟨List.mem_cons_of_mem _ (List.mem_append_right _ (List.mem_append_right _ (List.mem_append_right _ (List.mem_append_left _ h0_)))), (tb_c_X6_copy w_ h0_).2⟩) (List.mem_cons_of_mem _ (List.mem_append_left _ (List.mem_of_getElem? (i := 6) rfl))) (List.mem_cons_of_mem _ (List.mem_append_left _ (List.mem_of_getElem? (i := 7) rfl))) (List.mem_cons_of_mem _ (List.mem_append_left _ (List.mem_of_getElem? (i := 8) rfl))) (List.mem_cons_of_mem _ (List.mem_append_left _ (List.mem_of_getElem? (i := 9) rfl)))) rfl rfl rfl (by decide +kernel) ⟨Nat.le_of_ble_eq_true rfl, Nat.le_of_ble_eq_true rfl⟩) ⟨fun a U g mk q => ⟨q.1, q.2.calling rfl rfl⟩, k_recv hK hI i_7.1 k_10 (ci := 6) rfl, fun U hU hW => ⟨rfl, kIn.of hI hK hE hS hU hW⟩⟩ rfl rfl hl.1 rfl (lv_room (Nat.le_of_ble_eq_true rfl)) dX11_ahead_18 ⟨Nat.le_of_ble_eq_true rfl, Nat.le_of_ble_eq_true rfl⟩) hS (fun q _ h => h) (fun q h => h) (fun u t H1 locs ht hvm _ hB hz1 hk1 hS => ?_)
    obtain ⟨f_18, hI, kc_20⟩ := hB
    rw [ht] at hI
    have k_22 : f_18 h0 = .inr (11, [.ref (gr g h0 0), .ref (gr g h0 1), .ref (gr g h0 2), .ref (gr g h0 3), .ref (gr g h0 4), .ref (gr g h0 5), .ref (gr g h0 6), .ref (gr g h0 7), .ref (gr g h0 8), .ref (gr g h0 9), .ref (gr g h0 10), .int x_2]) := Kp.at kc_20 i_h0 (by decide) k_1
    have kp_23 := Kp.call hk0 kc_20 (by decide)
    generalize H1 = H at hI hS ⊢
    refine W.widen (k := 0) (n := 0) (Nat.le_of_ble_eq_true rfl) (Nat.le_of_ble_eq_true rfl) ?_
    refine lv_iconst (v := (-1)) hx hb dX11_ahead_21 (by decide) ?_
    refine lv_istore_n (lv' := [(2, .int (-1)), (0, .ref h0), (1, .int p1)]) hx hb dX11_ahead_22 rfl hl (by decide) rfl (fun ls hl => ?_)
    refine lv_iconst (v := 0) hx hb dX11_ahead_23 (by decide) ?_
    refine lv_istore_n (lv' := [(3, .int 0), (2, .int (-1)), (0, .ref h0), (1, .int p1)]) hx hb dX11_ahead_24 rfl hl (by decide) rfl (fun ls hl => ?_)
    have K_25 : ∀ (nn : Nat) (y_24 : Int32) (y_25 : Int32) (f_26 : Nat → va_E) (H : Heap) (locs : List Loc) (ls : Array Slot), (p1.toInt - y_24.toInt).toNat < nn → Iv dC dI g A f_26 H → va_S A s.heap H locs → f_26 h0 = .inr (11, [.ref (gr g h0 0), .ref (gr g h0 1), .ref (gr g h0 2), .ref (gr g h0 3), .ref (gr g h0 4), .ref (gr g h0 5), .ref (gr g h0 6), .ref (gr g h0 7), .ref (gr g h0 8), .ref (gr g h0 9), .ref (gr g h0 10), .int x_2]) → Kp g [0, 5, 6, 8, 10, 23, 24] f f_26 → lv_has ls 4 [(3, .int y_24), (2, .int y_25), (0, .ref h0), (1, .int p1)] → W p l e (headSpec wq_c_X11_ahead ({ frames := 6, cells := 0, slots := 0, locals := 139 } : Room)).room s m ([.ref h0, .int p1].toArray) below meth c H locs 0 0 (MQ below (va_Qi (fun (r : Int32) (_ : Unit) => True) (fun (_ : Unit) t => ∃ f1 : Nat → va_E, Iv dC dI g A f1 t.heap ∧ Kp g [0, 5, 6, 8, 10, 23, 24] f f1) A) ([.ref h0, .int p1].toArray) s 0 0 A) (F0 m 25 ls []) := by
      intro nn
      induction nn with
      | zero => intro y_24 y_25 f_26 H locs ls m_29; exact absurd m_29 (Nat.not_lt_zero _)
      | succ nn ih =>
        intro y_24 y_25 f_26 H locs ls m_29 hI hS k_27 kp_28 hl
        have g_30 := Int32.toInt_lt p1
        have g_31 := Int32.le_toInt p1
        have g_32 := Int32.toInt_lt y_24
        have g_33 := Int32.le_toInt y_24
        refine lv_iload_n hx hb dX11_ahead_25 rfl (lv_at hl 0 rfl) ?_
        refine lv_iload_n hx hb dX11_ahead_26 rfl (lv_at hl 3 rfl) ?_
        refine lv_icmp_ge (tgt := 48) hx hb dX11_ahead_27 (by decide) (fun c_34 => ?_) (fun c_34 => ?_)
        · have c_34 := kc_le rfl rfl c_34
          refine lv_iload_n hx hb dX11_ahead_48 rfl (lv_at hl 1 rfl) ?_
          exact W.iret (v := y_25) hx hb hr (fun t ht hW => ⟨⟨y_25, (), rfl, trivial, ⟨f_26, k_ret ht hI, kp_28⟩⟩, hS.F ht⟩) hS.2.2 dX11_ahead_49
        · have c_34 := kn_le rfl rfl c_34
          refine lv_aload_n hx hb dX11_ahead_30 rfl (lv_at hl 2 rfl) ?_
          refine k_get (ci := 11) (v := .ref (gr g h0 4)) (C := RX11) (T := TX11) (N := 12) hx hb hts (fun _ h0_ => List.mem_cons_of_mem _ (List.mem_append_right _ (List.mem_append_right _ (List.mem_append_left _ h0_)))) hown hK hI i_h0.1 k_27 rfl 4 (by decide) (hts (.fieldLink RX11 41 "DeadlineShare" "paper" "LDeadlineShare$State;") (List.mem_cons_of_mem _ (List.mem_append_left _ (List.mem_of_getElem? (i := 4) rfl)))) (fun _ h9 => h9) rfl dX11_ahead_31 ?_
          refine lv_aload_n hx hb dX11_ahead_34 rfl (lv_at hl 2 rfl) ?_
          refine k_get (ci := 11) (v := .ref (gr g h0 5)) (C := RX11) (T := TX11) (N := 12) hx hb hts (fun _ h0_ => List.mem_cons_of_mem _ (List.mem_append_right _ (List.mem_append_right _ (List.mem_append_left _ h0_)))) hown hK hI i_h0.1 k_27 rfl 5 (by decide) (hts (.fieldLink RX11 47 "DeadlineShare" "asTold" "LDeadlineShare$Chooser;") (List.mem_cons_of_mem _ (List.mem_append_left _ (List.mem_of_getElem? (i := 10) rfl)))) (fun _ h9 => h9) rfl dX11_ahead_35 ?_
          have i_38 := kw_11_5 hG i_h0
          obtain ⟨x_40, x_41, x_42, x_43, x_44, k_39, b_45, b_46⟩ := op_6 hI i_7
          refine va_calli (va_runV (As := [.ref (gr g h0 5)]) (rest := []) ⟨hx, hb, hml, hown, hts⟩ (c_X6_tick l dC dI g A hG f_26 (gr g h0 4) (gr g h0 5) i_7 i_38) (cwV 1 hts (gi_V (fun w_ h0_ => ⟨List.mem_cons_of_mem _ (List.mem_append_right _ (List.mem_append_right _ (List.mem_append_right _ (List.mem_append_right _ (List.mem_append_left _ h0_))))), (tb_c_X6_tick w_ h0_).2⟩) (List.mem_cons_of_mem _ (List.mem_append_left _ (List.mem_of_getElem? (i := 11) rfl))) (List.mem_cons_of_mem _ (List.mem_append_left _ (List.mem_of_getElem? (i := 12) rfl))) (List.mem_cons_of_mem _ (List.mem_append_left _ (List.mem_of_getElem? (i := 13) rfl))) (List.mem_cons_of_mem _ (List.mem_append_left _ (List.mem_of_getElem? (i := 9) rfl)))) rfl rfl rfl (by decide +kernel) ⟨Nat.le_of_ble_eq_true rfl, Nat.le_of_ble_eq_true rfl⟩) ⟨fun a U g mk q => ⟨q.1, q.2.calling rfl rfl⟩, k_recv hK hI i_7.1 k_39 (ci := 6) rfl, fun U hU hW => ⟨rfl, kIn.of hI hK hE hS hU hW⟩⟩ rfl rfl hl.1 rfl (lv_room (Nat.le_of_ble_eq_true rfl)) dX11_ahead_38 ⟨Nat.le_of_ble_eq_true rfl, Nat.le_of_ble_eq_true rfl⟩) hS (fun q _ h => h) (fun q h => h) (fun r_49 u t H1 locs ht hvm w_48 hB hz1 hk1 hS => ?_)
          obtain ⟨f_47, hI, kc_50⟩ := hB
          rw [ht] at hI
          have k_52 : f_47 h0 = .inr (11, [.ref (gr g h0 0), .ref (gr g h0 1), .ref (gr g h0 2), .ref (gr g h0 3), .ref (gr g h0 4), .ref (gr g h0 5), .ref (gr g h0 6), .ref (gr g h0 7), .ref (gr g h0 8), .ref (gr g h0 9), .ref (gr g h0 10), .int x_2]) := Kp.at kc_50 i_h0 (by decide) k_27
          have kp_53 := Kp.call kp_28 kc_50 (by decide)
          generalize H1 = H at hI hS ⊢
          refine W.widen (k := 0) (n := 0) (Nat.le_of_ble_eq_true rfl) (Nat.le_of_ble_eq_true rfl) ?_
          refine lv_istore_n (lv' := [(2, .int r_49), (3, .int y_24), (0, .ref h0), (1, .int p1)]) hx hb dX11_ahead_41 rfl hl (by decide) rfl (fun ls hl => ?_)
          obtain ⟨v_54, ev_54⟩ : ∃ y : Int32, y = y_24 + Int32.ofInt 1 := ⟨_, rfl⟩
          refine lv_iinc (v := v_54) (lv' := [(3, .int v_54), (2, .int r_49), (0, .ref h0), (1, .int p1)]) hx hb dX11_ahead_42 hl (k := 1) rfl ev_54.symm (by decide) rfl (fun ls hl => ?_)
          have tv_54 := k_inc y_24
          rw [← ev_54] at tv_54
          refine lv_goto (tgt := 25) hx hb dX11_ahead_45 (by decide) ?_
          exact ih v_54 r_49 f_47 _ _ _ (by omega) hI hS k_52 kp_53 (lv_sub hl [0, 1, 2, 3] rfl)
    exact K_25 _ 0 (-1) f_18 _ _ _ (Nat.lt_succ_self _) hI hS k_22 kp_23 (lv_sub hl [0, 1, 2, 3] rfl)
  · have c_5 := kc_eq rfl (by decide : Int32.toInt 0 = 0) c_5
    refine lv_iconst (v := (-1)) hx hb dX11_ahead_8 (by decide) ?_
    exact W.iret (v := (-1)) hx hb hr (fun t ht hW => ⟨⟨(-1), (), rfl, trivial, ⟨f, k_ret ht hI, hk0⟩⟩, hS.F ht⟩) hS.2.2 dX11_ahead_9
theorem tw_594 : q_g (.methodLink RX11 216 yX5_isThere) := ⟨(List.mem_append_right _ (List.mem_of_getElem? (i := 755) (by decide +kernel))), good_of_word (by decide +kernel)⟩
theorem tw_595 : q_g (.code yX11_finish cX11_finish 4 (some .int)) := ⟨(List.mem_append_right _ (List.mem_of_getElem? (i := 1033) (by decide +kernel))), good_of_word (by decide +kernel)⟩
def ow_c_X11_finish : List Cond := [.fieldLink RX11 37 "DeadlineShare" "now" "LDeadlineShare$State;", .methodLink RX11 130 yX6_has, .instanceMethod yX6_has, .selects RX6 yX6_has yX6_has, .initialized RX6, .fieldLink RX11 133 "DeadlineShare$State" "tasks" "[LDeadlineShare$Task;", .fieldLink RX11 166 "DeadlineShare$Task" "script" "LDeadlineShare$Script;", .methodLink RX11 216 yX5_isThere, .instanceMethod yX5_isThere, .selects RX5 yX5_isThere yX5_isThere, .initialized RX5, .fieldLink RX11 41 "DeadlineShare" "paper" "LDeadlineShare$State;", .methodLink RX11 238 yX6_copy, .instanceMethod yX6_copy, .selects RX6 yX6_copy yX6_copy, .fieldLink RX11 223 "DeadlineShare$State" "time" "I", .fieldLink RX11 47 "DeadlineShare" "asTold" "LDeadlineShare$Chooser;", .methodLink RX11 226 yX6_tick, .instanceMethod yX6_tick, .selects RX6 yX6_tick yX6_tick]
def wq_c_X11_finish : List Cond := .code yX11_finish cX11_finish 4 (some .int) :: (ow_c_X11_finish ++ (u_ws RX11 TX11 12 ++ (wq_c_X6_has ++ (u_ws RX6 TX6 10 ++ (u_ws RX8 TX8 18 ++ (wq_c_X5_isThere ++ (wq_c_X6_copy ++ (wq_c_X6_tick ++ ([] : List Cond)))))))))
theorem tb_c_X11_finish : ∀ w ∈ wq_c_X11_finish, q_g w := by
  unfold wq_c_X11_finish ow_c_X11_finish
  exact q_cons tw_595 (q_app (q_cons tw_479 (q_cons tw_492 (q_cons tw_74 (q_cons tw_73 (q_cons tw_47 (q_cons tw_491 (q_cons tw_496 (q_cons tw_594 (q_cons tw_268 (q_cons tw_267 (q_cons tw_133 (q_cons tw_589 (q_cons tw_532 (q_cons tw_160 (q_cons tw_159 (q_cons tw_523 (q_cons tw_522 (q_cons tw_521 (q_cons tw_520 (q_cons tw_519 q_nil)))))))))))))))))))) (q_app tu_X11 (q_app tb_c_X6_has (q_app tu_X6 (q_app tu_X8 (q_app tb_c_X5_isThere (q_app tb_c_X6_copy (q_app tb_c_X6_tick q_nil))))))))
set_option maxHeartbeats 4000000 in
set_option maxRecDepth 100000 in
theorem c_X11_finish (l : Launch) (dC : Nat → ClassId) (dI : Nat → Nat → Nat) (g : kG) (A : Nat → Prop) (hG : kWf g) (f : Nat → va_E) (h0 : Nat) (p1 : Int32) (i_h0 : ik g 11 h0) : Met l yX11_finish wq_c_X11_finish ({ frames := 6, cells := 0, slots := 0, locals := 139 } : Room) (va_Pc [.ref h0, .int p1] (fun U => kIn dC dI g A f U)) (va_Qi (fun (r : Int32) (_ : Unit) => True) (fun (_ : Unit) t => ∃ f1 : Nat → va_E, Iv dC dI g A f1 t.heap ∧ Kp g [0, 5, 6, 8, 10, 23, 24] f f1) A) 0 0 A := by
  refine Met.ofW (cc := cX11_finish) (maxL := 4) (ret := (some .int)) (by decide) rfl ?_
  intro p e s m args below meth c s₁ B hml hv
  obtain ⟨rfl, hI, hK, hE⟩ := hv
  have hx := B.exec
  have hb := B.bytes
  have hr := B.returns
  have hts := atoms_spec (ws := wq_c_X11_finish) B.pre
  have hown : s.vm.findClass RX11 = some m.cls := findClass_of_methodNamed B.named
  have hlocks := B.notSynchronized
  have hS : va_S A s.heap s.heap [] := va_S.rf
  have hk0 : Kp g [0, 5, 6, 8, 10, 23, 24] f f := Kp.rf
  have hl := lv_entry ([.ref h0, .int p1]) (n := 4) (Nat.le_of_ble_eq_true rfl)
  rw [lg_entry_eq]
  generalize (lg_sl ([.ref h0, .int p1]) ++ List.replicate (4 - (lg_sl ([.ref h0, .int p1])).length) Slot.unset).toArray = ls at hl ⊢
  have hl : lv_has ls 4 [(0, .ref h0), (1, .int p1)] := hl
  refine lv_aload_n hx hb dX11_finish_0 rfl (lv_at hl 0 rfl) ?_
  obtain ⟨x_2, k_1⟩ := op_11 hI i_h0
  refine k_get (ci := 11) (v := .ref (gr g h0 3)) (C := RX11) (T := TX11) (N := 12) hx hb hts (fun _ h0_ => List.mem_cons_of_mem _ (List.mem_append_right _ (List.mem_append_left _ h0_))) hown hK hI i_h0.1 k_1 rfl 3 (by decide) (hts (.fieldLink RX11 37 "DeadlineShare" "now" "LDeadlineShare$State;") (List.mem_cons_of_mem _ (List.mem_append_left _ (List.mem_of_getElem? (i := 0) rfl)))) (fun _ h9 => h9) rfl dX11_finish_1 ?_
  have i_4 := kw_11_3 hG i_h0
  refine lv_iload_n hx hb dX11_finish_4 rfl (lv_at hl 1 rfl) ?_
  obtain ⟨x_6, x_7, x_8, x_9, x_10, k_5, b_11, b_12⟩ := op_6 hI i_4
  refine va_calli (va_runV (As := [.int p1]) (rest := []) ⟨hx, hb, hml, hown, hts⟩ (c_X6_has l dC dI g A hG f (gr g h0 3) p1 i_4) (cwV 1 hts (gi_V (fun w_ h0_ => ⟨List.mem_cons_of_mem _ (List.mem_append_right _ (List.mem_append_right _ (List.mem_append_left _ h0_))), (tb_c_X6_has w_ h0_).2⟩) (List.mem_cons_of_mem _ (List.mem_append_left _ (List.mem_of_getElem? (i := 1) rfl))) (List.mem_cons_of_mem _ (List.mem_append_left _ (List.mem_of_getElem? (i := 2) rfl))) (List.mem_cons_of_mem _ (List.mem_append_left _ (List.mem_of_getElem? (i := 3) rfl))) (List.mem_cons_of_mem _ (List.mem_append_left _ (List.mem_of_getElem? (i := 4) rfl)))) rfl rfl rfl (by decide +kernel) ⟨Nat.le_of_ble_eq_true rfl, Nat.le_of_ble_eq_true rfl⟩) ⟨fun a U g mk q => ⟨q.1, q.2.calling rfl rfl⟩, k_recv hK hI i_4.1 k_5 (ci := 6) rfl, fun U hU hW => ⟨rfl, kIn.of hI hK hE hS hU hW⟩⟩ rfl rfl hl.1 rfl (lv_room (Nat.le_of_ble_eq_true rfl)) dX11_finish_5 ⟨Nat.le_of_ble_eq_true rfl, Nat.le_of_ble_eq_true rfl⟩) hS (fun q _ h => h) (fun q h => h) (fun r_14 u t H1 locs ht hvm w_13 hB hz1 hk1 hS => ?_)
  have hI : Iv dC dI g A f t.heap := hB
  rw [ht] at hI
  generalize H1 = H at hI hS ⊢
  refine W.widen (k := 0) (n := 0) (Nat.le_of_ble_eq_true rfl) (Nat.le_of_ble_eq_true rfl) ?_
  have w_13 : r_14.toInt = 0 ∨ (0 ≤ p1.toInt ∧ p1.toInt < 12) := w_13
  refine lv_if_eq (tgt := 29) hx hb dX11_finish_8 (by decide) (fun c_15 => ?_) (fun c_15 => ?_)
  · have c_15 := kc_eq rfl (by decide : Int32.toInt 0 = 0) c_15
    refine lv_iconst (v := (-1)) hx hb dX11_finish_29 (by decide) ?_
    exact W.iret (v := (-1)) hx hb hr (fun t ht hW => ⟨⟨(-1), (), rfl, trivial, ⟨f, k_ret ht hI, hk0⟩⟩, hS.F ht⟩) hS.2.2 dX11_finish_30
  · have c_15 := kn_eq rfl (by decide : Int32.toInt 0 = 0) c_15
    refine lv_aload_n hx hb dX11_finish_11 rfl (lv_at hl 0 rfl) ?_
    refine k_get (ci := 11) (v := .ref (gr g h0 3)) (C := RX11) (T := TX11) (N := 12) hx hb hts (fun _ h0_ => List.mem_cons_of_mem _ (List.mem_append_right _ (List.mem_append_left _ h0_))) hown hK hI i_h0.1 k_1 rfl 3 (by decide) (hts (.fieldLink RX11 37 "DeadlineShare" "now" "LDeadlineShare$State;") (List.mem_cons_of_mem _ (List.mem_append_left _ (List.mem_of_getElem? (i := 0) rfl)))) (fun _ h9 => h9) rfl dX11_finish_12 ?_
    refine k_get (ci := 6) (v := .ref (gr g (gr g h0 3) 1)) (C := RX6) (T := TX6) (N := 10) hx hb hts (fun _ h0_ => List.mem_cons_of_mem _ (List.mem_append_right _ (List.mem_append_right _ (List.mem_append_right _ (List.mem_append_left _ h0_))))) hown hK hI i_4.1 k_5 rfl 1 (by decide) (hts (.fieldLink RX11 133 "DeadlineShare$State" "tasks" "[LDeadlineShare$Task;") (List.mem_cons_of_mem _ (List.mem_append_left _ (List.mem_of_getElem? (i := 5) rfl)))) (fun _ h9 => h9) rfl dX11_finish_15 ?_
    have i_19 := kw_6_1 hG i_4
    refine lv_iload_n hx hb dX11_finish_18 rfl (lv_at hl 1 rfl) ?_
    obtain ⟨q_21, k_20, b_22⟩ := op_20 hI i_19
    refine k_aald hx hb hK hI i_19.1 4 k_20 rfl (vp_in_iff.mpr (by omega)) b_22 (fun _ hj => kw_20 hG i_19 hj) dX11_finish_19 (fun a_23 i_24 => ?_)
    obtain ⟨x_26, x_27, x_28, x_29, x_30, x_31, x_32, x_33, x_34, x_35, x_36, x_37, x_38, x_39, x_40, x_41, k_25⟩ := op_8 hI i_24
    refine k_get (ci := 8) (v := .ref (gr g a_23 1)) (C := RX8) (T := TX8) (N := 18) hx hb hts (fun _ h0_ => List.mem_cons_of_mem _ (List.mem_append_right _ (List.mem_append_right _ (List.mem_append_right _ (List.mem_append_right _ (List.mem_append_left _ h0_)))))) hown hK hI i_24.1 k_25 rfl 1 (by decide) (hts (.fieldLink RX11 166 "DeadlineShare$Task" "script" "LDeadlineShare$Script;") (List.mem_cons_of_mem _ (List.mem_append_left _ (List.mem_of_getElem? (i := 6) rfl)))) (fun _ h9 => h9) rfl dX11_finish_20 ?_
    have i_43 := kw_8_1 hG i_24
    obtain ⟨x_45, x_46, x_47, x_48, k_44, b_49, b_50⟩ := op_5 hI i_43
    refine va_calli (va_runV (As := []) (rest := []) ⟨hx, hb, hml, hown, hts⟩ (c_X5_isThere l dC dI g A hG f (gr g a_23 1) i_43) (cwV 0 hts (gi_V (fun w_ h0_ => ⟨List.mem_cons_of_mem _ (List.mem_append_right _ (List.mem_append_right _ (List.mem_append_right _ (List.mem_append_right _ (List.mem_append_right _ (List.mem_append_left _ h0_)))))), (tb_c_X5_isThere w_ h0_).2⟩) (List.mem_cons_of_mem _ (List.mem_append_left _ (List.mem_of_getElem? (i := 7) rfl))) (List.mem_cons_of_mem _ (List.mem_append_left _ (List.mem_of_getElem? (i := 8) rfl))) (List.mem_cons_of_mem _ (List.mem_append_left _ (List.mem_of_getElem? (i := 9) rfl))) (List.mem_cons_of_mem _ (List.mem_append_left _ (List.mem_of_getElem? (i := 10) rfl)))) rfl rfl rfl (by decide +kernel) ⟨Nat.le_of_ble_eq_true rfl, Nat.le_of_ble_eq_true rfl⟩) ⟨fun a U g mk q => ⟨q.1, q.2.calling rfl rfl⟩, k_recv hK hI i_43.1 k_44 (ci := 5) rfl, fun U hU hW => ⟨rfl, kIn.of hI hK hE hS hU hW⟩⟩ rfl rfl hl.1 rfl (lv_room (Nat.le_of_ble_eq_true rfl)) dX11_finish_23 ⟨Nat.le_of_ble_eq_true rfl, Nat.le_of_ble_eq_true rfl⟩) hS (fun q _ h => h) (fun q h => h) (fun r_52 u t H1 locs ht hvm w_51 hB hz1 hk1 hS => ?_)
    have hI : Iv dC dI g A f t.heap := hB
    rw [ht] at hI
    generalize H1 = H at hI hS ⊢
    refine W.widen (k := 0) (n := 0) (Nat.le_of_ble_eq_true rfl) (Nat.le_of_ble_eq_true rfl) ?_
    refine lv_if_ne (tgt := 31) hx hb dX11_finish_26 (by decide) (fun c_53 => ?_) (fun c_53 => ?_)
    · have c_53 := kn_eq rfl (by decide : Int32.toInt 0 = 0) c_53
      refine lv_aload_n hx hb dX11_finish_31 rfl (lv_at hl 0 rfl) ?_
      refine k_get (ci := 11) (v := .ref (gr g h0 4)) (C := RX11) (T := TX11) (N := 12) hx hb hts (fun _ h0_ => List.mem_cons_of_mem _ (List.mem_append_right _ (List.mem_append_left _ h0_))) hown hK hI i_h0.1 k_1 rfl 4 (by decide) (hts (.fieldLink RX11 41 "DeadlineShare" "paper" "LDeadlineShare$State;") (List.mem_cons_of_mem _ (List.mem_append_left _ (List.mem_of_getElem? (i := 11) rfl)))) (fun _ h9 => h9) rfl dX11_finish_32 ?_
      have i_55 := kw_11_4 hG i_h0
      refine lv_aload_n hx hb dX11_finish_35 rfl (lv_at hl 0 rfl) ?_
      refine k_get (ci := 11) (v := .ref (gr g h0 3)) (C := RX11) (T := TX11) (N := 12) hx hb hts (fun _ h0_ => List.mem_cons_of_mem _ (List.mem_append_right _ (List.mem_append_left _ h0_))) hown hK hI i_h0.1 k_1 rfl 3 (by decide) (hts (.fieldLink RX11 37 "DeadlineShare" "now" "LDeadlineShare$State;") (List.mem_cons_of_mem _ (List.mem_append_left _ (List.mem_of_getElem? (i := 0) rfl)))) (fun _ h9 => h9) rfl dX11_finish_36 ?_
      obtain ⟨x_59, x_60, x_61, x_62, x_63, k_58, b_64, b_65⟩ := op_6 hI i_55
      refine va_callv (va_runV (As := [.ref (gr g h0 3)]) (rest := []) ⟨hx, hb, hml, hown, hts⟩ (c_X6_copy l dC dI g A hG f (gr g h0 4) (gr g h0 3) i_55 i_4) (cwV 1 hts (gi_V (fun w_ h0_ => ⟨List.mem_cons_of_mem _ (List.mem_append_right _ (List.mem_append_right _ (List.mem_append_right _ (List.mem_append_right _ (List.mem_append_right _ (List.mem_append_right _ (List.mem_append_left _ h0_))))))), (tb_c_X6_copy w_ h0_).2⟩) (List.mem_cons_of_mem _ (List.mem_append_left _ (List.mem_of_getElem? (i := 12) rfl))) (List.mem_cons_of_mem _ (List.mem_append_left _ (List.mem_of_getElem? (i := 13) rfl))) (List.mem_cons_of_mem _ (List.mem_append_left _ (List.mem_of_getElem? (i := 14) rfl))) (List.mem_cons_of_mem _ (List.mem_append_left _ (List.mem_of_getElem? (i := 4) rfl)))) rfl rfl rfl (by decide +kernel) ⟨Nat.le_of_ble_eq_true rfl, Nat.le_of_ble_eq_true rfl⟩) ⟨fun a U g mk q => ⟨q.1, q.2.calling rfl rfl⟩, k_recv hK hI i_55.1 k_58 (ci := 6) rfl, fun U hU hW => ⟨rfl, kIn.of hI hK hE hS hU hW⟩⟩ rfl rfl hl.1 rfl (lv_room (Nat.le_of_ble_eq_true rfl)) dX11_finish_39 ⟨Nat.le_of_ble_eq_true rfl, Nat.le_of_ble_eq_true rfl⟩) hS (fun q _ h => h) (fun q h => h) (fun u t H1 locs ht hvm _ hB hz1 hk1 hS => ?_)
      obtain ⟨f_66, hI, kc_68⟩ := hB
      rw [ht] at hI
      have k_70 : f_66 h0 = .inr (11, [.ref (gr g h0 0), .ref (gr g h0 1), .ref (gr g h0 2), .ref (gr g h0 3), .ref (gr g h0 4), .ref (gr g h0 5), .ref (gr g h0 6), .ref (gr g h0 7), .ref (gr g h0 8), .ref (gr g h0 9), .ref (gr g h0 10), .int x_2]) := Kp.at kc_68 i_h0 (by decide) k_1
      have k_71 : f_66 (gr g (gr g h0 3) 1) = .inl (gc g 4, 12, .inr (.inr (.inr (.inr q_21)))) := Kp.at kc_68 i_19 (by decide) k_20
      have kp_72 := Kp.call hk0 kc_68 (by decide)
      generalize H1 = H at hI hS ⊢
      refine W.widen (k := 0) (n := 0) (Nat.le_of_ble_eq_true rfl) (Nat.le_of_ble_eq_true rfl) ?_
      refine lv_aload_n hx hb dX11_finish_42 rfl (lv_at hl 0 rfl) ?_
      refine k_get (ci := 11) (v := .ref (gr g h0 4)) (C := RX11) (T := TX11) (N := 12) hx hb hts (fun _ h0_ => List.mem_cons_of_mem _ (List.mem_append_right _ (List.mem_append_left _ h0_))) hown hK hI i_h0.1 k_70 rfl 4 (by decide) (hts (.fieldLink RX11 41 "DeadlineShare" "paper" "LDeadlineShare$State;") (List.mem_cons_of_mem _ (List.mem_append_left _ (List.mem_of_getElem? (i := 11) rfl)))) (fun _ h9 => h9) rfl dX11_finish_43 ?_
      obtain ⟨x_76, x_77, x_78, x_79, x_80, k_75, b_81, b_82⟩ := op_6 hI i_55
      refine k_get (ci := 6) (v := .ref (gr g (gr g h0 4) 1)) (C := RX6) (T := TX6) (N := 10) hx hb hts (fun _ h0_ => List.mem_cons_of_mem _ (List.mem_append_right _ (List.mem_append_right _ (List.mem_append_right _ (List.mem_append_left _ h0_))))) hown hK hI i_55.1 k_75 rfl 1 (by decide) (hts (.fieldLink RX11 133 "DeadlineShare$State" "tasks" "[LDeadlineShare$Task;") (List.mem_cons_of_mem _ (List.mem_append_left _ (List.mem_of_getElem? (i := 5) rfl)))) (fun _ h9 => h9) rfl dX11_finish_46 ?_
      have i_84 := kw_6_1 hG i_55
      refine lv_iload_n hx hb dX11_finish_49 rfl (lv_at hl 1 rfl) ?_
      obtain ⟨q_86, k_85, b_87⟩ := op_20 hI i_84
      refine k_aald hx hb hK hI i_84.1 4 k_85 rfl (vp_in_iff.mpr (by omega)) b_87 (fun _ hj => kw_20 hG i_84 hj) dX11_finish_50 (fun a_88 i_89 => ?_)
      obtain ⟨x_91, x_92, x_93, x_94, x_95, x_96, x_97, x_98, x_99, x_100, x_101, x_102, x_103, x_104, x_105, x_106, k_90⟩ := op_8 hI i_89
      refine k_get (ci := 8) (v := .ref (gr g a_88 1)) (C := RX8) (T := TX8) (N := 18) hx hb hts (fun _ h0_ => List.mem_cons_of_mem _ (List.mem_append_right _ (List.mem_append_right _ (List.mem_append_right _ (List.mem_append_right _ (List.mem_append_left _ h0_)))))) hown hK hI i_89.1 k_90 rfl 1 (by decide) (hts (.fieldLink RX11 166 "DeadlineShare$Task" "script" "LDeadlineShare$Script;") (List.mem_cons_of_mem _ (List.mem_append_left _ (List.mem_of_getElem? (i := 6) rfl)))) (fun _ h9 => h9) rfl dX11_finish_51 ?_
      have i_108 := kw_8_1 hG i_89
      refine lv_astore_n (lv' := [(2, .ref (gr g a_88 1)), (0, .ref h0), (1, .int p1)]) hx hb dX11_finish_54 rfl hl (by decide) rfl (fun ls hl => ?_)
      refine lv_iconst (v := 1) hx hb dX11_finish_55 (by decide) ?_
      refine lv_istore_n (lv' := [(3, .int 1), (2, .ref (gr g a_88 1)), (0, .ref h0), (1, .int p1)]) hx hb dX11_finish_56 rfl hl (by decide) rfl (fun ls hl => ?_)
      have K_57 : ∀ (nn : Nat) (y_109 : Int32) (f_110 : Nat → va_E) (H : Heap) (locs : List Loc) (ls : Array Slot), (501 - y_109.toInt).toNat < nn → Iv dC dI g A f_110 H → va_S A s.heap H locs → f_110 h0 = .inr (11, [.ref (gr g h0 0), .ref (gr g h0 1), .ref (gr g h0 2), .ref (gr g h0 3), .ref (gr g h0 4), .ref (gr g h0 5), .ref (gr g h0 6), .ref (gr g h0 7), .ref (gr g h0 8), .ref (gr g h0 9), .ref (gr g h0 10), .int x_2]) → f_110 (gr g (gr g h0 3) 1) = .inl (gc g 4, 12, .inr (.inr (.inr (.inr q_21)))) → f_110 (gr g (gr g h0 4) 1) = .inl (gc g 4, 12, .inr (.inr (.inr (.inr q_86)))) → Kp g [0, 5, 6, 8, 10, 23, 24] f f_110 → 0 ≤ y_109.toInt → lv_has ls 4 [(3, .int y_109), (2, .ref (gr g a_88 1)), (0, .ref h0), (1, .int p1)] → W p l e (headSpec wq_c_X11_finish ({ frames := 6, cells := 0, slots := 0, locals := 139 } : Room)).room s m ([.ref h0, .int p1].toArray) below meth c H locs 0 0 (MQ below (va_Qi (fun (r : Int32) (_ : Unit) => True) (fun (_ : Unit) t => ∃ f1 : Nat → va_E, Iv dC dI g A f1 t.heap ∧ Kp g [0, 5, 6, 8, 10, 23, 24] f f1) A) ([.ref h0, .int p1].toArray) s 0 0 A) (F0 m 57 ls []) := by
        intro nn
        induction nn with
        | zero => intro y_109 f_110 H locs ls m_116; exact absurd m_116 (Nat.not_lt_zero _)
        | succ nn ih =>
          intro y_109 f_110 H locs ls m_116 hI hS k_111 k_112 k_113 kp_114 t_115 hl
          have g_117 := Int32.toInt_lt y_109
          have g_118 := Int32.le_toInt y_109
          refine lv_iload_n hx hb dX11_finish_57 rfl (lv_at hl 0 rfl) ?_
          refine lv_sipush (v := 500) hx hb dX11_finish_58 (by decide) ?_
          refine lv_icmp_gt (tgt := 104) hx hb dX11_finish_61 (by decide) (fun c_119 => ?_) (fun c_119 => ?_)
          · have c_119 := kc_lt (by decide : Int32.toInt 500 = 500) rfl c_119
            refine lv_iconst (v := (-1)) hx hb dX11_finish_104 (by decide) ?_
            exact W.iret (v := (-1)) hx hb hr (fun t ht hW => ⟨⟨(-1), (), rfl, trivial, ⟨f_110, k_ret ht hI, kp_114⟩⟩, hS.F ht⟩) hS.2.2 dX11_finish_105
          · have c_119 := kn_lt (by decide : Int32.toInt 500 = 500) rfl c_119
            refine lv_aload_n hx hb dX11_finish_64 rfl (lv_at hl 2 rfl) ?_
            refine k_get (ci := 11) (v := .ref (gr g h0 4)) (C := RX11) (T := TX11) (N := 12) hx hb hts (fun _ h0_ => List.mem_cons_of_mem _ (List.mem_append_right _ (List.mem_append_left _ h0_))) hown hK hI i_h0.1 k_111 rfl 4 (by decide) (hts (.fieldLink RX11 41 "DeadlineShare" "paper" "LDeadlineShare$State;") (List.mem_cons_of_mem _ (List.mem_append_left _ (List.mem_of_getElem? (i := 11) rfl)))) (fun _ h9 => h9) rfl dX11_finish_65 ?_
            obtain ⟨x_123, x_124, x_125, x_126, x_127, k_122, b_128, b_129⟩ := op_6 hI i_55
            refine k_get (ci := 6) (v := .int x_124) (C := RX6) (T := TX6) (N := 10) hx hb hts (fun _ h0_ => List.mem_cons_of_mem _ (List.mem_append_right _ (List.mem_append_right _ (List.mem_append_right _ (List.mem_append_left _ h0_))))) hown hK hI i_55.1 k_122 rfl 6 (by decide) (hts (.fieldLink RX11 223 "DeadlineShare$State" "time" "I") (List.mem_cons_of_mem _ (List.mem_append_left _ (List.mem_of_getElem? (i := 15) rfl)))) (fun _ h9 => h9) rfl dX11_finish_68 ?_
            refine lv_sipush (v := 9999) hx hb dX11_finish_71 (by decide) ?_
            refine lv_icmp_ge (tgt := 104) hx hb dX11_finish_74 (by decide) (fun c_130 => ?_) (fun c_130 => ?_)
            · have c_130 := kc_le (by decide : Int32.toInt 9999 = 9999) rfl c_130
              refine lv_iconst (v := (-1)) hx hb dX11_finish_104 (by decide) ?_
              exact W.iret (v := (-1)) hx hb hr (fun t ht hW => ⟨⟨(-1), (), rfl, trivial, ⟨f_110, k_ret ht hI, kp_114⟩⟩, hS.F ht⟩) hS.2.2 dX11_finish_105
            · have c_130 := kn_le (by decide : Int32.toInt 9999 = 9999) rfl c_130
              refine lv_aload_n hx hb dX11_finish_77 rfl (lv_at hl 2 rfl) ?_
              refine k_get (ci := 11) (v := .ref (gr g h0 4)) (C := RX11) (T := TX11) (N := 12) hx hb hts (fun _ h0_ => List.mem_cons_of_mem _ (List.mem_append_right _ (List.mem_append_left _ h0_))) hown hK hI i_h0.1 k_111 rfl 4 (by decide) (hts (.fieldLink RX11 41 "DeadlineShare" "paper" "LDeadlineShare$State;") (List.mem_cons_of_mem _ (List.mem_append_left _ (List.mem_of_getElem? (i := 11) rfl)))) (fun _ h9 => h9) rfl dX11_finish_78 ?_
              refine lv_aload_n hx hb dX11_finish_81 rfl (lv_at hl 2 rfl) ?_
              refine k_get (ci := 11) (v := .ref (gr g h0 5)) (C := RX11) (T := TX11) (N := 12) hx hb hts (fun _ h0_ => List.mem_cons_of_mem _ (List.mem_append_right _ (List.mem_append_left _ h0_))) hown hK hI i_h0.1 k_111 rfl 5 (by decide) (hts (.fieldLink RX11 47 "DeadlineShare" "asTold" "LDeadlineShare$Chooser;") (List.mem_cons_of_mem _ (List.mem_append_left _ (List.mem_of_getElem? (i := 16) rfl)))) (fun _ h9 => h9) rfl dX11_finish_82 ?_
              have i_134 := kw_11_5 hG i_h0
              refine va_calli (va_runV (As := [.ref (gr g h0 5)]) (rest := []) ⟨hx, hb, hml, hown, hts⟩ (c_X6_tick l dC dI g A hG f_110 (gr g h0 4) (gr g h0 5) i_55 i_134) (cwV 1 hts (gi_V (fun w_ h0_ => ⟨List.mem_cons_of_mem _ (List.mem_append_right _ (List.mem_append_right _ (List.mem_append_right _ (List.mem_append_right _ (List.mem_append_right _ (List.mem_append_right _ (List.mem_append_right _ (List.mem_append_left _ h0_)))))))), (tb_c_X6_tick w_ h0_).2⟩) (List.mem_cons_of_mem _ (List.mem_append_left _ (List.mem_of_getElem? (i := 17) rfl))) (List.mem_cons_of_mem _ (List.mem_append_left _ (List.mem_of_getElem? (i := 18) rfl))) (List.mem_cons_of_mem _ (List.mem_append_left _ (List.mem_of_getElem? (i := 19) rfl))) (List.mem_cons_of_mem _ (List.mem_append_left _ (List.mem_of_getElem? (i := 4) rfl)))) rfl rfl rfl (by decide +kernel) ⟨Nat.le_of_ble_eq_true rfl, Nat.le_of_ble_eq_true rfl⟩) ⟨fun a U g mk q => ⟨q.1, q.2.calling rfl rfl⟩, k_recv hK hI i_55.1 k_122 (ci := 6) rfl, fun U hU hW => ⟨rfl, kIn.of hI hK hE hS hU hW⟩⟩ rfl rfl hl.1 rfl (lv_room (Nat.le_of_ble_eq_true rfl)) dX11_finish_85 ⟨Nat.le_of_ble_eq_true rfl, Nat.le_of_ble_eq_true rfl⟩) hS (fun q _ h => h) (fun q h => h) (fun r_137 u t H1 locs ht hvm w_136 hB hz1 hk1 hS => ?_)
              obtain ⟨f_135, hI, kc_138⟩ := hB
              rw [ht] at hI
              have k_140 : f_135 h0 = .inr (11, [.ref (gr g h0 0), .ref (gr g h0 1), .ref (gr g h0 2), .ref (gr g h0 3), .ref (gr g h0 4), .ref (gr g h0 5), .ref (gr g h0 6), .ref (gr g h0 7), .ref (gr g h0 8), .ref (gr g h0 9), .ref (gr g h0 10), .int x_2]) := Kp.at kc_138 i_h0 (by decide) k_111
              have k_141 : f_135 (gr g (gr g h0 3) 1) = .inl (gc g 4, 12, .inr (.inr (.inr (.inr q_21)))) := Kp.at kc_138 i_19 (by decide) k_112
              have k_142 : f_135 (gr g (gr g h0 4) 1) = .inl (gc g 4, 12, .inr (.inr (.inr (.inr q_86)))) := Kp.at kc_138 i_84 (by decide) k_113
              have kp_143 := Kp.call kp_114 kc_138 (by decide)
              generalize H1 = H at hI hS ⊢
              refine W.widen (k := 0) (n := 0) (Nat.le_of_ble_eq_true rfl) (Nat.le_of_ble_eq_true rfl) ?_
              refine lv_pop hx hb dX11_finish_88 rfl ?_
              refine lv_aload_n hx hb dX11_finish_89 rfl (lv_at hl 1 rfl) ?_
              obtain ⟨x_145, x_146, x_147, x_148, k_144, b_149, b_150⟩ := op_5 hI i_108
              refine va_calli (va_runV (As := []) (rest := []) ⟨hx, hb, hml, hown, hts⟩ (c_X5_isThere l dC dI g A hG f_135 (gr g a_88 1) i_108) (cwV 0 hts (gi_V (fun w_ h0_ => ⟨List.mem_cons_of_mem _ (List.mem_append_right _ (List.mem_append_right _ (List.mem_append_right _ (List.mem_append_right _ (List.mem_append_right _ (List.mem_append_left _ h0_)))))), (tb_c_X5_isThere w_ h0_).2⟩) (List.mem_cons_of_mem _ (List.mem_append_left _ (List.mem_of_getElem? (i := 7) rfl))) (List.mem_cons_of_mem _ (List.mem_append_left _ (List.mem_of_getElem? (i := 8) rfl))) (List.mem_cons_of_mem _ (List.mem_append_left _ (List.mem_of_getElem? (i := 9) rfl))) (List.mem_cons_of_mem _ (List.mem_append_left _ (List.mem_of_getElem? (i := 10) rfl)))) rfl rfl rfl (by decide +kernel) ⟨Nat.le_of_ble_eq_true rfl, Nat.le_of_ble_eq_true rfl⟩) ⟨fun a U g mk q => ⟨q.1, q.2.calling rfl rfl⟩, k_recv hK hI i_108.1 k_144 (ci := 5) rfl, fun U hU hW => ⟨rfl, kIn.of hI hK hE hS hU hW⟩⟩ rfl rfl hl.1 rfl (lv_room (Nat.le_of_ble_eq_true rfl)) dX11_finish_90 ⟨Nat.le_of_ble_eq_true rfl, Nat.le_of_ble_eq_true rfl⟩) hS (fun q _ h => h) (fun q h => h) (fun r_152 u t H1 locs ht hvm w_151 hB hz1 hk1 hS => ?_)
              have hI : Iv dC dI g A f_135 t.heap := hB
              rw [ht] at hI
              generalize H1 = H at hI hS ⊢
              refine W.widen (k := 0) (n := 0) (Nat.le_of_ble_eq_true rfl) (Nat.le_of_ble_eq_true rfl) ?_
              refine lv_if_ne (tgt := 98) hx hb dX11_finish_93 (by decide) (fun c_153 => ?_) (fun c_153 => ?_)
              · have c_153 := kn_eq rfl (by decide : Int32.toInt 0 = 0) c_153
                obtain ⟨v_154, ev_154⟩ : ∃ y : Int32, y = y_109 + Int32.ofInt 1 := ⟨_, rfl⟩
                refine lv_iinc (v := v_154) (lv' := [(3, .int v_154), (2, .ref (gr g a_88 1)), (0, .ref h0), (1, .int p1)]) hx hb dX11_finish_98 hl (k := 0) rfl ev_154.symm (by decide) rfl (fun ls hl => ?_)
                have tv_154 := k_inc y_109
                rw [← ev_154] at tv_154
                refine lv_goto (tgt := 57) hx hb dX11_finish_101 (by decide) ?_
                exact ih v_154 f_135 _ _ _ (by omega) hI hS k_140 k_141 k_142 kp_143 (by first | omega | decide) (lv_sub hl [0, 1, 2, 3] rfl)
              · have c_153 := kc_eq rfl (by decide : Int32.toInt 0 = 0) c_153
                refine lv_iload_n hx hb dX11_finish_96 rfl (lv_at hl 0 rfl) ?_
                exact W.iret (v := y_109) hx hb hr (fun t ht hW => ⟨⟨y_109, (), rfl, trivial, ⟨f_135, k_ret ht hI, kp_143⟩⟩, hS.F ht⟩) hS.2.2 dX11_finish_97
      exact K_57 _ 1 f_66 _ _ _ (Nat.lt_succ_self _) hI hS k_70 k_71 k_85 kp_72 (by first | omega | decide) (lv_sub hl [0, 1, 2, 3] rfl)
    · have c_53 := kc_eq rfl (by decide : Int32.toInt 0 = 0) c_53
      refine lv_iconst (v := (-1)) hx hb dX11_finish_29 (by decide) ?_
      exact W.iret (v := (-1)) hx hb hr (fun t ht hW => ⟨⟨(-1), (), rfl, trivial, ⟨f, k_ret ht hI, hk0⟩⟩, hS.F ht⟩) hS.2.2 dX11_finish_30
theorem tw_596 : q_g (.fieldLink RX11 317 "DeadlineShare$Task" "requests" "I") := ⟨(List.mem_append_right _ (List.mem_of_getElem? (i := 177) (by decide +kernel))), good_of_word (by decide +kernel)⟩
theorem tw_597 : q_g (.code yX11_due cX11_due 5 (some .int)) := ⟨(List.mem_append_right _ (List.mem_of_getElem? (i := 1037) (by decide +kernel))), good_of_word (by decide +kernel)⟩
def ow_c_X11_due : List Cond := [.fieldLink RX11 37 "DeadlineShare" "now" "LDeadlineShare$State;", .methodLink RX11 130 yX6_has, .instanceMethod yX6_has, .selects RX6 yX6_has yX6_has, .initialized RX6, .fieldLink RX11 41 "DeadlineShare" "paper" "LDeadlineShare$State;", .methodLink RX11 238 yX6_copy, .instanceMethod yX6_copy, .selects RX6 yX6_copy yX6_copy, .fieldLink RX11 133 "DeadlineShare$State" "tasks" "[LDeadlineShare$Task;", .fieldLink RX11 317 "DeadlineShare$Task" "requests" "I", .fieldLink RX11 223 "DeadlineShare$State" "time" "I", .fieldLink RX11 47 "DeadlineShare" "asTold" "LDeadlineShare$Chooser;", .methodLink RX11 226 yX6_tick, .instanceMethod yX6_tick, .selects RX6 yX6_tick yX6_tick]
def wq_c_X11_due : List Cond := .code yX11_due cX11_due 5 (some .int) :: (ow_c_X11_due ++ (u_ws RX11 TX11 12 ++ (wq_c_X6_has ++ (wq_c_X6_copy ++ (u_ws RX6 TX6 10 ++ (u_ws RX8 TX8 18 ++ (wq_c_X6_tick ++ ([] : List Cond))))))))
theorem tb_c_X11_due : ∀ w ∈ wq_c_X11_due, q_g w := by
  unfold wq_c_X11_due ow_c_X11_due
  exact q_cons tw_597 (q_app (q_cons tw_479 (q_cons tw_492 (q_cons tw_74 (q_cons tw_73 (q_cons tw_47 (q_cons tw_589 (q_cons tw_532 (q_cons tw_160 (q_cons tw_159 (q_cons tw_491 (q_cons tw_596 (q_cons tw_523 (q_cons tw_522 (q_cons tw_521 (q_cons tw_520 (q_cons tw_519 q_nil)))))))))))))))) (q_app tu_X11 (q_app tb_c_X6_has (q_app tb_c_X6_copy (q_app tu_X6 (q_app tu_X8 (q_app tb_c_X6_tick q_nil)))))))
set_option maxHeartbeats 4000000 in
set_option maxRecDepth 100000 in
theorem c_X11_due (l : Launch) (dC : Nat → ClassId) (dI : Nat → Nat → Nat) (g : kG) (A : Nat → Prop) (hG : kWf g) (f : Nat → va_E) (h0 : Nat) (p1 : Int32) (i_h0 : ik g 11 h0) : Met l yX11_due wq_c_X11_due ({ frames := 6, cells := 0, slots := 0, locals := 139 } : Room) (va_Pc [.ref h0, .int p1] (fun U => kIn dC dI g A f U)) (va_Qi (fun (r : Int32) (_ : Unit) => True) (fun (_ : Unit) t => ∃ f1 : Nat → va_E, Iv dC dI g A f1 t.heap ∧ Kp g [0, 5, 6, 8, 10, 23, 24] f f1) A) 0 0 A := by
  refine Met.ofW (cc := cX11_due) (maxL := 5) (ret := (some .int)) (by decide) rfl ?_
  intro p e s m args below meth c s₁ B hml hv
  obtain ⟨rfl, hI, hK, hE⟩ := hv
  have hx := B.exec
  have hb := B.bytes
  have hr := B.returns
  have hts := atoms_spec (ws := wq_c_X11_due) B.pre
  have hown : s.vm.findClass RX11 = some m.cls := findClass_of_methodNamed B.named
  have hlocks := B.notSynchronized
  have hS : va_S A s.heap s.heap [] := va_S.rf
  have hk0 : Kp g [0, 5, 6, 8, 10, 23, 24] f f := Kp.rf
  have hl := lv_entry ([.ref h0, .int p1]) (n := 5) (Nat.le_of_ble_eq_true rfl)
  rw [lg_entry_eq]
  generalize (lg_sl ([.ref h0, .int p1]) ++ List.replicate (5 - (lg_sl ([.ref h0, .int p1])).length) Slot.unset).toArray = ls at hl ⊢
  have hl : lv_has ls 5 [(0, .ref h0), (1, .int p1)] := hl
  refine lv_aload_n hx hb dX11_due_0 rfl (lv_at hl 0 rfl) ?_
  obtain ⟨x_2, k_1⟩ := op_11 hI i_h0
  refine k_get (ci := 11) (v := .ref (gr g h0 3)) (C := RX11) (T := TX11) (N := 12) hx hb hts (fun _ h0_ => List.mem_cons_of_mem _ (List.mem_append_right _ (List.mem_append_left _ h0_))) hown hK hI i_h0.1 k_1 rfl 3 (by decide) (hts (.fieldLink RX11 37 "DeadlineShare" "now" "LDeadlineShare$State;") (List.mem_cons_of_mem _ (List.mem_append_left _ (List.mem_of_getElem? (i := 0) rfl)))) (fun _ h9 => h9) rfl dX11_due_1 ?_
  have i_4 := kw_11_3 hG i_h0
  refine lv_iload_n hx hb dX11_due_4 rfl (lv_at hl 1 rfl) ?_
  obtain ⟨x_6, x_7, x_8, x_9, x_10, k_5, b_11, b_12⟩ := op_6 hI i_4
  refine va_calli (va_runV (As := [.int p1]) (rest := []) ⟨hx, hb, hml, hown, hts⟩ (c_X6_has l dC dI g A hG f (gr g h0 3) p1 i_4) (cwV 1 hts (gi_V (fun w_ h0_ => ⟨List.mem_cons_of_mem _ (List.mem_append_right _ (List.mem_append_right _ (List.mem_append_left _ h0_))), (tb_c_X6_has w_ h0_).2⟩) (List.mem_cons_of_mem _ (List.mem_append_left _ (List.mem_of_getElem? (i := 1) rfl))) (List.mem_cons_of_mem _ (List.mem_append_left _ (List.mem_of_getElem? (i := 2) rfl))) (List.mem_cons_of_mem _ (List.mem_append_left _ (List.mem_of_getElem? (i := 3) rfl))) (List.mem_cons_of_mem _ (List.mem_append_left _ (List.mem_of_getElem? (i := 4) rfl)))) rfl rfl rfl (by decide +kernel) ⟨Nat.le_of_ble_eq_true rfl, Nat.le_of_ble_eq_true rfl⟩) ⟨fun a U g mk q => ⟨q.1, q.2.calling rfl rfl⟩, k_recv hK hI i_4.1 k_5 (ci := 6) rfl, fun U hU hW => ⟨rfl, kIn.of hI hK hE hS hU hW⟩⟩ rfl rfl hl.1 rfl (lv_room (Nat.le_of_ble_eq_true rfl)) dX11_due_5 ⟨Nat.le_of_ble_eq_true rfl, Nat.le_of_ble_eq_true rfl⟩) hS (fun q _ h => h) (fun q h => h) (fun r_14 u t H1 locs ht hvm w_13 hB hz1 hk1 hS => ?_)
  have hI : Iv dC dI g A f t.heap := hB
  rw [ht] at hI
  generalize H1 = H at hI hS ⊢
  refine W.widen (k := 0) (n := 0) (Nat.le_of_ble_eq_true rfl) (Nat.le_of_ble_eq_true rfl) ?_
  have w_13 : r_14.toInt = 0 ∨ (0 ≤ p1.toInt ∧ p1.toInt < 12) := w_13
  refine lv_if_ne (tgt := 13) hx hb dX11_due_8 (by decide) (fun c_15 => ?_) (fun c_15 => ?_)
  · have c_15 := kn_eq rfl (by decide : Int32.toInt 0 = 0) c_15
    refine lv_aload_n hx hb dX11_due_13 rfl (lv_at hl 0 rfl) ?_
    refine k_get (ci := 11) (v := .ref (gr g h0 4)) (C := RX11) (T := TX11) (N := 12) hx hb hts (fun _ h0_ => List.mem_cons_of_mem _ (List.mem_append_right _ (List.mem_append_left _ h0_))) hown hK hI i_h0.1 k_1 rfl 4 (by decide) (hts (.fieldLink RX11 41 "DeadlineShare" "paper" "LDeadlineShare$State;") (List.mem_cons_of_mem _ (List.mem_append_left _ (List.mem_of_getElem? (i := 5) rfl)))) (fun _ h9 => h9) rfl dX11_due_14 ?_
    have i_17 := kw_11_4 hG i_h0
    refine lv_aload_n hx hb dX11_due_17 rfl (lv_at hl 0 rfl) ?_
    refine k_get (ci := 11) (v := .ref (gr g h0 3)) (C := RX11) (T := TX11) (N := 12) hx hb hts (fun _ h0_ => List.mem_cons_of_mem _ (List.mem_append_right _ (List.mem_append_left _ h0_))) hown hK hI i_h0.1 k_1 rfl 3 (by decide) (hts (.fieldLink RX11 37 "DeadlineShare" "now" "LDeadlineShare$State;") (List.mem_cons_of_mem _ (List.mem_append_left _ (List.mem_of_getElem? (i := 0) rfl)))) (fun _ h9 => h9) rfl dX11_due_18 ?_
    obtain ⟨x_21, x_22, x_23, x_24, x_25, k_20, b_26, b_27⟩ := op_6 hI i_17
    refine va_callv (va_runV (As := [.ref (gr g h0 3)]) (rest := []) ⟨hx, hb, hml, hown, hts⟩ (c_X6_copy l dC dI g A hG f (gr g h0 4) (gr g h0 3) i_17 i_4) (cwV 1 hts (gi_V (fun w_ h0_ => ⟨List.mem_cons_of_mem _ (List.mem_append_right _ (List.mem_append_right _ (List.mem_append_right _ (List.mem_append_left _ h0_)))), (tb_c_X6_copy w_ h0_).2⟩) (List.mem_cons_of_mem _ (List.mem_append_left _ (List.mem_of_getElem? (i := 6) rfl))) (List.mem_cons_of_mem _ (List.mem_append_left _ (List.mem_of_getElem? (i := 7) rfl))) (List.mem_cons_of_mem _ (List.mem_append_left _ (List.mem_of_getElem? (i := 8) rfl))) (List.mem_cons_of_mem _ (List.mem_append_left _ (List.mem_of_getElem? (i := 4) rfl)))) rfl rfl rfl (by decide +kernel) ⟨Nat.le_of_ble_eq_true rfl, Nat.le_of_ble_eq_true rfl⟩) ⟨fun a U g mk q => ⟨q.1, q.2.calling rfl rfl⟩, k_recv hK hI i_17.1 k_20 (ci := 6) rfl, fun U hU hW => ⟨rfl, kIn.of hI hK hE hS hU hW⟩⟩ rfl rfl hl.1 rfl (lv_room (Nat.le_of_ble_eq_true rfl)) dX11_due_21 ⟨Nat.le_of_ble_eq_true rfl, Nat.le_of_ble_eq_true rfl⟩) hS (fun q _ h => h) (fun q h => h) (fun u t H1 locs ht hvm _ hB hz1 hk1 hS => ?_)
    obtain ⟨f_28, hI, kc_30⟩ := hB
    rw [ht] at hI
    have k_32 : f_28 h0 = .inr (11, [.ref (gr g h0 0), .ref (gr g h0 1), .ref (gr g h0 2), .ref (gr g h0 3), .ref (gr g h0 4), .ref (gr g h0 5), .ref (gr g h0 6), .ref (gr g h0 7), .ref (gr g h0 8), .ref (gr g h0 9), .ref (gr g h0 10), .int x_2]) := Kp.at kc_30 i_h0 (by decide) k_1
    have kp_33 := Kp.call hk0 kc_30 (by decide)
    generalize H1 = H at hI hS ⊢
    refine W.widen (k := 0) (n := 0) (Nat.le_of_ble_eq_true rfl) (Nat.le_of_ble_eq_true rfl) ?_
    refine lv_aload_n hx hb dX11_due_24 rfl (lv_at hl 0 rfl) ?_
    refine k_get (ci := 11) (v := .ref (gr g h0 4)) (C := RX11) (T := TX11) (N := 12) hx hb hts (fun _ h0_ => List.mem_cons_of_mem _ (List.mem_append_right _ (List.mem_append_left _ h0_))) hown hK hI i_h0.1 k_32 rfl 4 (by decide) (hts (.fieldLink RX11 41 "DeadlineShare" "paper" "LDeadlineShare$State;") (List.mem_cons_of_mem _ (List.mem_append_left _ (List.mem_of_getElem? (i := 5) rfl)))) (fun _ h9 => h9) rfl dX11_due_25 ?_
    obtain ⟨x_37, x_38, x_39, x_40, x_41, k_36, b_42, b_43⟩ := op_6 hI i_17
    refine k_get (ci := 6) (v := .ref (gr g (gr g h0 4) 1)) (C := RX6) (T := TX6) (N := 10) hx hb hts (fun _ h0_ => List.mem_cons_of_mem _ (List.mem_append_right _ (List.mem_append_right _ (List.mem_append_right _ (List.mem_append_right _ (List.mem_append_left _ h0_)))))) hown hK hI i_17.1 k_36 rfl 1 (by decide) (hts (.fieldLink RX11 133 "DeadlineShare$State" "tasks" "[LDeadlineShare$Task;") (List.mem_cons_of_mem _ (List.mem_append_left _ (List.mem_of_getElem? (i := 9) rfl)))) (fun _ h9 => h9) rfl dX11_due_28 ?_
    have i_45 := kw_6_1 hG i_17
    refine lv_iload_n hx hb dX11_due_31 rfl (lv_at hl 1 rfl) ?_
    obtain ⟨q_47, k_46, b_48⟩ := op_20 hI i_45
    refine k_aald hx hb hK hI i_45.1 4 k_46 rfl (vp_in_iff.mpr (by omega)) b_48 (fun _ hj => kw_20 hG i_45 hj) dX11_due_32 (fun a_49 i_50 => ?_)
    refine lv_astore_n (lv' := [(2, .ref a_49), (0, .ref h0), (1, .int p1)]) hx hb dX11_due_33 rfl hl (by decide) rfl (fun ls hl => ?_)
    refine lv_aload_n hx hb dX11_due_34 rfl (lv_at hl 0 rfl) ?_
    obtain ⟨x_52, x_53, x_54, x_55, x_56, x_57, x_58, x_59, x_60, x_61, x_62, x_63, x_64, x_65, x_66, x_67, k_51⟩ := op_8 hI i_50
    refine k_get (ci := 8) (v := .int x_60) (C := RX8) (T := TX8) (N := 18) hx hb hts (fun _ h0_ => List.mem_cons_of_mem _ (List.mem_append_right _ (List.mem_append_right _ (List.mem_append_right _ (List.mem_append_right _ (List.mem_append_right _ (List.mem_append_left _ h0_))))))) hown hK hI i_50.1 k_51 rfl 10 (by decide) (hts (.fieldLink RX11 317 "DeadlineShare$Task" "requests" "I") (List.mem_cons_of_mem _ (List.mem_append_left _ (List.mem_of_getElem? (i := 10) rfl)))) (fun _ h9 => h9) rfl dX11_due_35 ?_
    refine lv_istore_n (lv' := [(3, .int x_60), (2, .ref a_49), (0, .ref h0), (1, .int p1)]) hx hb dX11_due_38 rfl hl (by decide) rfl (fun ls hl => ?_)
    refine lv_iconst (v := 1) hx hb dX11_due_39 (by decide) ?_
    refine lv_istore (lv' := [(4, .int 1), (3, .int x_60), (2, .ref a_49), (0, .ref h0), (1, .int p1)]) hx hb dX11_due_40 hl (by decide) rfl (fun ls hl => ?_)
    have K_42 : ∀ (nn : Nat) (y_68 : Int32) (f_69 : Nat → va_E) (H : Heap) (locs : List Loc) (ls : Array Slot), (501 - y_68.toInt).toNat < nn → Iv dC dI g A f_69 H → va_S A s.heap H locs → f_69 h0 = .inr (11, [.ref (gr g h0 0), .ref (gr g h0 1), .ref (gr g h0 2), .ref (gr g h0 3), .ref (gr g h0 4), .ref (gr g h0 5), .ref (gr g h0 6), .ref (gr g h0 7), .ref (gr g h0 8), .ref (gr g h0 9), .ref (gr g h0 10), .int x_2]) → f_69 (gr g (gr g h0 4) 1) = .inl (gc g 4, 12, .inr (.inr (.inr (.inr q_47)))) → Kp g [0, 5, 6, 8, 10, 23, 24] f f_69 → 0 ≤ y_68.toInt → lv_has ls 5 [(4, .int y_68), (3, .int x_60), (2, .ref a_49), (0, .ref h0), (1, .int p1)] → W p l e (headSpec wq_c_X11_due ({ frames := 6, cells := 0, slots := 0, locals := 139 } : Room)).room s m ([.ref h0, .int p1].toArray) below meth c H locs 0 0 (MQ below (va_Qi (fun (r : Int32) (_ : Unit) => True) (fun (_ : Unit) t => ∃ f1 : Nat → va_E, Iv dC dI g A f1 t.heap ∧ Kp g [0, 5, 6, 8, 10, 23, 24] f f1) A) ([.ref h0, .int p1].toArray) s 0 0 A) (F0 m 42 ls []) := by
      intro nn
      induction nn with
      | zero => intro y_68 f_69 H locs ls m_74; exact absurd m_74 (Nat.not_lt_zero _)
      | succ nn ih =>
        intro y_68 f_69 H locs ls m_74 hI hS k_70 k_71 kp_72 t_73 hl
        have g_75 := Int32.toInt_lt y_68
        have g_76 := Int32.le_toInt y_68
        refine lv_iload hx hb dX11_due_42 (lv_at hl 0 rfl) ?_
        refine lv_sipush (v := 500) hx hb dX11_due_44 (by decide) ?_
        refine lv_icmp_gt (tgt := 92) hx hb dX11_due_47 (by decide) (fun c_77 => ?_) (fun c_77 => ?_)
        · have c_77 := kc_lt (by decide : Int32.toInt 500 = 500) rfl c_77
          refine lv_iconst (v := (-1)) hx hb dX11_due_92 (by decide) ?_
          exact W.iret (v := (-1)) hx hb hr (fun t ht hW => ⟨⟨(-1), (), rfl, trivial, ⟨f_69, k_ret ht hI, kp_72⟩⟩, hS.F ht⟩) hS.2.2 dX11_due_93
        · have c_77 := kn_lt (by decide : Int32.toInt 500 = 500) rfl c_77
          refine lv_aload_n hx hb dX11_due_50 rfl (lv_at hl 3 rfl) ?_
          refine k_get (ci := 11) (v := .ref (gr g h0 4)) (C := RX11) (T := TX11) (N := 12) hx hb hts (fun _ h0_ => List.mem_cons_of_mem _ (List.mem_append_right _ (List.mem_append_left _ h0_))) hown hK hI i_h0.1 k_70 rfl 4 (by decide) (hts (.fieldLink RX11 41 "DeadlineShare" "paper" "LDeadlineShare$State;") (List.mem_cons_of_mem _ (List.mem_append_left _ (List.mem_of_getElem? (i := 5) rfl)))) (fun _ h9 => h9) rfl dX11_due_51 ?_
          obtain ⟨x_81, x_82, x_83, x_84, x_85, k_80, b_86, b_87⟩ := op_6 hI i_17
          refine k_get (ci := 6) (v := .int x_82) (C := RX6) (T := TX6) (N := 10) hx hb hts (fun _ h0_ => List.mem_cons_of_mem _ (List.mem_append_right _ (List.mem_append_right _ (List.mem_append_right _ (List.mem_append_right _ (List.mem_append_left _ h0_)))))) hown hK hI i_17.1 k_80 rfl 6 (by decide) (hts (.fieldLink RX11 223 "DeadlineShare$State" "time" "I") (List.mem_cons_of_mem _ (List.mem_append_left _ (List.mem_of_getElem? (i := 11) rfl)))) (fun _ h9 => h9) rfl dX11_due_54 ?_
          refine lv_sipush (v := 9999) hx hb dX11_due_57 (by decide) ?_
          refine lv_icmp_ge (tgt := 92) hx hb dX11_due_60 (by decide) (fun c_88 => ?_) (fun c_88 => ?_)
          · have c_88 := kc_le (by decide : Int32.toInt 9999 = 9999) rfl c_88
            refine lv_iconst (v := (-1)) hx hb dX11_due_92 (by decide) ?_
            exact W.iret (v := (-1)) hx hb hr (fun t ht hW => ⟨⟨(-1), (), rfl, trivial, ⟨f_69, k_ret ht hI, kp_72⟩⟩, hS.F ht⟩) hS.2.2 dX11_due_93
          · have c_88 := kn_le (by decide : Int32.toInt 9999 = 9999) rfl c_88
            refine lv_aload_n hx hb dX11_due_63 rfl (lv_at hl 3 rfl) ?_
            refine k_get (ci := 11) (v := .ref (gr g h0 4)) (C := RX11) (T := TX11) (N := 12) hx hb hts (fun _ h0_ => List.mem_cons_of_mem _ (List.mem_append_right _ (List.mem_append_left _ h0_))) hown hK hI i_h0.1 k_70 rfl 4 (by decide) (hts (.fieldLink RX11 41 "DeadlineShare" "paper" "LDeadlineShare$State;") (List.mem_cons_of_mem _ (List.mem_append_left _ (List.mem_of_getElem? (i := 5) rfl)))) (fun _ h9 => h9) rfl dX11_due_64 ?_
            refine lv_aload_n hx hb dX11_due_67 rfl (lv_at hl 3 rfl) ?_
            refine k_get (ci := 11) (v := .ref (gr g h0 5)) (C := RX11) (T := TX11) (N := 12) hx hb hts (fun _ h0_ => List.mem_cons_of_mem _ (List.mem_append_right _ (List.mem_append_left _ h0_))) hown hK hI i_h0.1 k_70 rfl 5 (by decide) (hts (.fieldLink RX11 47 "DeadlineShare" "asTold" "LDeadlineShare$Chooser;") (List.mem_cons_of_mem _ (List.mem_append_left _ (List.mem_of_getElem? (i := 12) rfl)))) (fun _ h9 => h9) rfl dX11_due_68 ?_
            have i_92 := kw_11_5 hG i_h0
            refine va_calli (va_runV (As := [.ref (gr g h0 5)]) (rest := []) ⟨hx, hb, hml, hown, hts⟩ (c_X6_tick l dC dI g A hG f_69 (gr g h0 4) (gr g h0 5) i_17 i_92) (cwV 1 hts (gi_V (fun w_ h0_ => ⟨List.mem_cons_of_mem _ (List.mem_append_right _ (List.mem_append_right _ (List.mem_append_right _ (List.mem_append_right _ (List.mem_append_right _ (List.mem_append_right _ (List.mem_append_left _ h0_))))))), (tb_c_X6_tick w_ h0_).2⟩) (List.mem_cons_of_mem _ (List.mem_append_left _ (List.mem_of_getElem? (i := 13) rfl))) (List.mem_cons_of_mem _ (List.mem_append_left _ (List.mem_of_getElem? (i := 14) rfl))) (List.mem_cons_of_mem _ (List.mem_append_left _ (List.mem_of_getElem? (i := 15) rfl))) (List.mem_cons_of_mem _ (List.mem_append_left _ (List.mem_of_getElem? (i := 4) rfl)))) rfl rfl rfl (by decide +kernel) ⟨Nat.le_of_ble_eq_true rfl, Nat.le_of_ble_eq_true rfl⟩) ⟨fun a U g mk q => ⟨q.1, q.2.calling rfl rfl⟩, k_recv hK hI i_17.1 k_80 (ci := 6) rfl, fun U hU hW => ⟨rfl, kIn.of hI hK hE hS hU hW⟩⟩ rfl rfl hl.1 rfl (lv_room (Nat.le_of_ble_eq_true rfl)) dX11_due_71 ⟨Nat.le_of_ble_eq_true rfl, Nat.le_of_ble_eq_true rfl⟩) hS (fun q _ h => h) (fun q h => h) (fun r_95 u t H1 locs ht hvm w_94 hB hz1 hk1 hS => ?_)
            obtain ⟨f_93, hI, kc_96⟩ := hB
            rw [ht] at hI
            have k_98 : f_93 h0 = .inr (11, [.ref (gr g h0 0), .ref (gr g h0 1), .ref (gr g h0 2), .ref (gr g h0 3), .ref (gr g h0 4), .ref (gr g h0 5), .ref (gr g h0 6), .ref (gr g h0 7), .ref (gr g h0 8), .ref (gr g h0 9), .ref (gr g h0 10), .int x_2]) := Kp.at kc_96 i_h0 (by decide) k_70
            have k_99 : f_93 (gr g (gr g h0 4) 1) = .inl (gc g 4, 12, .inr (.inr (.inr (.inr q_47)))) := Kp.at kc_96 i_45 (by decide) k_71
            have kp_100 := Kp.call kp_72 kc_96 (by decide)
            generalize H1 = H at hI hS ⊢
            refine W.widen (k := 0) (n := 0) (Nat.le_of_ble_eq_true rfl) (Nat.le_of_ble_eq_true rfl) ?_
            refine lv_pop hx hb dX11_due_74 rfl ?_
            refine lv_aload_n hx hb dX11_due_75 rfl (lv_at hl 2 rfl) ?_
            obtain ⟨x_102, x_103, x_104, x_105, x_106, x_107, x_108, x_109, x_110, x_111, x_112, x_113, x_114, x_115, x_116, x_117, k_101⟩ := op_8 hI i_50
            refine k_get (ci := 8) (v := .int x_110) (C := RX8) (T := TX8) (N := 18) hx hb hts (fun _ h0_ => List.mem_cons_of_mem _ (List.mem_append_right _ (List.mem_append_right _ (List.mem_append_right _ (List.mem_append_right _ (List.mem_append_right _ (List.mem_append_left _ h0_))))))) hown hK hI i_50.1 k_101 rfl 10 (by decide) (hts (.fieldLink RX11 317 "DeadlineShare$Task" "requests" "I") (List.mem_cons_of_mem _ (List.mem_append_left _ (List.mem_of_getElem? (i := 10) rfl)))) (fun _ h9 => h9) rfl dX11_due_76 ?_
            refine lv_iload_n hx hb dX11_due_79 rfl (lv_at hl 1 rfl) ?_
            refine lv_icmp_le (tgt := 86) hx hb dX11_due_80 (by decide) (fun c_118 => ?_) (fun c_118 => ?_)
            · have c_118 := kc_le rfl rfl c_118
              obtain ⟨v_119, ev_119⟩ : ∃ y : Int32, y = y_68 + Int32.ofInt 1 := ⟨_, rfl⟩
              refine lv_iinc (v := v_119) (lv' := [(4, .int v_119), (3, .int x_60), (2, .ref a_49), (0, .ref h0), (1, .int p1)]) hx hb dX11_due_86 hl (k := 0) rfl ev_119.symm (by decide) rfl (fun ls hl => ?_)
              have tv_119 := k_inc y_68
              rw [← ev_119] at tv_119
              refine lv_goto (tgt := 42) hx hb dX11_due_89 (by decide) ?_
              exact ih v_119 f_93 _ _ _ (by omega) hI hS k_98 k_99 kp_100 (by first | omega | decide) (lv_sub hl [0, 1, 2, 3, 4] rfl)
            · have c_118 := kn_le rfl rfl c_118
              refine lv_iload hx hb dX11_due_83 (lv_at hl 0 rfl) ?_
              exact W.iret (v := y_68) hx hb hr (fun t ht hW => ⟨⟨y_68, (), rfl, trivial, ⟨f_93, k_ret ht hI, kp_100⟩⟩, hS.F ht⟩) hS.2.2 dX11_due_85
    exact K_42 _ 1 f_28 _ _ _ (Nat.lt_succ_self _) hI hS k_32 k_46 kp_33 (by first | omega | decide) (lv_sub hl [0, 1, 2, 3, 4] rfl)
  · have c_15 := kc_eq rfl (by decide : Int32.toInt 0 = 0) c_15
    refine lv_iconst (v := (-1)) hx hb dX11_due_11 (by decide) ?_
    exact W.iret (v := (-1)) hx hb hr (fun t ht hW => ⟨⟨(-1), (), rfl, trivial, ⟨f, k_ret ht hI, hk0⟩⟩, hS.F ht⟩) hS.2.2 dX11_due_12
theorem tw_598 : q_g (.code yX11_ticksWithWeight cX11_ticksWithWeight 7 (some .int)) := ⟨(List.mem_append_right _ (List.mem_of_getElem? (i := 1045) (by decide +kernel))), good_of_word (by decide +kernel)⟩
def ow_c_X11_ticksWithWeight : List Cond := [.fieldLink RX11 41 "DeadlineShare" "paper" "LDeadlineShare$State;", .fieldLink RX11 37 "DeadlineShare" "now" "LDeadlineShare$State;", .methodLink RX11 238 yX6_copy, .instanceMethod yX6_copy, .selects RX6 yX6_copy yX6_copy, .initialized RX6, .fieldLink RX11 133 "DeadlineShare$State" "tasks" "[LDeadlineShare$Task;", .fieldLink RX11 145 "DeadlineShare$Task" "weight" "I", .fieldLink RX11 47 "DeadlineShare" "asTold" "LDeadlineShare$Chooser;", .methodLink RX11 226 yX6_tick, .instanceMethod yX6_tick, .selects RX6 yX6_tick yX6_tick, .methodLink RX11 179 yX6_weighAnew, .instanceMethod yX6_weighAnew, .selects RX6 yX6_weighAnew yX6_weighAnew]
def wq_c_X11_ticksWithWeight : List Cond := .code yX11_ticksWithWeight cX11_ticksWithWeight 7 (some .int) :: (ow_c_X11_ticksWithWeight ++ (u_ws RX11 TX11 12 ++ (wq_c_X6_copy ++ (u_ws RX6 TX6 10 ++ (u_ws RX8 TX8 18 ++ (wq_c_X6_tick ++ (wq_c_X6_weighAnew ++ ([] : List Cond))))))))
theorem tb_c_X11_ticksWithWeight : ∀ w ∈ wq_c_X11_ticksWithWeight, q_g w := by
  unfold wq_c_X11_ticksWithWeight ow_c_X11_ticksWithWeight
  exact q_cons tw_598 (q_app (q_cons tw_589 (q_cons tw_479 (q_cons tw_532 (q_cons tw_160 (q_cons tw_159 (q_cons tw_47 (q_cons tw_491 (q_cons tw_488 (q_cons tw_522 (q_cons tw_521 (q_cons tw_520 (q_cons tw_519 (q_cons tw_499 (q_cons tw_332 (q_cons tw_331 q_nil))))))))))))))) (q_app tu_X11 (q_app tb_c_X6_copy (q_app tu_X6 (q_app tu_X8 (q_app tb_c_X6_tick (q_app tb_c_X6_weighAnew q_nil)))))))
set_option maxHeartbeats 4000000 in
set_option maxRecDepth 100000 in
theorem c_X11_ticksWithWeight (l : Launch) (dC : Nat → ClassId) (dI : Nat → Nat → Nat) (g : kG) (A : Nat → Prop) (hG : kWf g) (f : Nat → va_E) (h0 : Nat) (p1 : Int32) (p2 : Int32) (p3 : Int32) (i_h0 : ik g 11 h0) (hp1 : 0 ≤ p1.toInt ∧ p1.toInt < 12) : Met l yX11_ticksWithWeight wq_c_X11_ticksWithWeight ({ frames := 6, cells := 0, slots := 0, locals := 139 } : Room) (va_Pc [.ref h0, .int p1, .int p2, .int p3] (fun U => kIn dC dI g A f U)) (va_Qi (fun (r : Int32) (_ : Unit) => True) (fun (_ : Unit) t => ∃ f1 : Nat → va_E, Iv dC dI g A f1 t.heap ∧ Kp g [0, 5, 6, 8, 10, 23, 24] f f1) A) 0 0 A := by
  refine Met.ofW (cc := cX11_ticksWithWeight) (maxL := 7) (ret := (some .int)) (by decide) rfl ?_
  intro p e s m args below meth c s₁ B hml hv
  obtain ⟨rfl, hI, hK, hE⟩ := hv
  have hx := B.exec
  have hb := B.bytes
  have hr := B.returns
  have hts := atoms_spec (ws := wq_c_X11_ticksWithWeight) B.pre
  have hown : s.vm.findClass RX11 = some m.cls := findClass_of_methodNamed B.named
  have hlocks := B.notSynchronized
  have hS : va_S A s.heap s.heap [] := va_S.rf
  have hk0 : Kp g [0, 5, 6, 8, 10, 23, 24] f f := Kp.rf
  have hl := lv_entry ([.ref h0, .int p1, .int p2, .int p3]) (n := 7) (Nat.le_of_ble_eq_true rfl)
  rw [lg_entry_eq]
  generalize (lg_sl ([.ref h0, .int p1, .int p2, .int p3]) ++ List.replicate (7 - (lg_sl ([.ref h0, .int p1, .int p2, .int p3])).length) Slot.unset).toArray = ls at hl ⊢
  have hl : lv_has ls 7 [(0, .ref h0), (1, .int p1), (2, .int p2), (3, .int p3)] := hl
  refine lv_aload_n hx hb dX11_ticksWithWeight_0 rfl (lv_at hl 0 rfl) ?_
  obtain ⟨x_2, k_1⟩ := op_11 hI i_h0
  refine k_get (ci := 11) (v := .ref (gr g h0 4)) (C := RX11) (T := TX11) (N := 12) hx hb hts (fun _ h0_ => List.mem_cons_of_mem _ (List.mem_append_right _ (List.mem_append_left _ h0_))) hown hK hI i_h0.1 k_1 rfl 4 (by decide) (hts (.fieldLink RX11 41 "DeadlineShare" "paper" "LDeadlineShare$State;") (List.mem_cons_of_mem _ (List.mem_append_left _ (List.mem_of_getElem? (i := 0) rfl)))) (fun _ h9 => h9) rfl dX11_ticksWithWeight_1 ?_
  have i_4 := kw_11_4 hG i_h0
  refine lv_aload_n hx hb dX11_ticksWithWeight_4 rfl (lv_at hl 0 rfl) ?_
  refine k_get (ci := 11) (v := .ref (gr g h0 3)) (C := RX11) (T := TX11) (N := 12) hx hb hts (fun _ h0_ => List.mem_cons_of_mem _ (List.mem_append_right _ (List.mem_append_left _ h0_))) hown hK hI i_h0.1 k_1 rfl 3 (by decide) (hts (.fieldLink RX11 37 "DeadlineShare" "now" "LDeadlineShare$State;") (List.mem_cons_of_mem _ (List.mem_append_left _ (List.mem_of_getElem? (i := 1) rfl)))) (fun _ h9 => h9) rfl dX11_ticksWithWeight_5 ?_
  have i_6 := kw_11_3 hG i_h0
  obtain ⟨x_8, x_9, x_10, x_11, x_12, k_7, b_13, b_14⟩ := op_6 hI i_4
  refine va_callv (va_runV (As := [.ref (gr g h0 3)]) (rest := []) ⟨hx, hb, hml, hown, hts⟩ (c_X6_copy l dC dI g A hG f (gr g h0 4) (gr g h0 3) i_4 i_6) (cwV 1 hts (gi_V (fun w_ h0_ => ⟨List.mem_cons_of_mem _ (List.mem_append_right _ (List.mem_append_right _ (List.mem_append_left _ h0_))), (tb_c_X6_copy w_ h0_).2⟩) (List.mem_cons_of_mem _ (List.mem_append_left _ (List.mem_of_getElem? (i := 2) rfl))) (List.mem_cons_of_mem _ (List.mem_append_left _ (List.mem_of_getElem? (i := 3) rfl))) (List.mem_cons_of_mem _ (List.mem_append_left _ (List.mem_of_getElem? (i := 4) rfl))) (List.mem_cons_of_mem _ (List.mem_append_left _ (List.mem_of_getElem? (i := 5) rfl)))) rfl rfl rfl (by decide +kernel) ⟨Nat.le_of_ble_eq_true rfl, Nat.le_of_ble_eq_true rfl⟩) ⟨fun a U g mk q => ⟨q.1, q.2.calling rfl rfl⟩, k_recv hK hI i_4.1 k_7 (ci := 6) rfl, fun U hU hW => ⟨rfl, kIn.of hI hK hE hS hU hW⟩⟩ rfl rfl hl.1 rfl (lv_room (Nat.le_of_ble_eq_true rfl)) dX11_ticksWithWeight_8 ⟨Nat.le_of_ble_eq_true rfl, Nat.le_of_ble_eq_true rfl⟩) hS (fun q _ h => h) (fun q h => h) (fun u t H1 locs ht hvm _ hB hz1 hk1 hS => ?_)
  obtain ⟨f_15, hI, kc_17⟩ := hB
  rw [ht] at hI
  have k_19 : f_15 h0 = .inr (11, [.ref (gr g h0 0), .ref (gr g h0 1), .ref (gr g h0 2), .ref (gr g h0 3), .ref (gr g h0 4), .ref (gr g h0 5), .ref (gr g h0 6), .ref (gr g h0 7), .ref (gr g h0 8), .ref (gr g h0 9), .ref (gr g h0 10), .int x_2]) := Kp.at kc_17 i_h0 (by decide) k_1
  have kp_20 := Kp.call hk0 kc_17 (by decide)
  generalize H1 = H at hI hS ⊢
  refine W.widen (k := 0) (n := 0) (Nat.le_of_ble_eq_true rfl) (Nat.le_of_ble_eq_true rfl) ?_
  refine lv_aload_n hx hb dX11_ticksWithWeight_11 rfl (lv_at hl 0 rfl) ?_
  refine k_get (ci := 11) (v := .ref (gr g h0 4)) (C := RX11) (T := TX11) (N := 12) hx hb hts (fun _ h0_ => List.mem_cons_of_mem _ (List.mem_append_right _ (List.mem_append_left _ h0_))) hown hK hI i_h0.1 k_19 rfl 4 (by decide) (hts (.fieldLink RX11 41 "DeadlineShare" "paper" "LDeadlineShare$State;") (List.mem_cons_of_mem _ (List.mem_append_left _ (List.mem_of_getElem? (i := 0) rfl)))) (fun _ h9 => h9) rfl dX11_ticksWithWeight_12 ?_
  obtain ⟨x_24, x_25, x_26, x_27, x_28, k_23, b_29, b_30⟩ := op_6 hI i_4
  refine k_get (ci := 6) (v := .ref (gr g (gr g h0 4) 1)) (C := RX6) (T := TX6) (N := 10) hx hb hts (fun _ h0_ => List.mem_cons_of_mem _ (List.mem_append_right _ (List.mem_append_right _ (List.mem_append_right _ (List.mem_append_left _ h0_))))) hown hK hI i_4.1 k_23 rfl 1 (by decide) (hts (.fieldLink RX11 133 "DeadlineShare$State" "tasks" "[LDeadlineShare$Task;") (List.mem_cons_of_mem _ (List.mem_append_left _ (List.mem_of_getElem? (i := 6) rfl)))) (fun _ h9 => h9) rfl dX11_ticksWithWeight_15 ?_
  have i_32 := kw_6_1 hG i_4
  refine lv_iload_n hx hb dX11_ticksWithWeight_18 rfl (lv_at hl 1 rfl) ?_
  obtain ⟨q_34, k_33, b_35⟩ := op_20 hI i_32
  refine k_aald hx hb hK hI i_32.1 4 k_33 rfl (vp_in_iff.mpr (by omega)) b_35 (fun _ hj => kw_20 hG i_32 hj) dX11_ticksWithWeight_19 (fun a_36 i_37 => ?_)
  refine lv_astore (lv' := [(4, .ref a_36), (0, .ref h0), (1, .int p1), (2, .int p2), (3, .int p3)]) hx hb dX11_ticksWithWeight_20 hl (by decide) rfl (fun ls hl => ?_)
  refine lv_aload hx hb dX11_ticksWithWeight_22 (lv_at hl 0 rfl) ?_
  obtain ⟨x_39, x_40, x_41, x_42, x_43, x_44, x_45, x_46, x_47, x_48, x_49, x_50, x_51, x_52, x_53, x_54, k_38⟩ := op_8 hI i_37
  refine k_get (ci := 8) (v := .int x_40) (C := RX8) (T := TX8) (N := 18) hx hb hts (fun _ h0_ => List.mem_cons_of_mem _ (List.mem_append_right _ (List.mem_append_right _ (List.mem_append_right _ (List.mem_append_right _ (List.mem_append_left _ h0_)))))) hown hK hI i_37.1 k_38 rfl 2 (by decide) (hts (.fieldLink RX11 145 "DeadlineShare$Task" "weight" "I") (List.mem_cons_of_mem _ (List.mem_append_left _ (List.mem_of_getElem? (i := 7) rfl)))) (fun _ h9 => h9) rfl dX11_ticksWithWeight_24 ?_
  refine lv_iload_n hx hb dX11_ticksWithWeight_27 rfl (lv_at hl 3 rfl) ?_
  have J_41 : ∀ (f_55 : Nat → va_E) (H : Heap) (locs : List Loc) (ls : Array Slot), Iv dC dI g A f_55 H → va_S A s.heap H locs → f_55 h0 = .inr (11, [.ref (gr g h0 0), .ref (gr g h0 1), .ref (gr g h0 2), .ref (gr g h0 3), .ref (gr g h0 4), .ref (gr g h0 5), .ref (gr g h0 6), .ref (gr g h0 7), .ref (gr g h0 8), .ref (gr g h0 9), .ref (gr g h0 10), .int x_2]) → f_55 (gr g h0 4) = .inr (6, [.ref (gr g (gr g h0 4) 0), .ref (gr g (gr g h0 4) 1), .ref (gr g (gr g h0 4) 2), .ref (gr g (gr g h0 4) 3), .ref (gr g (gr g h0 4) 4), .int x_24, .int x_25, .long x_26, .int x_27, .int x_28]) → f_55 (gr g (gr g h0 4) 1) = .inl (gc g 4, 12, .inr (.inr (.inr (.inr q_34)))) → Kp g [0, 5, 6, 8, 10, 23, 24] f f_55 → lv_has ls 7 [(4, .ref a_36), (0, .ref h0), (1, .int p1), (2, .int p2), (3, .int p3)] → W p l e (headSpec wq_c_X11_ticksWithWeight ({ frames := 6, cells := 0, slots := 0, locals := 139 } : Room)).room s m ([.ref h0, .int p1, .int p2, .int p3].toArray) below meth c H locs 0 0 (MQ below (va_Qi (fun (r : Int32) (_ : Unit) => True) (fun (_ : Unit) t => ∃ f1 : Nat → va_E, Iv dC dI g A f1 t.heap ∧ Kp g [0, 5, 6, 8, 10, 23, 24] f f1) A) ([.ref h0, .int p1, .int p2, .int p3].toArray) s 0 0 A) (F0 m 41 ls []) := by
    intro f_55 H locs ls hI hS k_56 k_57 k_58 kp_59 hl
    refine lv_iconst (v := 0) hx hb dX11_ticksWithWeight_41 (by decide) ?_
    refine lv_istore (lv' := [(5, .int 0), (4, .ref a_36), (0, .ref h0), (1, .int p1), (2, .int p2), (3, .int p3)]) hx hb dX11_ticksWithWeight_42 hl (by decide) rfl (fun ls hl => ?_)
    refine lv_iconst (v := 0) hx hb dX11_ticksWithWeight_44 (by decide) ?_
    refine lv_istore (lv' := [(6, .int 0), (5, .int 0), (4, .ref a_36), (0, .ref h0), (1, .int p1), (2, .int p2), (3, .int p3)]) hx hb dX11_ticksWithWeight_45 hl (by decide) rfl (fun ls hl => ?_)
    have K_47 : ∀ (nn : Nat) (y_60 : Int32) (y_61 : Int32) (f_62 : Nat → va_E) (H : Heap) (locs : List Loc) (ls : Array Slot), (p3.toInt - y_60.toInt).toNat < nn → Iv dC dI g A f_62 H → va_S A s.heap H locs → f_62 h0 = .inr (11, [.ref (gr g h0 0), .ref (gr g h0 1), .ref (gr g h0 2), .ref (gr g h0 3), .ref (gr g h0 4), .ref (gr g h0 5), .ref (gr g h0 6), .ref (gr g h0 7), .ref (gr g h0 8), .ref (gr g h0 9), .ref (gr g h0 10), .int x_2]) → f_62 (gr g (gr g h0 4) 1) = .inl (gc g 4, 12, .inr (.inr (.inr (.inr q_34)))) → Kp g [0, 5, 6, 8, 10, 23, 24] f f_62 → lv_has ls 7 [(6, .int y_60), (5, .int y_61), (4, .ref a_36), (0, .ref h0), (1, .int p1), (2, .int p2), (3, .int p3)] → W p l e (headSpec wq_c_X11_ticksWithWeight ({ frames := 6, cells := 0, slots := 0, locals := 139 } : Room)).room s m ([.ref h0, .int p1, .int p2, .int p3].toArray) below meth c H locs 0 0 (MQ below (va_Qi (fun (r : Int32) (_ : Unit) => True) (fun (_ : Unit) t => ∃ f1 : Nat → va_E, Iv dC dI g A f1 t.heap ∧ Kp g [0, 5, 6, 8, 10, 23, 24] f f1) A) ([.ref h0, .int p1, .int p2, .int p3].toArray) s 0 0 A) (F0 m 47 ls []) := by
      intro nn
      induction nn with
      | zero => intro y_60 y_61 f_62 H locs ls m_66; exact absurd m_66 (Nat.not_lt_zero _)
      | succ nn ih =>
        intro y_60 y_61 f_62 H locs ls m_66 hI hS k_63 k_64 kp_65 hl
        have g_67 := Int32.toInt_lt p3
        have g_68 := Int32.le_toInt p3
        have g_69 := Int32.toInt_lt y_60
        have g_70 := Int32.le_toInt y_60
        refine lv_iload hx hb dX11_ticksWithWeight_47 (lv_at hl 0 rfl) ?_
        refine lv_iload_n hx hb dX11_ticksWithWeight_49 rfl (lv_at hl 6 rfl) ?_
        refine lv_icmp_ge (tgt := 77) hx hb dX11_ticksWithWeight_50 (by decide) (fun c_71 => ?_) (fun c_71 => ?_)
        · have c_71 := kc_le rfl rfl c_71
          refine lv_iload hx hb dX11_ticksWithWeight_77 (lv_at hl 1 rfl) ?_
          exact W.iret (v := y_61) hx hb hr (fun t ht hW => ⟨⟨y_61, (), rfl, trivial, ⟨f_62, k_ret ht hI, kp_65⟩⟩, hS.F ht⟩) hS.2.2 dX11_ticksWithWeight_79
        · have c_71 := kn_le rfl rfl c_71
          refine lv_aload_n hx hb dX11_ticksWithWeight_53 rfl (lv_at hl 3 rfl) ?_
          refine k_get (ci := 11) (v := .ref (gr g h0 4)) (C := RX11) (T := TX11) (N := 12) hx hb hts (fun _ h0_ => List.mem_cons_of_mem _ (List.mem_append_right _ (List.mem_append_left _ h0_))) hown hK hI i_h0.1 k_63 rfl 4 (by decide) (hts (.fieldLink RX11 41 "DeadlineShare" "paper" "LDeadlineShare$State;") (List.mem_cons_of_mem _ (List.mem_append_left _ (List.mem_of_getElem? (i := 0) rfl)))) (fun _ h9 => h9) rfl dX11_ticksWithWeight_54 ?_
          refine lv_aload_n hx hb dX11_ticksWithWeight_57 rfl (lv_at hl 3 rfl) ?_
          refine k_get (ci := 11) (v := .ref (gr g h0 5)) (C := RX11) (T := TX11) (N := 12) hx hb hts (fun _ h0_ => List.mem_cons_of_mem _ (List.mem_append_right _ (List.mem_append_left _ h0_))) hown hK hI i_h0.1 k_63 rfl 5 (by decide) (hts (.fieldLink RX11 47 "DeadlineShare" "asTold" "LDeadlineShare$Chooser;") (List.mem_cons_of_mem _ (List.mem_append_left _ (List.mem_of_getElem? (i := 8) rfl)))) (fun _ h9 => h9) rfl dX11_ticksWithWeight_58 ?_
          have i_75 := kw_11_5 hG i_h0
          obtain ⟨x_77, x_78, x_79, x_80, x_81, k_76, b_82, b_83⟩ := op_6 hI i_4
          refine va_calli (va_runV (As := [.ref (gr g h0 5)]) (rest := []) ⟨hx, hb, hml, hown, hts⟩ (c_X6_tick l dC dI g A hG f_62 (gr g h0 4) (gr g h0 5) i_4 i_75) (cwV 1 hts (gi_V (fun w_ h0_ => ⟨List.mem_cons_of_mem _ (List.mem_append_right _ (List.mem_append_right _ (List.mem_append_right _ (List.mem_append_right _ (List.mem_append_right _ (List.mem_append_left _ h0_)))))), (tb_c_X6_tick w_ h0_).2⟩) (List.mem_cons_of_mem _ (List.mem_append_left _ (List.mem_of_getElem? (i := 9) rfl))) (List.mem_cons_of_mem _ (List.mem_append_left _ (List.mem_of_getElem? (i := 10) rfl))) (List.mem_cons_of_mem _ (List.mem_append_left _ (List.mem_of_getElem? (i := 11) rfl))) (List.mem_cons_of_mem _ (List.mem_append_left _ (List.mem_of_getElem? (i := 5) rfl)))) rfl rfl rfl (by decide +kernel) ⟨Nat.le_of_ble_eq_true rfl, Nat.le_of_ble_eq_true rfl⟩) ⟨fun a U g mk q => ⟨q.1, q.2.calling rfl rfl⟩, k_recv hK hI i_4.1 k_76 (ci := 6) rfl, fun U hU hW => ⟨rfl, kIn.of hI hK hE hS hU hW⟩⟩ rfl rfl hl.1 rfl (lv_room (Nat.le_of_ble_eq_true rfl)) dX11_ticksWithWeight_61 ⟨Nat.le_of_ble_eq_true rfl, Nat.le_of_ble_eq_true rfl⟩) hS (fun q _ h => h) (fun q h => h) (fun r_86 u t H1 locs ht hvm w_85 hB hz1 hk1 hS => ?_)
          obtain ⟨f_84, hI, kc_87⟩ := hB
          rw [ht] at hI
          have k_89 : f_84 h0 = .inr (11, [.ref (gr g h0 0), .ref (gr g h0 1), .ref (gr g h0 2), .ref (gr g h0 3), .ref (gr g h0 4), .ref (gr g h0 5), .ref (gr g h0 6), .ref (gr g h0 7), .ref (gr g h0 8), .ref (gr g h0 9), .ref (gr g h0 10), .int x_2]) := Kp.at kc_87 i_h0 (by decide) k_63
          have k_90 : f_84 (gr g (gr g h0 4) 1) = .inl (gc g 4, 12, .inr (.inr (.inr (.inr q_34)))) := Kp.at kc_87 i_32 (by decide) k_64
          have kp_91 := Kp.call kp_65 kc_87 (by decide)
          generalize H1 = H at hI hS ⊢
          refine W.widen (k := 0) (n := 0) (Nat.le_of_ble_eq_true rfl) (Nat.le_of_ble_eq_true rfl) ?_
          refine lv_iload_n hx hb dX11_ticksWithWeight_64 rfl (lv_at hl 4 rfl) ?_
          have J_71 : ∀ (y_92 : Int32) (H : Heap) (locs : List Loc) (ls : Array Slot), Iv dC dI g A f_84 H → va_S A s.heap H locs → lv_has ls 7 [(6, .int y_60), (5, .int y_92), (4, .ref a_36), (0, .ref h0), (1, .int p1), (2, .int p2), (3, .int p3)] → W p l e (headSpec wq_c_X11_ticksWithWeight ({ frames := 6, cells := 0, slots := 0, locals := 139 } : Room)).room s m ([.ref h0, .int p1, .int p2, .int p3].toArray) below meth c H locs 0 0 (MQ below (va_Qi (fun (r : Int32) (_ : Unit) => True) (fun (_ : Unit) t => ∃ f1 : Nat → va_E, Iv dC dI g A f1 t.heap ∧ Kp g [0, 5, 6, 8, 10, 23, 24] f f1) A) ([.ref h0, .int p1, .int p2, .int p3].toArray) s 0 0 A) (F0 m 71 ls []) := by
            intro y_92 H locs ls hI hS  hl
            obtain ⟨v_93, ev_93⟩ : ∃ y : Int32, y = y_60 + Int32.ofInt 1 := ⟨_, rfl⟩
            refine lv_iinc (v := v_93) (lv' := [(6, .int v_93), (5, .int y_92), (4, .ref a_36), (0, .ref h0), (1, .int p1), (2, .int p2), (3, .int p3)]) hx hb dX11_ticksWithWeight_71 hl (k := 0) rfl ev_93.symm (by decide) rfl (fun ls hl => ?_)
            have tv_93 := k_inc y_60
            rw [← ev_93] at tv_93
            refine lv_goto (tgt := 47) hx hb dX11_ticksWithWeight_74 (by decide) ?_
            exact ih v_93 y_92 f_84 _ _ _ (by omega) hI hS k_89 k_90 kp_91 (lv_sub hl [0, 1, 2, 3, 4, 5, 6] rfl)
          refine lv_icmp_ne (tgt := 71) hx hb dX11_ticksWithWeight_65 (by decide) (fun c_94 => ?_) (fun c_94 => ?_)
          · have c_94 := kn_eq rfl rfl c_94
            exact J_71 y_61 _ _ _ hI hS  (lv_sub hl [0, 1, 2, 3, 4, 5, 6] rfl)
          · have c_94 := kc_eq rfl rfl c_94
            obtain ⟨v_95, ev_95⟩ : ∃ y : Int32, y = y_61 + Int32.ofInt 1 := ⟨_, rfl⟩
            refine lv_iinc (v := v_95) (lv' := [(5, .int v_95), (6, .int y_60), (4, .ref a_36), (0, .ref h0), (1, .int p1), (2, .int p2), (3, .int p3)]) hx hb dX11_ticksWithWeight_68 hl (k := 1) rfl ev_95.symm (by decide) rfl (fun ls hl => ?_)
            have tv_95 := k_inc y_61
            rw [← ev_95] at tv_95
            exact J_71 v_95 _ _ _ hI hS  (lv_sub hl [1, 0, 2, 3, 4, 5, 6] rfl)
    exact K_47 _ 0 0 f_55 _ _ _ (Nat.lt_succ_self _) hI hS k_56 k_58 kp_59 (lv_sub hl [0, 1, 2, 3, 4, 5, 6] rfl)
  refine lv_icmp_eq (tgt := 41) hx hb dX11_ticksWithWeight_28 (by decide) (fun c_96 => ?_) (fun c_96 => ?_)
  · have c_96 := kc_eq rfl rfl c_96
    exact J_41 f_15 _ _ _ hI hS k_19 k_23 k_33 kp_20 (lv_sub hl [0, 1, 2, 3, 4] rfl)
  · have c_96 := kn_eq rfl rfl c_96
    refine lv_aload_n hx hb dX11_ticksWithWeight_31 rfl (lv_at hl 1 rfl) ?_
    refine k_get (ci := 11) (v := .ref (gr g h0 4)) (C := RX11) (T := TX11) (N := 12) hx hb hts (fun _ h0_ => List.mem_cons_of_mem _ (List.mem_append_right _ (List.mem_append_left _ h0_))) hown hK hI i_h0.1 k_19 rfl 4 (by decide) (hts (.fieldLink RX11 41 "DeadlineShare" "paper" "LDeadlineShare$State;") (List.mem_cons_of_mem _ (List.mem_append_left _ (List.mem_of_getElem? (i := 0) rfl)))) (fun _ h9 => h9) rfl dX11_ticksWithWeight_32 ?_
    refine lv_aload hx hb dX11_ticksWithWeight_35 (lv_at hl 0 rfl) ?_
    refine lv_iload_n hx hb dX11_ticksWithWeight_37 rfl (lv_at hl 3 rfl) ?_
    refine va_callv (va_runV (As := [.ref a_36, .int p2]) (rest := []) ⟨hx, hb, hml, hown, hts⟩ (c_X6_weighAnew l dC dI g A hG f_15 (gr g h0 4) a_36 p2 i_4 i_37) (cwV 2 hts (gi_V (fun w_ h0_ => ⟨List.mem_cons_of_mem _ (List.mem_append_right _ (List.mem_append_right _ (List.mem_append_right _ (List.mem_append_right _ (List.mem_append_right _ (List.mem_append_right _ (List.mem_append_left _ h0_))))))), (tb_c_X6_weighAnew w_ h0_).2⟩) (List.mem_cons_of_mem _ (List.mem_append_left _ (List.mem_of_getElem? (i := 12) rfl))) (List.mem_cons_of_mem _ (List.mem_append_left _ (List.mem_of_getElem? (i := 13) rfl))) (List.mem_cons_of_mem _ (List.mem_append_left _ (List.mem_of_getElem? (i := 14) rfl))) (List.mem_cons_of_mem _ (List.mem_append_left _ (List.mem_of_getElem? (i := 5) rfl)))) rfl rfl rfl (by decide +kernel) ⟨Nat.le_of_ble_eq_true rfl, Nat.le_of_ble_eq_true rfl⟩) ⟨fun a U g mk q => ⟨q.1, q.2.calling rfl rfl⟩, k_recv hK hI i_4.1 k_23 (ci := 6) rfl, fun U hU hW => ⟨rfl, kIn.of hI hK hE hS hU hW⟩⟩ rfl rfl hl.1 rfl (lv_room (Nat.le_of_ble_eq_true rfl)) dX11_ticksWithWeight_38 ⟨Nat.le_of_ble_eq_true rfl, Nat.le_of_ble_eq_true rfl⟩) hS (fun q _ h => h) (fun q h => h) (fun u t H1 locs ht hvm _ hB hz1 hk1 hS => ?_)
    obtain ⟨f_99, hI, kc_101⟩ := hB
    rw [ht] at hI
    have k_103 : f_99 h0 = .inr (11, [.ref (gr g h0 0), .ref (gr g h0 1), .ref (gr g h0 2), .ref (gr g h0 3), .ref (gr g h0 4), .ref (gr g h0 5), .ref (gr g h0 6), .ref (gr g h0 7), .ref (gr g h0 8), .ref (gr g h0 9), .ref (gr g h0 10), .int x_2]) := Kp.at kc_101 i_h0 (by decide) k_19
    have k_104 : f_99 (gr g h0 4) = .inr (6, [.ref (gr g (gr g h0 4) 0), .ref (gr g (gr g h0 4) 1), .ref (gr g (gr g h0 4) 2), .ref (gr g (gr g h0 4) 3), .ref (gr g (gr g h0 4) 4), .int x_24, .int x_25, .long x_26, .int x_27, .int x_28]) := Kp.at kc_101 i_4 (by decide) k_23
    have k_105 : f_99 (gr g (gr g h0 4) 1) = .inl (gc g 4, 12, .inr (.inr (.inr (.inr q_34)))) := Kp.at kc_101 i_32 (by decide) k_33
    have kp_106 := Kp.call kp_20 kc_101 (by decide)
    generalize H1 = H at hI hS ⊢
    refine W.widen (k := 0) (n := 0) (Nat.le_of_ble_eq_true rfl) (Nat.le_of_ble_eq_true rfl) ?_
    exact J_41 f_99 _ _ _ hI hS k_103 k_104 k_105 kp_106 (lv_sub hl [0, 1, 2, 3, 4] rfl)
theorem tw_599 : q_g (.selects RX11 yX11_ticksWithWeight yX11_ticksWithWeight) := ⟨(List.mem_append_left _ (List.mem_of_getElem? (i := 20) (by decide +kernel))), good_of_word (by decide +kernel)⟩
theorem tw_600 : q_g (.instanceMethod yX11_ticksWithWeight) := ⟨(List.mem_append_right _ (List.mem_of_getElem? (i := 1044) (by decide +kernel))), good_of_word (by decide +kernel)⟩
theorem tw_601 : q_g (.methodLink RX11 320 yX11_ticksWithWeight) := ⟨(List.mem_append_right _ (List.mem_of_getElem? (i := 1042) (by decide +kernel))), good_of_word (by decide +kernel)⟩
theorem tw_602 : q_g (.code yX11_least cX11_least 5 (some .int)) := ⟨(List.mem_append_right _ (List.mem_of_getElem? (i := 1041) (by decide +kernel))), good_of_word (by decide +kernel)⟩
def ow_c_X11_least : List Cond := [.fieldLink RX11 37 "DeadlineShare" "now" "LDeadlineShare$State;", .methodLink RX11 130 yX6_has, .instanceMethod yX6_has, .selects RX6 yX6_has yX6_has, .initialized RX6, .methodLink RX11 314 yX11_canTick, .instanceMethod yX11_canTick, .selects RX11 yX11_canTick yX11_canTick, .initialized RX11, .fieldLink RX11 133 "DeadlineShare$State" "tasks" "[LDeadlineShare$Task;", .methodLink RX11 175 yX6_canWeigh, .instanceMethod yX6_canWeigh, .selects RX6 yX6_canWeigh yX6_canWeigh, .methodLink RX11 320 yX11_ticksWithWeight, .instanceMethod yX11_ticksWithWeight, .selects RX11 yX11_ticksWithWeight yX11_ticksWithWeight]
def wq_c_X11_least : List Cond := .code yX11_least cX11_least 5 (some .int) :: (ow_c_X11_least ++ (u_ws RX11 TX11 12 ++ (wq_c_X6_has ++ (wq_c_X11_canTick ++ (u_ws RX6 TX6 10 ++ (wq_c_X6_canWeigh ++ (wq_c_X11_ticksWithWeight ++ ([] : List Cond))))))))
theorem tb_c_X11_least : ∀ w ∈ wq_c_X11_least, q_g w := by
  unfold wq_c_X11_least ow_c_X11_least
  exact q_cons tw_602 (q_app (q_cons tw_479 (q_cons tw_492 (q_cons tw_74 (q_cons tw_73 (q_cons tw_47 (q_cons tw_592 (q_cons tw_591 (q_cons tw_590 (q_cons tw_56 (q_cons tw_491 (q_cons tw_500 (q_cons tw_335 (q_cons tw_334 (q_cons tw_601 (q_cons tw_600 (q_cons tw_599 q_nil)))))))))))))))) (q_app tu_X11 (q_app tb_c_X6_has (q_app tb_c_X11_canTick (q_app tu_X6 (q_app tb_c_X6_canWeigh (q_app tb_c_X11_ticksWithWeight q_nil)))))))
set_option maxHeartbeats 4000000 in
set_option maxRecDepth 100000 in
theorem c_X11_least (l : Launch) (dC : Nat → ClassId) (dI : Nat → Nat → Nat) (g : kG) (A : Nat → Prop) (hG : kWf g) (f : Nat → va_E) (h0 : Nat) (p1 : Int32) (p2 : Int32) (p3 : Int32) (i_h0 : ik g 11 h0) : Met l yX11_least wq_c_X11_least ({ frames := 7, cells := 0, slots := 0, locals := 165 } : Room) (va_Pc [.ref h0, .int p1, .int p2, .int p3] (fun U => kIn dC dI g A f U)) (va_Qi (fun (r : Int32) (_ : Unit) => True) (fun (_ : Unit) t => ∃ f1 : Nat → va_E, Iv dC dI g A f1 t.heap ∧ Kp g [0, 5, 6, 8, 10, 23, 24] f f1) A) 0 0 A := by
  refine Met.ofW (cc := cX11_least) (maxL := 5) (ret := (some .int)) (by decide) rfl ?_
  intro p e s m args below meth c s₁ B hml hv
  obtain ⟨rfl, hI, hK, hE⟩ := hv
  have hx := B.exec
  have hb := B.bytes
  have hr := B.returns
  have hts := atoms_spec (ws := wq_c_X11_least) B.pre
  have hown : s.vm.findClass RX11 = some m.cls := findClass_of_methodNamed B.named
  have hlocks := B.notSynchronized
  have hS : va_S A s.heap s.heap [] := va_S.rf
  have hk0 : Kp g [0, 5, 6, 8, 10, 23, 24] f f := Kp.rf
  have hl := lv_entry ([.ref h0, .int p1, .int p2, .int p3]) (n := 5) (Nat.le_of_ble_eq_true rfl)
  rw [lg_entry_eq]
  generalize (lg_sl ([.ref h0, .int p1, .int p2, .int p3]) ++ List.replicate (5 - (lg_sl ([.ref h0, .int p1, .int p2, .int p3])).length) Slot.unset).toArray = ls at hl ⊢
  have hl : lv_has ls 5 [(0, .ref h0), (1, .int p1), (2, .int p2), (3, .int p3)] := hl
  refine lv_aload_n hx hb dX11_least_0 rfl (lv_at hl 0 rfl) ?_
  obtain ⟨x_2, k_1⟩ := op_11 hI i_h0
  refine k_get (ci := 11) (v := .ref (gr g h0 3)) (C := RX11) (T := TX11) (N := 12) hx hb hts (fun _ h0_ => List.mem_cons_of_mem _ (List.mem_append_right _ (List.mem_append_left _ h0_))) hown hK hI i_h0.1 k_1 rfl 3 (by decide) (hts (.fieldLink RX11 37 "DeadlineShare" "now" "LDeadlineShare$State;") (List.mem_cons_of_mem _ (List.mem_append_left _ (List.mem_of_getElem? (i := 0) rfl)))) (fun _ h9 => h9) rfl dX11_least_1 ?_
  have i_4 := kw_11_3 hG i_h0
  refine lv_iload_n hx hb dX11_least_4 rfl (lv_at hl 1 rfl) ?_
  obtain ⟨x_6, x_7, x_8, x_9, x_10, k_5, b_11, b_12⟩ := op_6 hI i_4
  refine va_calli (va_runV (As := [.int p1]) (rest := []) ⟨hx, hb, hml, hown, hts⟩ (c_X6_has l dC dI g A hG f (gr g h0 3) p1 i_4) (cwV 1 hts (gi_V (fun w_ h0_ => ⟨List.mem_cons_of_mem _ (List.mem_append_right _ (List.mem_append_right _ (List.mem_append_left _ h0_))), (tb_c_X6_has w_ h0_).2⟩) (List.mem_cons_of_mem _ (List.mem_append_left _ (List.mem_of_getElem? (i := 1) rfl))) (List.mem_cons_of_mem _ (List.mem_append_left _ (List.mem_of_getElem? (i := 2) rfl))) (List.mem_cons_of_mem _ (List.mem_append_left _ (List.mem_of_getElem? (i := 3) rfl))) (List.mem_cons_of_mem _ (List.mem_append_left _ (List.mem_of_getElem? (i := 4) rfl)))) rfl rfl rfl (by decide +kernel) ⟨Nat.le_of_ble_eq_true rfl, Nat.le_of_ble_eq_true rfl⟩) ⟨fun a U g mk q => ⟨q.1, q.2.calling rfl rfl⟩, k_recv hK hI i_4.1 k_5 (ci := 6) rfl, fun U hU hW => ⟨rfl, kIn.of hI hK hE hS hU hW⟩⟩ rfl rfl hl.1 rfl (lv_room (Nat.le_of_ble_eq_true rfl)) dX11_least_5 ⟨Nat.le_of_ble_eq_true rfl, Nat.le_of_ble_eq_true rfl⟩) hS (fun q _ h => h) (fun q h => h) (fun r_14 u t H1 locs ht hvm w_13 hB hz1 hk1 hS => ?_)
  have hI : Iv dC dI g A f t.heap := hB
  rw [ht] at hI
  generalize H1 = H at hI hS ⊢
  refine W.widen (k := 0) (n := 0) (Nat.le_of_ble_eq_true rfl) (Nat.le_of_ble_eq_true rfl) ?_
  have w_13 : r_14.toInt = 0 ∨ (0 ≤ p1.toInt ∧ p1.toInt < 12) := w_13
  refine lv_if_eq (tgt := 28) hx hb dX11_least_8 (by decide) (fun c_15 => ?_) (fun c_15 => ?_)
  · have c_15 := kc_eq rfl (by decide : Int32.toInt 0 = 0) c_15
    refine lv_iconst (v := (-1)) hx hb dX11_least_28 (by decide) ?_
    exact W.iret (v := (-1)) hx hb hr (fun t ht hW => ⟨⟨(-1), (), rfl, trivial, ⟨f, k_ret ht hI, hk0⟩⟩, hS.F ht⟩) hS.2.2 dX11_least_29
  · have c_15 := kn_eq rfl (by decide : Int32.toInt 0 = 0) c_15
    refine lv_aload_n hx hb dX11_least_11 rfl (lv_at hl 0 rfl) ?_
    refine lv_iload_n hx hb dX11_least_12 rfl (lv_at hl 3 rfl) ?_
    refine va_calli (va_runV (As := [.int p3]) (rest := []) ⟨hx, hb, hml, hown, hts⟩ (c_X11_canTick l dC dI g A hG f h0 p3 i_h0) (cwV 1 hts (gi_V (fun w_ h0_ => ⟨List.mem_cons_of_mem _ (List.mem_append_right _ (List.mem_append_right _ (List.mem_append_right _ (List.mem_append_left _ h0_)))), (tb_c_X11_canTick w_ h0_).2⟩) (List.mem_cons_of_mem _ (List.mem_append_left _ (List.mem_of_getElem? (i := 5) rfl))) (List.mem_cons_of_mem _ (List.mem_append_left _ (List.mem_of_getElem? (i := 6) rfl))) (List.mem_cons_of_mem _ (List.mem_append_left _ (List.mem_of_getElem? (i := 7) rfl))) (List.mem_cons_of_mem _ (List.mem_append_left _ (List.mem_of_getElem? (i := 8) rfl)))) rfl rfl rfl (by decide +kernel) ⟨Nat.le_of_ble_eq_true rfl, Nat.le_of_ble_eq_true rfl⟩) ⟨fun a U g mk q => ⟨q.1, q.2.calling rfl rfl⟩, k_recv hK hI i_h0.1 k_1 (ci := 11) rfl, fun U hU hW => ⟨rfl, kIn.of hI hK hE hS hU hW⟩⟩ rfl rfl hl.1 rfl (lv_room (Nat.le_of_ble_eq_true rfl)) dX11_least_13 ⟨Nat.le_of_ble_eq_true rfl, Nat.le_of_ble_eq_true rfl⟩) hS (fun q _ h => h) (fun q h => h) (fun r_17 u t H1 locs ht hvm w_16 hB hz1 hk1 hS => ?_)
    have hI : Iv dC dI g A f t.heap := hB
    rw [ht] at hI
    generalize H1 = H at hI hS ⊢
    refine W.widen (k := 0) (n := 0) (Nat.le_of_ble_eq_true rfl) (Nat.le_of_ble_eq_true rfl) ?_
    refine lv_if_eq (tgt := 28) hx hb dX11_least_16 (by decide) (fun c_18 => ?_) (fun c_18 => ?_)
    · have c_18 := kc_eq rfl (by decide : Int32.toInt 0 = 0) c_18
      refine lv_iconst (v := (-1)) hx hb dX11_least_28 (by decide) ?_
      exact W.iret (v := (-1)) hx hb hr (fun t ht hW => ⟨⟨(-1), (), rfl, trivial, ⟨f, k_ret ht hI, hk0⟩⟩, hS.F ht⟩) hS.2.2 dX11_least_29
    · have c_18 := kn_eq rfl (by decide : Int32.toInt 0 = 0) c_18
      refine lv_iload_n hx hb dX11_least_19 rfl (lv_at hl 2 rfl) ?_
      refine lv_if_lt (tgt := 28) hx hb dX11_least_20 (by decide) (fun c_19 => ?_) (fun c_19 => ?_)
      · have c_19 := kc_lt rfl (by decide : Int32.toInt 0 = 0) c_19
        refine lv_iconst (v := (-1)) hx hb dX11_least_28 (by decide) ?_
        exact W.iret (v := (-1)) hx hb hr (fun t ht hW => ⟨⟨(-1), (), rfl, trivial, ⟨f, k_ret ht hI, hk0⟩⟩, hS.F ht⟩) hS.2.2 dX11_least_29
      · have c_19 := kn_lt rfl (by decide : Int32.toInt 0 = 0) c_19
        refine lv_iload_n hx hb dX11_least_23 rfl (lv_at hl 2 rfl) ?_
        refine lv_iload_n hx hb dX11_least_24 rfl (lv_at hl 3 rfl) ?_
        refine lv_icmp_le (tgt := 30) hx hb dX11_least_25 (by decide) (fun c_20 => ?_) (fun c_20 => ?_)
        · have c_20 := kc_le rfl rfl c_20
          refine lv_iconst (v := 1) hx hb dX11_least_30 (by decide) ?_
          refine lv_istore (lv' := [(4, .int 1), (0, .ref h0), (1, .int p1), (2, .int p2), (3, .int p3)]) hx hb dX11_least_31 hl (by decide) rfl (fun ls hl => ?_)
          have K_33 : ∀ (nn : Nat) (y_21 : Int32) (f_22 : Nat → va_E) (H : Heap) (locs : List Loc) (ls : Array Slot), (9 - y_21.toInt).toNat < nn → Iv dC dI g A f_22 H → va_S A s.heap H locs → f_22 h0 = .inr (11, [.ref (gr g h0 0), .ref (gr g h0 1), .ref (gr g h0 2), .ref (gr g h0 3), .ref (gr g h0 4), .ref (gr g h0 5), .ref (gr g h0 6), .ref (gr g h0 7), .ref (gr g h0 8), .ref (gr g h0 9), .ref (gr g h0 10), .int x_2]) → Kp g [0, 5, 6, 8, 10, 23, 24] f f_22 → 0 ≤ y_21.toInt → lv_has ls 5 [(4, .int y_21), (0, .ref h0), (1, .int p1), (2, .int p2), (3, .int p3)] → W p l e (headSpec wq_c_X11_least ({ frames := 7, cells := 0, slots := 0, locals := 165 } : Room)).room s m ([.ref h0, .int p1, .int p2, .int p3].toArray) below meth c H locs 0 0 (MQ below (va_Qi (fun (r : Int32) (_ : Unit) => True) (fun (_ : Unit) t => ∃ f1 : Nat → va_E, Iv dC dI g A f1 t.heap ∧ Kp g [0, 5, 6, 8, 10, 23, 24] f f1) A) ([.ref h0, .int p1, .int p2, .int p3].toArray) s 0 0 A) (F0 m 33 ls []) := by
            intro nn
            induction nn with
            | zero => intro y_21 f_22 H locs ls m_26; exact absurd m_26 (Nat.not_lt_zero _)
            | succ nn ih =>
              intro y_21 f_22 H locs ls m_26 hI hS k_23 kp_24 t_25 hl
              have g_27 := Int32.toInt_lt y_21
              have g_28 := Int32.le_toInt y_21
              refine lv_iload hx hb dX11_least_33 (lv_at hl 0 rfl) ?_
              refine lv_bipush (v := 8) hx hb dX11_least_35 (by decide) ?_
              refine lv_icmp_gt (tgt := 82) hx hb dX11_least_37 (by decide) (fun c_29 => ?_) (fun c_29 => ?_)
              · have c_29 := kc_lt (by decide : Int32.toInt 8 = 8) rfl c_29
                refine lv_iconst (v := (-1)) hx hb dX11_least_82 (by decide) ?_
                exact W.iret (v := (-1)) hx hb hr (fun t ht hW => ⟨⟨(-1), (), rfl, trivial, ⟨f_22, k_ret ht hI, kp_24⟩⟩, hS.F ht⟩) hS.2.2 dX11_least_83
              · have c_29 := kn_lt (by decide : Int32.toInt 8 = 8) rfl c_29
                refine lv_aload_n hx hb dX11_least_40 rfl (lv_at hl 1 rfl) ?_
                refine k_get (ci := 11) (v := .ref (gr g h0 3)) (C := RX11) (T := TX11) (N := 12) hx hb hts (fun _ h0_ => List.mem_cons_of_mem _ (List.mem_append_right _ (List.mem_append_left _ h0_))) hown hK hI i_h0.1 k_23 rfl 3 (by decide) (hts (.fieldLink RX11 37 "DeadlineShare" "now" "LDeadlineShare$State;") (List.mem_cons_of_mem _ (List.mem_append_left _ (List.mem_of_getElem? (i := 0) rfl)))) (fun _ h9 => h9) rfl dX11_least_41 ?_
                refine lv_aload_n hx hb dX11_least_44 rfl (lv_at hl 1 rfl) ?_
                refine k_get (ci := 11) (v := .ref (gr g h0 3)) (C := RX11) (T := TX11) (N := 12) hx hb hts (fun _ h0_ => List.mem_cons_of_mem _ (List.mem_append_right _ (List.mem_append_left _ h0_))) hown hK hI i_h0.1 k_23 rfl 3 (by decide) (hts (.fieldLink RX11 37 "DeadlineShare" "now" "LDeadlineShare$State;") (List.mem_cons_of_mem _ (List.mem_append_left _ (List.mem_of_getElem? (i := 0) rfl)))) (fun _ h9 => h9) rfl dX11_least_45 ?_
                obtain ⟨x_35, x_36, x_37, x_38, x_39, k_34, b_40, b_41⟩ := op_6 hI i_4
                refine k_get (ci := 6) (v := .ref (gr g (gr g h0 3) 1)) (C := RX6) (T := TX6) (N := 10) hx hb hts (fun _ h0_ => List.mem_cons_of_mem _ (List.mem_append_right _ (List.mem_append_right _ (List.mem_append_right _ (List.mem_append_right _ (List.mem_append_left _ h0_)))))) hown hK hI i_4.1 k_34 rfl 1 (by decide) (hts (.fieldLink RX11 133 "DeadlineShare$State" "tasks" "[LDeadlineShare$Task;") (List.mem_cons_of_mem _ (List.mem_append_left _ (List.mem_of_getElem? (i := 9) rfl)))) (fun _ h9 => h9) rfl dX11_least_48 ?_
                have i_43 := kw_6_1 hG i_4
                refine lv_iload_n hx hb dX11_least_51 rfl (lv_at hl 2 rfl) ?_
                obtain ⟨q_45, k_44, b_46⟩ := op_20 hI i_43
                refine k_aald hx hb hK hI i_43.1 4 k_44 rfl (vp_in_iff.mpr (by omega)) b_46 (fun _ hj => kw_20 hG i_43 hj) dX11_least_52 (fun a_47 i_48 => ?_)
                refine lv_iload hx hb dX11_least_53 (lv_at hl 0 rfl) ?_
                refine va_calli (va_runV (As := [.ref a_47, .int y_21]) (rest := []) ⟨hx, hb, hml, hown, hts⟩ (c_X6_canWeigh l dC dI g A hG f_22 (gr g h0 3) a_47 y_21 i_4 i_48) (cwV 2 hts (gi_V (fun w_ h0_ => ⟨List.mem_cons_of_mem _ (List.mem_append_right _ (List.mem_append_right _ (List.mem_append_right _ (List.mem_append_right _ (List.mem_append_right _ (List.mem_append_left _ h0_)))))), (tb_c_X6_canWeigh w_ h0_).2⟩) (List.mem_cons_of_mem _ (List.mem_append_left _ (List.mem_of_getElem? (i := 10) rfl))) (List.mem_cons_of_mem _ (List.mem_append_left _ (List.mem_of_getElem? (i := 11) rfl))) (List.mem_cons_of_mem _ (List.mem_append_left _ (List.mem_of_getElem? (i := 12) rfl))) (List.mem_cons_of_mem _ (List.mem_append_left _ (List.mem_of_getElem? (i := 4) rfl)))) rfl rfl rfl (by decide +kernel) ⟨Nat.le_of_ble_eq_true rfl, Nat.le_of_ble_eq_true rfl⟩) ⟨fun a U g mk q => ⟨q.1, q.2.calling rfl rfl⟩, k_recv hK hI i_4.1 k_34 (ci := 6) rfl, fun U hU hW => ⟨rfl, kIn.of hI hK hE hS hU hW⟩⟩ rfl rfl hl.1 rfl (lv_room (Nat.le_of_ble_eq_true rfl)) dX11_least_55 ⟨Nat.le_of_ble_eq_true rfl, Nat.le_of_ble_eq_true rfl⟩) hS (fun q _ h => h) (fun q h => h) (fun r_50 u t H1 locs ht hvm w_49 hB hz1 hk1 hS => ?_)
                have hI : Iv dC dI g A f_22 t.heap := hB
                rw [ht] at hI
                generalize H1 = H at hI hS ⊢
                refine W.widen (k := 0) (n := 0) (Nat.le_of_ble_eq_true rfl) (Nat.le_of_ble_eq_true rfl) ?_
                have J_76 : ∀ (f_51 : Nat → va_E) (H : Heap) (locs : List Loc) (ls : Array Slot), Iv dC dI g A f_51 H → va_S A s.heap H locs → f_51 h0 = .inr (11, [.ref (gr g h0 0), .ref (gr g h0 1), .ref (gr g h0 2), .ref (gr g h0 3), .ref (gr g h0 4), .ref (gr g h0 5), .ref (gr g h0 6), .ref (gr g h0 7), .ref (gr g h0 8), .ref (gr g h0 9), .ref (gr g h0 10), .int x_2]) → f_51 (gr g (gr g h0 3) 1) = .inl (gc g 4, 12, .inr (.inr (.inr (.inr q_45)))) → Kp g [0, 5, 6, 8, 10, 23, 24] f f_51 → lv_has ls 5 [(4, .int y_21), (0, .ref h0), (1, .int p1), (2, .int p2), (3, .int p3)] → W p l e (headSpec wq_c_X11_least ({ frames := 7, cells := 0, slots := 0, locals := 165 } : Room)).room s m ([.ref h0, .int p1, .int p2, .int p3].toArray) below meth c H locs 0 0 (MQ below (va_Qi (fun (r : Int32) (_ : Unit) => True) (fun (_ : Unit) t => ∃ f1 : Nat → va_E, Iv dC dI g A f1 t.heap ∧ Kp g [0, 5, 6, 8, 10, 23, 24] f f1) A) ([.ref h0, .int p1, .int p2, .int p3].toArray) s 0 0 A) (F0 m 76 ls []) := by
                  intro f_51 H locs ls hI hS k_52 k_53 kp_54 hl
                  obtain ⟨v_55, ev_55⟩ : ∃ y : Int32, y = y_21 + Int32.ofInt 1 := ⟨_, rfl⟩
                  refine lv_iinc (v := v_55) (lv' := [(4, .int v_55), (0, .ref h0), (1, .int p1), (2, .int p2), (3, .int p3)]) hx hb dX11_least_76 hl (k := 0) rfl ev_55.symm (by decide) rfl (fun ls hl => ?_)
                  have tv_55 := k_inc y_21
                  rw [← ev_55] at tv_55
                  refine lv_goto (tgt := 33) hx hb dX11_least_79 (by decide) ?_
                  exact ih v_55 f_51 _ _ _ (by omega) hI hS k_52 kp_54 (by first | omega | decide) (lv_sub hl [0, 1, 2, 3, 4] rfl)
                refine lv_if_eq (tgt := 76) hx hb dX11_least_58 (by decide) (fun c_56 => ?_) (fun c_56 => ?_)
                · have c_56 := kc_eq rfl (by decide : Int32.toInt 0 = 0) c_56
                  exact J_76 f_22 _ _ _ hI hS k_23 k_44 kp_24 (lv_sub hl [0, 1, 2, 3, 4] rfl)
                · have c_56 := kn_eq rfl (by decide : Int32.toInt 0 = 0) c_56
                  refine lv_aload_n hx hb dX11_least_61 rfl (lv_at hl 1 rfl) ?_
                  refine lv_iload_n hx hb dX11_least_62 rfl (lv_at hl 2 rfl) ?_
                  refine lv_iload hx hb dX11_least_63 (lv_at hl 0 rfl) ?_
                  refine lv_iload_n hx hb dX11_least_65 rfl (lv_at hl 4 rfl) ?_
                  refine va_calli (va_runV (As := [.int p1, .int y_21, .int p3]) (rest := []) ⟨hx, hb, hml, hown, hts⟩ (c_X11_ticksWithWeight l dC dI g A hG f_22 h0 p1 y_21 p3 i_h0 (by omega)) (cwV 3 hts (gi_V (fun w_ h0_ => ⟨List.mem_cons_of_mem _ (List.mem_append_right _ (List.mem_append_right _ (List.mem_append_right _ (List.mem_append_right _ (List.mem_append_right _ (List.mem_append_right _ (List.mem_append_left _ h0_))))))), (tb_c_X11_ticksWithWeight w_ h0_).2⟩) (List.mem_cons_of_mem _ (List.mem_append_left _ (List.mem_of_getElem? (i := 13) rfl))) (List.mem_cons_of_mem _ (List.mem_append_left _ (List.mem_of_getElem? (i := 14) rfl))) (List.mem_cons_of_mem _ (List.mem_append_left _ (List.mem_of_getElem? (i := 15) rfl))) (List.mem_cons_of_mem _ (List.mem_append_left _ (List.mem_of_getElem? (i := 8) rfl)))) rfl rfl rfl (by decide +kernel) ⟨Nat.le_of_ble_eq_true rfl, Nat.le_of_ble_eq_true rfl⟩) ⟨fun a U g mk q => ⟨q.1, q.2.calling rfl rfl⟩, k_recv hK hI i_h0.1 k_23 (ci := 11) rfl, fun U hU hW => ⟨rfl, kIn.of hI hK hE hS hU hW⟩⟩ rfl rfl hl.1 rfl (lv_room (Nat.le_of_ble_eq_true rfl)) dX11_least_66 ⟨Nat.le_of_ble_eq_true rfl, Nat.le_of_ble_eq_true rfl⟩) hS (fun q _ h => h) (fun q h => h) (fun r_59 u t H1 locs ht hvm w_58 hB hz1 hk1 hS => ?_)
                  obtain ⟨f_57, hI, kc_60⟩ := hB
                  rw [ht] at hI
                  have k_62 : f_57 h0 = .inr (11, [.ref (gr g h0 0), .ref (gr g h0 1), .ref (gr g h0 2), .ref (gr g h0 3), .ref (gr g h0 4), .ref (gr g h0 5), .ref (gr g h0 6), .ref (gr g h0 7), .ref (gr g h0 8), .ref (gr g h0 9), .ref (gr g h0 10), .int x_2]) := Kp.at kc_60 i_h0 (by decide) k_23
                  have k_63 : f_57 (gr g (gr g h0 3) 1) = .inl (gc g 4, 12, .inr (.inr (.inr (.inr q_45)))) := Kp.at kc_60 i_43 (by decide) k_44
                  have kp_64 := Kp.call kp_24 kc_60 (by decide)
                  generalize H1 = H at hI hS ⊢
                  refine W.widen (k := 0) (n := 0) (Nat.le_of_ble_eq_true rfl) (Nat.le_of_ble_eq_true rfl) ?_
                  refine lv_iload_n hx hb dX11_least_69 rfl (lv_at hl 3 rfl) ?_
                  refine lv_icmp_lt (tgt := 76) hx hb dX11_least_70 (by decide) (fun c_65 => ?_) (fun c_65 => ?_)
                  · have c_65 := kc_lt rfl rfl c_65
                    exact J_76 f_57 _ _ _ hI hS k_62 k_63 kp_64 (lv_sub hl [0, 1, 2, 3, 4] rfl)
                  · have c_65 := kn_lt rfl rfl c_65
                    refine lv_iload hx hb dX11_least_73 (lv_at hl 0 rfl) ?_
                    exact W.iret (v := y_21) hx hb hr (fun t ht hW => ⟨⟨y_21, (), rfl, trivial, ⟨f_57, k_ret ht hI, kp_64⟩⟩, hS.F ht⟩) hS.2.2 dX11_least_75
          exact K_33 _ 1 f _ _ _ (Nat.lt_succ_self _) hI hS k_1 hk0 (by first | omega | decide) (lv_sub hl [0, 1, 2, 3, 4] rfl)
        · have c_20 := kn_le rfl rfl c_20
          refine lv_iconst (v := (-1)) hx hb dX11_least_28 (by decide) ?_
          exact W.iret (v := (-1)) hx hb hr (fun t ht hW => ⟨⟨(-1), (), rfl, trivial, ⟨f, k_ret ht hI, hk0⟩⟩, hS.F ht⟩) hS.2.2 dX11_least_29
theorem tw_603 : q_g (.selects RX6 yX6_lagEdge yX6_lagEdge) := ⟨(List.mem_append_right _ (List.mem_of_getElem? (i := 1057) (by decide +kernel))), good_of_word (by decide +kernel)⟩
theorem tw_604 : q_g (.instanceMethod yX6_lagEdge) := ⟨(List.mem_append_right _ (List.mem_of_getElem? (i := 1056) (by decide +kernel))), good_of_word (by decide +kernel)⟩
theorem tw_605 : q_g (.methodLink RX11 332 yX6_lagEdge) := ⟨(List.mem_append_right _ (List.mem_of_getElem? (i := 1055) (by decide +kernel))), good_of_word (by decide +kernel)⟩
theorem tw_606 : q_g (.fieldLink RX11 329 "DeadlineShare$State" "last" "I") := ⟨(List.mem_append_right _ (List.mem_of_getElem? (i := 242) (by decide +kernel))), good_of_word (by decide +kernel)⟩
theorem tw_607 : q_g (.selects RX0 yX0_start yX0_start) := ⟨(List.mem_append_right _ (List.mem_of_getElem? (i := 1053) (by decide +kernel))), good_of_word (by decide +kernel)⟩
theorem tw_608 : q_g (.instanceMethod yX0_start) := ⟨(List.mem_append_right _ (List.mem_of_getElem? (i := 1052) (by decide +kernel))), good_of_word (by decide +kernel)⟩
theorem tw_609 : q_g (.methodLink RX11 326 yX0_start) := ⟨(List.mem_append_right _ (List.mem_of_getElem? (i := 1051) (by decide +kernel))), good_of_word (by decide +kernel)⟩
theorem tw_610 : q_g (.fieldLink RX11 51 "DeadlineShare" "onPaper" "LDeadlineShare$Chooser;") := ⟨(List.mem_append_right _ (List.mem_of_getElem? (i := 326) (by decide +kernel))), good_of_word (by decide +kernel)⟩
theorem tw_611 : q_g (.constant RX11 325 (-2147483648)) := ⟨(List.mem_append_right _ (List.mem_of_getElem? (i := 1050) (by decide +kernel))), good_of_word (by decide +kernel)⟩
theorem tw_612 : q_g (.code yX11_would cX11_would 11 (some .int)) := ⟨(List.mem_append_right _ (List.mem_of_getElem? (i := 1049) (by decide +kernel))), good_of_word (by decide +kernel)⟩
def ow_c_X11_would : List Cond := [.constant RX11 325 (-2147483648), .methodLink RX11 314 yX11_canTick, .instanceMethod yX11_canTick, .selects RX11 yX11_canTick yX11_canTick, .initialized RX11, .fieldLink RX11 41 "DeadlineShare" "paper" "LDeadlineShare$State;", .fieldLink RX11 37 "DeadlineShare" "now" "LDeadlineShare$State;", .methodLink RX11 238 yX6_copy, .instanceMethod yX6_copy, .selects RX6 yX6_copy yX6_copy, .initialized RX6, .fieldLink RX11 51 "DeadlineShare" "onPaper" "LDeadlineShare$Chooser;", .methodLink RX11 326 yX0_start, .instanceMethod yX0_start, .selects RX0 yX0_start yX0_start, .initialized RX0, .fieldLink RX11 329 "DeadlineShare$State" "last" "I", .methodLink RX11 226 yX6_tick, .instanceMethod yX6_tick, .selects RX6 yX6_tick yX6_tick, .methodLink RX11 332 yX6_lagEdge, .instanceMethod yX6_lagEdge, .selects RX6 yX6_lagEdge yX6_lagEdge]
def wq_c_X11_would : List Cond := .code yX11_would cX11_would 11 (some .int) :: (ow_c_X11_would ++ (wq_c_X11_canTick ++ (u_ws RX11 TX11 12 ++ (wq_c_X6_copy ++ (wq_c_X0_start ++ (u_ws RX6 TX6 10 ++ (wq_c_X6_tick ++ (wq_c_X6_lagEdge ++ ([] : List Cond)))))))))
theorem tb_c_X11_would : ∀ w ∈ wq_c_X11_would, q_g w := by
  unfold wq_c_X11_would ow_c_X11_would
  exact q_cons tw_612 (q_app (q_cons tw_611 (q_cons tw_592 (q_cons tw_591 (q_cons tw_590 (q_cons tw_56 (q_cons tw_589 (q_cons tw_479 (q_cons tw_532 (q_cons tw_160 (q_cons tw_159 (q_cons tw_47 (q_cons tw_610 (q_cons tw_609 (q_cons tw_608 (q_cons tw_607 (q_cons tw_93 (q_cons tw_606 (q_cons tw_521 (q_cons tw_520 (q_cons tw_519 (q_cons tw_605 (q_cons tw_604 (q_cons tw_603 q_nil))))))))))))))))))))))) (q_app tb_c_X11_canTick (q_app tu_X11 (q_app tb_c_X6_copy (q_app tb_c_X0_start (q_app tu_X6 (q_app tb_c_X6_tick (q_app tb_c_X6_lagEdge q_nil))))))))
set_option maxHeartbeats 4000000 in
set_option maxRecDepth 100000 in
theorem c_X11_would (l : Launch) (dC : Nat → ClassId) (dI : Nat → Nat → Nat) (g : kG) (A : Nat → Prop) (hG : kWf g) (f : Nat → va_E) (h0 : Nat) (p1 : Int32) (p2 : Int32) (p3 : Int32) (i_h0 : ik g 11 h0) : Met l yX11_would wq_c_X11_would ({ frames := 6, cells := 0, slots := 0, locals := 139 } : Room) (va_Pc [.ref h0, .int p1, .int p2, .int p3] (fun U => kIn dC dI g A f U)) (va_Qi (fun (r : Int32) (_ : Unit) => True) (fun (_ : Unit) t => ∃ f1 : Nat → va_E, Iv dC dI g A f1 t.heap ∧ Kp g [0, 5, 6, 8, 10, 23, 24] f f1) A) 0 0 A := by
  refine Met.ofW (cc := cX11_would) (maxL := 11) (ret := (some .int)) (by decide) rfl ?_
  intro p e s m args below meth c s₁ B hml hv
  obtain ⟨rfl, hI, hK, hE⟩ := hv
  have hx := B.exec
  have hb := B.bytes
  have hr := B.returns
  have hts := atoms_spec (ws := wq_c_X11_would) B.pre
  have hown : s.vm.findClass RX11 = some m.cls := findClass_of_methodNamed B.named
  have hlocks := B.notSynchronized
  have hS : va_S A s.heap s.heap [] := va_S.rf
  have hk0 : Kp g [0, 5, 6, 8, 10, 23, 24] f f := Kp.rf
  have hl := lv_entry ([.ref h0, .int p1, .int p2, .int p3]) (n := 11) (Nat.le_of_ble_eq_true rfl)
  rw [lg_entry_eq]
  generalize (lg_sl ([.ref h0, .int p1, .int p2, .int p3]) ++ List.replicate (11 - (lg_sl ([.ref h0, .int p1, .int p2, .int p3])).length) Slot.unset).toArray = ls at hl ⊢
  have hl : lv_has ls 11 [(0, .ref h0), (1, .int p1), (2, .int p2), (3, .int p3)] := hl
  refine lv_iload_n hx hb dX11_would_0 rfl (lv_at hl 1 rfl) ?_
  refine lv_if_lt (tgt := 26) hx hb dX11_would_1 (by decide) (fun c_1 => ?_) (fun c_1 => ?_)
  · have c_1 := kc_lt rfl (by decide : Int32.toInt 0 = 0) c_1
    refine lv_ldcw hx hb hown (hts (.constant RX11 325 (-2147483648)) (List.mem_cons_of_mem _ (List.mem_append_left _ (List.mem_of_getElem? (i := 0) rfl)))) dX11_would_26 ?_
    exact W.iret (v := (-2147483648)) hx hb hr (fun t ht hW => ⟨⟨(-2147483648), (), rfl, trivial, ⟨f, k_ret ht hI, hk0⟩⟩, hS.F ht⟩) hS.2.2 dX11_would_29
  · have c_1 := kn_lt rfl (by decide : Int32.toInt 0 = 0) c_1
    refine lv_iload_n hx hb dX11_would_4 rfl (lv_at hl 1 rfl) ?_
    refine lv_iconst (v := 4) hx hb dX11_would_5 (by decide) ?_
    refine lv_icmp_gt (tgt := 26) hx hb dX11_would_6 (by decide) (fun c_2 => ?_) (fun c_2 => ?_)
    · have c_2 := kc_lt (by decide : Int32.toInt 4 = 4) rfl c_2
      refine lv_ldcw hx hb hown (hts (.constant RX11 325 (-2147483648)) (List.mem_cons_of_mem _ (List.mem_append_left _ (List.mem_of_getElem? (i := 0) rfl)))) dX11_would_26 ?_
      exact W.iret (v := (-2147483648)) hx hb hr (fun t ht hW => ⟨⟨(-2147483648), (), rfl, trivial, ⟨f, k_ret ht hI, hk0⟩⟩, hS.F ht⟩) hS.2.2 dX11_would_29
    · have c_2 := kn_lt (by decide : Int32.toInt 4 = 4) rfl c_2
      refine lv_aload_n hx hb dX11_would_9 rfl (lv_at hl 0 rfl) ?_
      refine lv_iload_n hx hb dX11_would_10 rfl (lv_at hl 2 rfl) ?_
      obtain ⟨x_4, k_3⟩ := op_11 hI i_h0
      refine va_calli (va_runV (As := [.int p2]) (rest := []) ⟨hx, hb, hml, hown, hts⟩ (c_X11_canTick l dC dI g A hG f h0 p2 i_h0) (cwV 1 hts (gi_V (fun w_ h0_ => ⟨List.mem_cons_of_mem _ (List.mem_append_right _ (List.mem_append_left _ h0_)), (tb_c_X11_canTick w_ h0_).2⟩) (List.mem_cons_of_mem _ (List.mem_append_left _ (List.mem_of_getElem? (i := 1) rfl))) (List.mem_cons_of_mem _ (List.mem_append_left _ (List.mem_of_getElem? (i := 2) rfl))) (List.mem_cons_of_mem _ (List.mem_append_left _ (List.mem_of_getElem? (i := 3) rfl))) (List.mem_cons_of_mem _ (List.mem_append_left _ (List.mem_of_getElem? (i := 4) rfl)))) rfl rfl rfl (by decide +kernel) ⟨Nat.le_of_ble_eq_true rfl, Nat.le_of_ble_eq_true rfl⟩) ⟨fun a U g mk q => ⟨q.1, q.2.calling rfl rfl⟩, k_recv hK hI i_h0.1 k_3 (ci := 11) rfl, fun U hU hW => ⟨rfl, kIn.of hI hK hE hS hU hW⟩⟩ rfl rfl hl.1 rfl (lv_room (Nat.le_of_ble_eq_true rfl)) dX11_would_11 ⟨Nat.le_of_ble_eq_true rfl, Nat.le_of_ble_eq_true rfl⟩) hS (fun q _ h => h) (fun q h => h) (fun r_6 u t H1 locs ht hvm w_5 hB hz1 hk1 hS => ?_)
      have hI : Iv dC dI g A f t.heap := hB
      rw [ht] at hI
      generalize H1 = H at hI hS ⊢
      refine W.widen (k := 0) (n := 0) (Nat.le_of_ble_eq_true rfl) (Nat.le_of_ble_eq_true rfl) ?_
      refine lv_if_eq (tgt := 26) hx hb dX11_would_14 (by decide) (fun c_7 => ?_) (fun c_7 => ?_)
      · have c_7 := kc_eq rfl (by decide : Int32.toInt 0 = 0) c_7
        refine lv_ldcw hx hb hown (hts (.constant RX11 325 (-2147483648)) (List.mem_cons_of_mem _ (List.mem_append_left _ (List.mem_of_getElem? (i := 0) rfl)))) dX11_would_26 ?_
        exact W.iret (v := (-2147483648)) hx hb hr (fun t ht hW => ⟨⟨(-2147483648), (), rfl, trivial, ⟨f, k_ret ht hI, hk0⟩⟩, hS.F ht⟩) hS.2.2 dX11_would_29
      · have c_7 := kn_eq rfl (by decide : Int32.toInt 0 = 0) c_7
        refine lv_iload_n hx hb dX11_would_17 rfl (lv_at hl 3 rfl) ?_
        refine lv_if_lt (tgt := 26) hx hb dX11_would_18 (by decide) (fun c_8 => ?_) (fun c_8 => ?_)
        · have c_8 := kc_lt rfl (by decide : Int32.toInt 0 = 0) c_8
          refine lv_ldcw hx hb hown (hts (.constant RX11 325 (-2147483648)) (List.mem_cons_of_mem _ (List.mem_append_left _ (List.mem_of_getElem? (i := 0) rfl)))) dX11_would_26 ?_
          exact W.iret (v := (-2147483648)) hx hb hr (fun t ht hW => ⟨⟨(-2147483648), (), rfl, trivial, ⟨f, k_ret ht hI, hk0⟩⟩, hS.F ht⟩) hS.2.2 dX11_would_29
        · have c_8 := kn_lt rfl (by decide : Int32.toInt 0 = 0) c_8
          refine lv_iload_n hx hb dX11_would_21 rfl (lv_at hl 3 rfl) ?_
          refine lv_iconst (v := 3) hx hb dX11_would_22 (by decide) ?_
          refine lv_icmp_le (tgt := 30) hx hb dX11_would_23 (by decide) (fun c_9 => ?_) (fun c_9 => ?_)
          · have c_9 := kc_le rfl (by decide : Int32.toInt 3 = 3) c_9
            refine lv_aload_n hx hb dX11_would_30 rfl (lv_at hl 0 rfl) ?_
            refine k_get (ci := 11) (v := .ref (gr g h0 4)) (C := RX11) (T := TX11) (N := 12) hx hb hts (fun _ h0_ => List.mem_cons_of_mem _ (List.mem_append_right _ (List.mem_append_right _ (List.mem_append_left _ h0_)))) hown hK hI i_h0.1 k_3 rfl 4 (by decide) (hts (.fieldLink RX11 41 "DeadlineShare" "paper" "LDeadlineShare$State;") (List.mem_cons_of_mem _ (List.mem_append_left _ (List.mem_of_getElem? (i := 5) rfl)))) (fun _ h9 => h9) rfl dX11_would_31 ?_
            have i_11 := kw_11_4 hG i_h0
            refine lv_aload_n hx hb dX11_would_34 rfl (lv_at hl 0 rfl) ?_
            refine k_get (ci := 11) (v := .ref (gr g h0 3)) (C := RX11) (T := TX11) (N := 12) hx hb hts (fun _ h0_ => List.mem_cons_of_mem _ (List.mem_append_right _ (List.mem_append_right _ (List.mem_append_left _ h0_)))) hown hK hI i_h0.1 k_3 rfl 3 (by decide) (hts (.fieldLink RX11 37 "DeadlineShare" "now" "LDeadlineShare$State;") (List.mem_cons_of_mem _ (List.mem_append_left _ (List.mem_of_getElem? (i := 6) rfl)))) (fun _ h9 => h9) rfl dX11_would_35 ?_
            have i_13 := kw_11_3 hG i_h0
            obtain ⟨x_15, x_16, x_17, x_18, x_19, k_14, b_20, b_21⟩ := op_6 hI i_11
            refine va_callv (va_runV (As := [.ref (gr g h0 3)]) (rest := []) ⟨hx, hb, hml, hown, hts⟩ (c_X6_copy l dC dI g A hG f (gr g h0 4) (gr g h0 3) i_11 i_13) (cwV 1 hts (gi_V (fun w_ h0_ => ⟨List.mem_cons_of_mem _ (List.mem_append_right _ (List.mem_append_right _ (List.mem_append_right _ (List.mem_append_left _ h0_)))), (tb_c_X6_copy w_ h0_).2⟩) (List.mem_cons_of_mem _ (List.mem_append_left _ (List.mem_of_getElem? (i := 7) rfl))) (List.mem_cons_of_mem _ (List.mem_append_left _ (List.mem_of_getElem? (i := 8) rfl))) (List.mem_cons_of_mem _ (List.mem_append_left _ (List.mem_of_getElem? (i := 9) rfl))) (List.mem_cons_of_mem _ (List.mem_append_left _ (List.mem_of_getElem? (i := 10) rfl)))) rfl rfl rfl (by decide +kernel) ⟨Nat.le_of_ble_eq_true rfl, Nat.le_of_ble_eq_true rfl⟩) ⟨fun a U g mk q => ⟨q.1, q.2.calling rfl rfl⟩, k_recv hK hI i_11.1 k_14 (ci := 6) rfl, fun U hU hW => ⟨rfl, kIn.of hI hK hE hS hU hW⟩⟩ rfl rfl hl.1 rfl (lv_room (Nat.le_of_ble_eq_true rfl)) dX11_would_38 ⟨Nat.le_of_ble_eq_true rfl, Nat.le_of_ble_eq_true rfl⟩) hS (fun q _ h => h) (fun q h => h) (fun u t H1 locs ht hvm _ hB hz1 hk1 hS => ?_)
            obtain ⟨f_22, hI, kc_24⟩ := hB
            rw [ht] at hI
            have k_26 : f_22 h0 = .inr (11, [.ref (gr g h0 0), .ref (gr g h0 1), .ref (gr g h0 2), .ref (gr g h0 3), .ref (gr g h0 4), .ref (gr g h0 5), .ref (gr g h0 6), .ref (gr g h0 7), .ref (gr g h0 8), .ref (gr g h0 9), .ref (gr g h0 10), .int x_4]) := Kp.at kc_24 i_h0 (by decide) k_3
            have kp_27 := Kp.call hk0 kc_24 (by decide)
            generalize H1 = H at hI hS ⊢
            refine W.widen (k := 0) (n := 0) (Nat.le_of_ble_eq_true rfl) (Nat.le_of_ble_eq_true rfl) ?_
            refine lv_aload_n hx hb dX11_would_41 rfl (lv_at hl 0 rfl) ?_
            refine k_get (ci := 11) (v := .ref (gr g h0 6)) (C := RX11) (T := TX11) (N := 12) hx hb hts (fun _ h0_ => List.mem_cons_of_mem _ (List.mem_append_right _ (List.mem_append_right _ (List.mem_append_left _ h0_)))) hown hK hI i_h0.1 k_26 rfl 6 (by decide) (hts (.fieldLink RX11 51 "DeadlineShare" "onPaper" "LDeadlineShare$Chooser;") (List.mem_cons_of_mem _ (List.mem_append_left _ (List.mem_of_getElem? (i := 11) rfl)))) (fun _ h9 => h9) rfl dX11_would_42 ?_
            have i_29 := kw_11_6 hG i_h0
            refine lv_iload_n hx hb dX11_would_45 rfl (lv_at hl 1 rfl) ?_
            obtain ⟨x_31, x_32, k_30⟩ := op_0 hI i_29
            refine va_callv (va_runV (As := [.int p1]) (rest := []) ⟨hx, hb, hml, hown, hts⟩ (c_X0_start l dC dI g A hG f_22 (gr g h0 6) p1 i_29) (cwV 1 hts (gi_V (fun w_ h0_ => ⟨List.mem_cons_of_mem _ (List.mem_append_right _ (List.mem_append_right _ (List.mem_append_right _ (List.mem_append_right _ (List.mem_append_left _ h0_))))), (tb_c_X0_start w_ h0_).2⟩) (List.mem_cons_of_mem _ (List.mem_append_left _ (List.mem_of_getElem? (i := 12) rfl))) (List.mem_cons_of_mem _ (List.mem_append_left _ (List.mem_of_getElem? (i := 13) rfl))) (List.mem_cons_of_mem _ (List.mem_append_left _ (List.mem_of_getElem? (i := 14) rfl))) (List.mem_cons_of_mem _ (List.mem_append_left _ (List.mem_of_getElem? (i := 15) rfl)))) rfl rfl rfl (by decide +kernel) ⟨Nat.le_of_ble_eq_true rfl, Nat.le_of_ble_eq_true rfl⟩) ⟨fun a U g mk q => ⟨q.1, q.2.calling rfl rfl⟩, k_recv hK hI i_29.1 k_30 (ci := 0) rfl, fun U hU hW => ⟨rfl, kIn.of hI hK hE hS hU hW⟩⟩ rfl rfl hl.1 rfl (lv_room (Nat.le_of_ble_eq_true rfl)) dX11_would_46 ⟨Nat.le_of_ble_eq_true rfl, Nat.le_of_ble_eq_true rfl⟩) hS (fun q _ h => h) (fun q h => h) (fun u t H1 locs ht hvm _ hB hz1 hk1 hS => ?_)
            obtain ⟨f_33, hI, kc_35⟩ := hB
            rw [ht] at hI
            have k_37 : f_33 h0 = .inr (11, [.ref (gr g h0 0), .ref (gr g h0 1), .ref (gr g h0 2), .ref (gr g h0 3), .ref (gr g h0 4), .ref (gr g h0 5), .ref (gr g h0 6), .ref (gr g h0 7), .ref (gr g h0 8), .ref (gr g h0 9), .ref (gr g h0 10), .int x_4]) := Kp.at kc_35 i_h0 (by decide) k_26
            have kp_38 := Kp.call kp_27 kc_35 (by decide)
            generalize H1 = H at hI hS ⊢
            refine W.widen (k := 0) (n := 0) (Nat.le_of_ble_eq_true rfl) (Nat.le_of_ble_eq_true rfl) ?_
            refine lv_lconst (v := 0) hx hb dX11_would_49 (by decide) ?_
            refine lv_lstore (lv' := [(4, .long 0), (0, .ref h0), (1, .int p1), (2, .int p2), (3, .int p3)]) hx hb dX11_would_50 hl (by decide) rfl (fun ls hl => ?_)
            refine lv_iconst (v := 0) hx hb dX11_would_52 (by decide) ?_
            refine lv_istore (lv' := [(6, .int 0), (4, .long 0), (0, .ref h0), (1, .int p1), (2, .int p2), (3, .int p3)]) hx hb dX11_would_53 hl (by decide) rfl (fun ls hl => ?_)
            refine lv_iconst (v := 0) hx hb dX11_would_55 (by decide) ?_
            refine lv_istore (lv' := [(7, .int 0), (6, .int 0), (4, .long 0), (0, .ref h0), (1, .int p1), (2, .int p2), (3, .int p3)]) hx hb dX11_would_56 hl (by decide) rfl (fun ls hl => ?_)
            refine lv_iconst (v := 0) hx hb dX11_would_58 (by decide) ?_
            refine lv_istore (lv' := [(8, .int 0), (7, .int 0), (6, .int 0), (4, .long 0), (0, .ref h0), (1, .int p1), (2, .int p2), (3, .int p3)]) hx hb dX11_would_59 hl (by decide) rfl (fun ls hl => ?_)
            have K_61 : ∀ (nn : Nat) (y_39 : Int32) (y_40 : Int32) (y_41 : Int32) (y_42 : Int64) (f_43 : Nat → va_E) (H : Heap) (locs : List Loc) (ls : Array Slot), (p2.toInt - y_39.toInt).toNat < nn → Iv dC dI g A f_43 H → va_S A s.heap H locs → f_43 h0 = .inr (11, [.ref (gr g h0 0), .ref (gr g h0 1), .ref (gr g h0 2), .ref (gr g h0 3), .ref (gr g h0 4), .ref (gr g h0 5), .ref (gr g h0 6), .ref (gr g h0 7), .ref (gr g h0 8), .ref (gr g h0 9), .ref (gr g h0 10), .int x_4]) → Kp g [0, 5, 6, 8, 10, 23, 24] f f_43 → lv_has ls 11 [(8, .int y_39), (7, .int y_40), (6, .int y_41), (4, .long y_42), (0, .ref h0), (1, .int p1), (2, .int p2), (3, .int p3)] → W p l e (headSpec wq_c_X11_would ({ frames := 6, cells := 0, slots := 0, locals := 139 } : Room)).room s m ([.ref h0, .int p1, .int p2, .int p3].toArray) below meth c H locs 0 0 (MQ below (va_Qi (fun (r : Int32) (_ : Unit) => True) (fun (_ : Unit) t => ∃ f1 : Nat → va_E, Iv dC dI g A f1 t.heap ∧ Kp g [0, 5, 6, 8, 10, 23, 24] f f1) A) ([.ref h0, .int p1, .int p2, .int p3].toArray) s 0 0 A) (F0 m 61 ls []) := by
              intro nn
              induction nn with
              | zero => intro y_39 y_40 y_41 y_42 f_43 H locs ls m_46; exact absurd m_46 (Nat.not_lt_zero _)
              | succ nn ih =>
                intro y_39 y_40 y_41 y_42 f_43 H locs ls m_46 hI hS k_44 kp_45 hl
                have g_47 := Int32.toInt_lt p2
                have g_48 := Int32.le_toInt p2
                have g_49 := Int32.toInt_lt y_39
                have g_50 := Int32.le_toInt y_39
                refine lv_iload hx hb dX11_would_61 (lv_at hl 0 rfl) ?_
                refine lv_iload_n hx hb dX11_would_63 rfl (lv_at hl 6 rfl) ?_
                refine lv_icmp_ge (tgt := 137) hx hb dX11_would_64 (by decide) (fun c_51 => ?_) (fun c_51 => ?_)
                · have c_51 := kc_le rfl rfl c_51
                  refine lv_iload_n hx hb dX11_would_137 rfl (lv_at hl 7 rfl) ?_
                  refine lv_iconst (v := 2) hx hb dX11_would_138 (by decide) ?_
                  refine lv_icmp_ne (tgt := 145) hx hb dX11_would_139 (by decide) (fun c_52 => ?_) (fun c_52 => ?_)
                  · have c_52 := kn_eq rfl (by decide : Int32.toInt 2 = 2) c_52
                    refine lv_iload_n hx hb dX11_would_145 rfl (lv_at hl 7 rfl) ?_
                    refine lv_iconst (v := 3) hx hb dX11_would_146 (by decide) ?_
                    refine lv_icmp_ne (tgt := 155) hx hb dX11_would_147 (by decide) (fun c_53 => ?_) (fun c_53 => ?_)
                    · have c_53 := kn_eq rfl (by decide : Int32.toInt 3 = 3) c_53
                      refine lv_lload hx hb dX11_would_155 (lv_at hl 3 rfl) ?_
                      refine lv_l2i (v := y_42.toInt32) hx hb dX11_would_157 rfl ?_
                      exact W.iret (v := y_42.toInt32) hx hb hr (fun t ht hW => ⟨⟨y_42.toInt32, (), rfl, trivial, ⟨f_43, k_ret ht hI, kp_45⟩⟩, hS.F ht⟩) hS.2.2 dX11_would_158
                    · have c_53 := kc_eq rfl (by decide : Int32.toInt 3 = 3) c_53
                      refine lv_iload hx hb dX11_would_150 (lv_at hl 1 rfl) ?_
                      refine lv_goto (tgt := 158) hx hb dX11_would_152 (by decide) ?_
                      exact W.iret (v := y_40) hx hb hr (fun t ht hW => ⟨⟨y_40, (), rfl, trivial, ⟨f_43, k_ret ht hI, kp_45⟩⟩, hS.F ht⟩) hS.2.2 dX11_would_158
                  · have c_52 := kc_eq rfl (by decide : Int32.toInt 2 = 2) c_52
                    refine lv_iload hx hb dX11_would_142 (lv_at hl 2 rfl) ?_
                    exact W.iret (v := y_41) hx hb hr (fun t ht hW => ⟨⟨y_41, (), rfl, trivial, ⟨f_43, k_ret ht hI, kp_45⟩⟩, hS.F ht⟩) hS.2.2 dX11_would_144
                · have c_51 := kn_le rfl rfl c_51
                  refine lv_aload_n hx hb dX11_would_67 rfl (lv_at hl 4 rfl) ?_
                  refine k_get (ci := 11) (v := .ref (gr g h0 4)) (C := RX11) (T := TX11) (N := 12) hx hb hts (fun _ h0_ => List.mem_cons_of_mem _ (List.mem_append_right _ (List.mem_append_right _ (List.mem_append_left _ h0_)))) hown hK hI i_h0.1 k_44 rfl 4 (by decide) (hts (.fieldLink RX11 41 "DeadlineShare" "paper" "LDeadlineShare$State;") (List.mem_cons_of_mem _ (List.mem_append_left _ (List.mem_of_getElem? (i := 5) rfl)))) (fun _ h9 => h9) rfl dX11_would_68 ?_
                  obtain ⟨x_57, x_58, x_59, x_60, x_61, k_56, b_62, b_63⟩ := op_6 hI i_11
                  refine k_get (ci := 6) (v := .int x_60) (C := RX6) (T := TX6) (N := 10) hx hb hts (fun _ h0_ => List.mem_cons_of_mem _ (List.mem_append_right _ (List.mem_append_right _ (List.mem_append_right _ (List.mem_append_right _ (List.mem_append_right _ (List.mem_append_left _ h0_))))))) hown hK hI i_11.1 k_56 rfl 8 (by decide) (hts (.fieldLink RX11 329 "DeadlineShare$State" "last" "I") (List.mem_cons_of_mem _ (List.mem_append_left _ (List.mem_of_getElem? (i := 16) rfl)))) (fun _ h9 => h9) rfl dX11_would_71 ?_
                  refine lv_istore (lv' := [(9, .int x_60), (8, .int y_39), (7, .int y_40), (6, .int y_41), (4, .long y_42), (0, .ref h0), (1, .int p1), (2, .int p2), (3, .int p3)]) hx hb dX11_would_74 hl (by decide) rfl (fun ls hl => ?_)
                  refine lv_aload_n hx hb dX11_would_76 rfl (lv_at hl 5 rfl) ?_
                  refine k_get (ci := 11) (v := .ref (gr g h0 4)) (C := RX11) (T := TX11) (N := 12) hx hb hts (fun _ h0_ => List.mem_cons_of_mem _ (List.mem_append_right _ (List.mem_append_right _ (List.mem_append_left _ h0_)))) hown hK hI i_h0.1 k_44 rfl 4 (by decide) (hts (.fieldLink RX11 41 "DeadlineShare" "paper" "LDeadlineShare$State;") (List.mem_cons_of_mem _ (List.mem_append_left _ (List.mem_of_getElem? (i := 5) rfl)))) (fun _ h9 => h9) rfl dX11_would_77 ?_
                  refine lv_aload_n hx hb dX11_would_80 rfl (lv_at hl 5 rfl) ?_
                  refine k_get (ci := 11) (v := .ref (gr g h0 6)) (C := RX11) (T := TX11) (N := 12) hx hb hts (fun _ h0_ => List.mem_cons_of_mem _ (List.mem_append_right _ (List.mem_append_right _ (List.mem_append_left _ h0_)))) hown hK hI i_h0.1 k_44 rfl 6 (by decide) (hts (.fieldLink RX11 51 "DeadlineShare" "onPaper" "LDeadlineShare$Chooser;") (List.mem_cons_of_mem _ (List.mem_append_left _ (List.mem_of_getElem? (i := 11) rfl)))) (fun _ h9 => h9) rfl dX11_would_81 ?_
                  refine va_calli (va_runV (As := [.ref (gr g h0 6)]) (rest := []) ⟨hx, hb, hml, hown, hts⟩ (c_X6_tick l dC dI g A hG f_43 (gr g h0 4) (gr g h0 6) i_11 i_29) (cwV 1 hts (gi_V (fun w_ h0_ => ⟨List.mem_cons_of_mem _ (List.mem_append_right _ (List.mem_append_right _ (List.mem_append_right _ (List.mem_append_right _ (List.mem_append_right _ (List.mem_append_right _ (List.mem_append_left _ h0_))))))), (tb_c_X6_tick w_ h0_).2⟩) (List.mem_cons_of_mem _ (List.mem_append_left _ (List.mem_of_getElem? (i := 17) rfl))) (List.mem_cons_of_mem _ (List.mem_append_left _ (List.mem_of_getElem? (i := 18) rfl))) (List.mem_cons_of_mem _ (List.mem_append_left _ (List.mem_of_getElem? (i := 19) rfl))) (List.mem_cons_of_mem _ (List.mem_append_left _ (List.mem_of_getElem? (i := 10) rfl)))) rfl rfl rfl (by decide +kernel) ⟨Nat.le_of_ble_eq_true rfl, Nat.le_of_ble_eq_true rfl⟩) ⟨fun a U g mk q => ⟨q.1, q.2.calling rfl rfl⟩, k_recv hK hI i_11.1 k_56 (ci := 6) rfl, fun U hU hW => ⟨rfl, kIn.of hI hK hE hS hU hW⟩⟩ rfl rfl hl.1 rfl (lv_room (Nat.le_of_ble_eq_true rfl)) dX11_would_84 ⟨Nat.le_of_ble_eq_true rfl, Nat.le_of_ble_eq_true rfl⟩) hS (fun q _ h => h) (fun q h => h) (fun r_70 u t H1 locs ht hvm w_69 hB hz1 hk1 hS => ?_)
                  obtain ⟨f_68, hI, kc_71⟩ := hB
                  rw [ht] at hI
                  have k_73 : f_68 h0 = .inr (11, [.ref (gr g h0 0), .ref (gr g h0 1), .ref (gr g h0 2), .ref (gr g h0 3), .ref (gr g h0 4), .ref (gr g h0 5), .ref (gr g h0 6), .ref (gr g h0 7), .ref (gr g h0 8), .ref (gr g h0 9), .ref (gr g h0 10), .int x_4]) := Kp.at kc_71 i_h0 (by decide) k_44
                  have kp_74 := Kp.call kp_45 kc_71 (by decide)
                  generalize H1 = H at hI hS ⊢
                  refine W.widen (k := 0) (n := 0) (Nat.le_of_ble_eq_true rfl) (Nat.le_of_ble_eq_true rfl) ?_
                  refine lv_istore (lv' := [(10, .int r_70), (9, .int x_60), (8, .int y_39), (7, .int y_40), (6, .int y_41), (4, .long y_42), (0, .ref h0), (1, .int p1), (2, .int p2), (3, .int p3)]) hx hb dX11_would_87 hl (by decide) rfl (fun ls hl => ?_)
                  refine lv_iload hx hb dX11_would_89 (lv_at hl 0 rfl) ?_
                  refine lv_iconst (v := (-1)) hx hb dX11_would_91 (by decide) ?_
                  have J_111 : ∀ (y_75 : Int32) (y_76 : Int32) (H : Heap) (locs : List Loc) (ls : Array Slot), Iv dC dI g A f_68 H → va_S A s.heap H locs → lv_has ls 11 [(10, .int r_70), (9, .int x_60), (8, .int y_39), (7, .int y_75), (6, .int y_76), (4, .long y_42), (0, .ref h0), (1, .int p1), (2, .int p2), (3, .int p3)] → W p l e (headSpec wq_c_X11_would ({ frames := 6, cells := 0, slots := 0, locals := 139 } : Room)).room s m ([.ref h0, .int p1, .int p2, .int p3].toArray) below meth c H locs 0 0 (MQ below (va_Qi (fun (r : Int32) (_ : Unit) => True) (fun (_ : Unit) t => ∃ f1 : Nat → va_E, Iv dC dI g A f1 t.heap ∧ Kp g [0, 5, 6, 8, 10, 23, 24] f f1) A) ([.ref h0, .int p1, .int p2, .int p3].toArray) s 0 0 A) (F0 m 111 ls []) := by
                    intro y_75 y_76 H locs ls hI hS  hl
                    refine lv_aload_n hx hb dX11_would_111 rfl (lv_at hl 6 rfl) ?_
                    refine k_get (ci := 11) (v := .ref (gr g h0 4)) (C := RX11) (T := TX11) (N := 12) hx hb hts (fun _ h0_ => List.mem_cons_of_mem _ (List.mem_append_right _ (List.mem_append_right _ (List.mem_append_left _ h0_)))) hown hK hI i_h0.1 k_73 rfl 4 (by decide) (hts (.fieldLink RX11 41 "DeadlineShare" "paper" "LDeadlineShare$State;") (List.mem_cons_of_mem _ (List.mem_append_left _ (List.mem_of_getElem? (i := 5) rfl)))) (fun _ h9 => h9) rfl dX11_would_112 ?_
                    refine lv_lload hx hb dX11_would_115 (lv_at hl 5 rfl) ?_
                    refine lv_iload_n hx hb dX11_would_117 rfl (lv_at hl 9 rfl) ?_
                    have J_126 : ∀ (y_79 : Int32) (y_80 : Int64) (H : Heap) (locs : List Loc) (ls : Array Slot), Iv dC dI g A f_68 H → va_S A s.heap H locs → lv_has ls 11 [(10, .int r_70), (9, .int x_60), (8, .int y_39), (7, .int y_75), (6, .int y_76), (4, .long y_42), (0, .ref h0), (1, .int p1), (2, .int p2), (3, .int p3)] → W p l e (headSpec wq_c_X11_would ({ frames := 6, cells := 0, slots := 0, locals := 139 } : Room)).room s m ([.ref h0, .int p1, .int p2, .int p3].toArray) below meth c H locs 0 0 (MQ below (va_Qi (fun (r : Int32) (_ : Unit) => True) (fun (_ : Unit) t => ∃ f1 : Nat → va_E, Iv dC dI g A f1 t.heap ∧ Kp g [0, 5, 6, 8, 10, 23, 24] f f1) A) ([.ref h0, .int p1, .int p2, .int p3].toArray) s 0 0 A) (F0 m 126 ls [.int y_79, .long y_80, .ref (gr g h0 4)]) := by
                      intro y_79 y_80 H locs ls hI hS  hl
                      obtain ⟨x_82, x_83, x_84, x_85, x_86, k_81, b_87, b_88⟩ := op_6 hI i_11
                      refine va_calll (va_runV (As := [.long y_80, .int y_79]) (rest := []) ⟨hx, hb, hml, hown, hts⟩ (c_X6_lagEdge l dC dI g A hG f_68 (gr g h0 4) y_80 y_79 i_11) (cwV 2 hts (gi_V (fun w_ h0_ => ⟨List.mem_cons_of_mem _ (List.mem_append_right _ (List.mem_append_right _ (List.mem_append_right _ (List.mem_append_right _ (List.mem_append_right _ (List.mem_append_right _ (List.mem_append_right _ (List.mem_append_left _ h0_)))))))), (tb_c_X6_lagEdge w_ h0_).2⟩) (List.mem_cons_of_mem _ (List.mem_append_left _ (List.mem_of_getElem? (i := 20) rfl))) (List.mem_cons_of_mem _ (List.mem_append_left _ (List.mem_of_getElem? (i := 21) rfl))) (List.mem_cons_of_mem _ (List.mem_append_left _ (List.mem_of_getElem? (i := 22) rfl))) (List.mem_cons_of_mem _ (List.mem_append_left _ (List.mem_of_getElem? (i := 10) rfl)))) rfl rfl rfl (by decide +kernel) ⟨Nat.le_of_ble_eq_true rfl, Nat.le_of_ble_eq_true rfl⟩) ⟨fun a U g mk q => ⟨q.1, q.2.calling rfl rfl⟩, k_recv hK hI i_11.1 k_81 (ci := 6) rfl, fun U hU hW => ⟨rfl, kIn.of hI hK hE hS hU hW⟩⟩ rfl rfl hl.1 rfl (lv_room (Nat.le_of_ble_eq_true rfl)) dX11_would_126 ⟨Nat.le_of_ble_eq_true rfl, Nat.le_of_ble_eq_true rfl⟩) hS (fun q _ h => h) (fun q h => h) (fun r_91 u t H1 locs ht hvm w_90 hB hz1 hk1 hS => ?_)
                      obtain ⟨f_89, hI, kc_92⟩ := hB
                      rw [ht] at hI
                      have k_94 : f_89 h0 = .inr (11, [.ref (gr g h0 0), .ref (gr g h0 1), .ref (gr g h0 2), .ref (gr g h0 3), .ref (gr g h0 4), .ref (gr g h0 5), .ref (gr g h0 6), .ref (gr g h0 7), .ref (gr g h0 8), .ref (gr g h0 9), .ref (gr g h0 10), .int x_4]) := Kp.at kc_92 i_h0 (by decide) k_73
                      have k_95 : f_89 (gr g h0 4) = .inr (6, [.ref (gr g (gr g h0 4) 0), .ref (gr g (gr g h0 4) 1), .ref (gr g (gr g h0 4) 2), .ref (gr g (gr g h0 4) 3), .ref (gr g (gr g h0 4) 4), .int x_82, .int x_83, .long x_84, .int x_85, .int x_86]) := Kp.at kc_92 i_11 (by decide) k_81
                      have kp_96 := Kp.call kp_74 kc_92 (by decide)
                      generalize H1 = H at hI hS ⊢
                      refine W.widen (k := 0) (n := 0) (Nat.le_of_ble_eq_true rfl) (Nat.le_of_ble_eq_true rfl) ?_
                      refine lv_lstore (lv' := [(4, .long r_91), (10, .int r_70), (9, .int x_60), (8, .int y_39), (7, .int y_75), (6, .int y_76), (0, .ref h0), (1, .int p1), (2, .int p2), (3, .int p3)]) hx hb dX11_would_129 hl (by decide) rfl (fun ls hl => ?_)
                      obtain ⟨v_97, ev_97⟩ : ∃ y : Int32, y = y_39 + Int32.ofInt 1 := ⟨_, rfl⟩
                      refine lv_iinc (v := v_97) (lv' := [(8, .int v_97), (4, .long r_91), (10, .int r_70), (9, .int x_60), (7, .int y_75), (6, .int y_76), (0, .ref h0), (1, .int p1), (2, .int p2), (3, .int p3)]) hx hb dX11_would_131 hl (k := 3) rfl ev_97.symm (by decide) rfl (fun ls hl => ?_)
                      have tv_97 := k_inc y_39
                      rw [← ev_97] at tv_97
                      refine lv_goto (tgt := 61) hx hb dX11_would_134 (by decide) ?_
                      exact ih v_97 y_75 y_76 r_91 f_89 _ _ _ (by omega) hI hS k_94 kp_96 (lv_sub hl [0, 4, 5, 1, 6, 7, 8, 9] rfl)
                    refine lv_if_ne (tgt := 125) hx hb dX11_would_118 (by decide) (fun c_98 => ?_) (fun c_98 => ?_)
                    · have c_98 := kn_eq rfl (by decide : Int32.toInt 0 = 0) c_98
                      refine lv_iconst (v := 0) hx hb dX11_would_125 (by decide) ?_
                      exact J_126 0 y_42 _ _ _ hI hS  (lv_sub hl [0, 1, 2, 3, 4, 5, 6, 7, 8, 9] rfl)
                    · have c_98 := kc_eq rfl (by decide : Int32.toInt 0 = 0) c_98
                      refine lv_iconst (v := 1) hx hb dX11_would_121 (by decide) ?_
                      refine lv_goto (tgt := 126) hx hb dX11_would_122 (by decide) ?_
                      exact J_126 1 y_42 _ _ _ hI hS  (lv_sub hl [0, 1, 2, 3, 4, 5, 6, 7, 8, 9] rfl)
                  refine lv_icmp_ne (tgt := 101) hx hb dX11_would_92 (by decide) (fun c_99 => ?_) (fun c_99 => ?_)
                  · have c_99 := kn_eq rfl (by decide : Int32.toInt (-1) = (-1)) c_99
                    refine lv_iload hx hb dX11_would_101 (lv_at hl 0 rfl) ?_
                    refine lv_iload hx hb dX11_would_103 (lv_at hl 1 rfl) ?_
                    refine lv_icmp_eq (tgt := 111) hx hb dX11_would_105 (by decide) (fun c_100 => ?_) (fun c_100 => ?_)
                    · have c_100 := kc_eq rfl rfl c_100
                      exact J_111 y_40 y_41 _ _ _ hI hS  (lv_sub hl [0, 1, 2, 3, 4, 5, 6, 7, 8, 9] rfl)
                    · have c_100 := kn_eq rfl rfl c_100
                      obtain ⟨v_101, ev_101⟩ : ∃ y : Int32, y = y_41 + Int32.ofInt 1 := ⟨_, rfl⟩
                      refine lv_iinc (v := v_101) (lv' := [(6, .int v_101), (10, .int r_70), (9, .int x_60), (8, .int y_39), (7, .int y_40), (4, .long y_42), (0, .ref h0), (1, .int p1), (2, .int p2), (3, .int p3)]) hx hb dX11_would_108 hl (k := 4) rfl ev_101.symm (by decide) rfl (fun ls hl => ?_)
                      have tv_101 := k_inc y_41
                      rw [← ev_101] at tv_101
                      exact J_111 y_40 v_101 _ _ _ hI hS  (lv_sub hl [1, 2, 3, 4, 0, 5, 6, 7, 8, 9] rfl)
                  · have c_99 := kc_eq rfl (by decide : Int32.toInt (-1) = (-1)) c_99
                    obtain ⟨v_102, ev_102⟩ : ∃ y : Int32, y = y_40 + Int32.ofInt 1 := ⟨_, rfl⟩
                    refine lv_iinc (v := v_102) (lv' := [(7, .int v_102), (10, .int r_70), (9, .int x_60), (8, .int y_39), (6, .int y_41), (4, .long y_42), (0, .ref h0), (1, .int p1), (2, .int p2), (3, .int p3)]) hx hb dX11_would_95 hl (k := 3) rfl ev_102.symm (by decide) rfl (fun ls hl => ?_)
                    have tv_102 := k_inc y_40
                    rw [← ev_102] at tv_102
                    refine lv_goto (tgt := 111) hx hb dX11_would_98 (by decide) ?_
                    exact J_111 v_102 y_41 _ _ _ hI hS  (lv_sub hl [1, 2, 3, 0, 4, 5, 6, 7, 8, 9] rfl)
            exact K_61 _ 0 0 0 0 f_33 _ _ _ (Nat.lt_succ_self _) hI hS k_37 kp_38 (lv_sub hl [0, 1, 2, 3, 4, 5, 6, 7] rfl)
          · have c_9 := kn_le rfl (by decide : Int32.toInt 3 = 3) c_9
            refine lv_ldcw hx hb hown (hts (.constant RX11 325 (-2147483648)) (List.mem_cons_of_mem _ (List.mem_append_left _ (List.mem_of_getElem? (i := 0) rfl)))) dX11_would_26 ?_
            exact W.iret (v := (-2147483648)) hx hb hr (fun t ht hW => ⟨⟨(-2147483648), (), rfl, trivial, ⟨f, k_ret ht hI, hk0⟩⟩, hS.F ht⟩) hS.2.2 dX11_would_29
