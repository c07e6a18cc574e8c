theorem tw_327 : q_g (.code yX10_multiply cX10_multiply 5 none) := ⟨(List.mem_append_right _ (List.mem_of_getElem? (i := 526) (by decide +kernel))), good_of_word (by decide +kernel)⟩
def ow_c_X10_multiply : List Cond := [.fieldLink RX10 15 "DeadlineShare$Wide" "low" "J", .fieldLink RX10 9 "DeadlineShare$Wide" "high" "J", .constantLong RX10 13 (4294967295)]
def wq_c_X10_multiply : List Cond := .code yX10_multiply cX10_multiply 5 none :: (ow_c_X10_multiply ++ (u_ws RX10 TX10 2 ++ ([] : List Cond)))
theorem tb_c_X10_multiply : ∀ w ∈ wq_c_X10_multiply, q_g w := by
  unfold wq_c_X10_multiply ow_c_X10_multiply
  exact q_cons tw_327 (q_app (q_cons tw_15 (q_cons tw_17 (q_cons tw_16 q_nil))) (q_app tu_X10 q_nil))
set_option maxHeartbeats 4000000 in
set_option maxRecDepth 100000 in
theorem c_X10_multiply (l : Launch) (dC : Nat → ClassId) (dI : Nat → Nat → Nat) (g : kG) (A : Nat → Prop) (hG : kWf g) (f : Nat → va_E) (h0 : Nat) (p1 : Int64) (i_h0 : ik g 10 h0) : Met l yX10_multiply wq_c_X10_multiply ({ frames := 0, cells := 0, slots := 0, locals := 0 } : Room) (va_Pc [.ref h0, .long p1] (fun U => kIn dC dI g A f U)) (va_Qv (fun (_ : Unit) => True) (fun (_ : Unit) t => ∃ f1 : Nat → va_E, Iv dC dI g A f1 t.heap ∧ Kp g [10] f f1) A) 0 0 A := by
  refine Met.ofW (cc := cX10_multiply) (maxL := 5) (ret := none) (by decide) rfl ?_
  intro p e s m args below meth c s₁ B hml hv
  obtain ⟨rfl, hI, hK, hE⟩ := hv
  have hx := B.exec
  have hb := B.bytes
  have hr := B.returns
  have hts := atoms_spec (ws := wq_c_X10_multiply) B.pre
  have hown : s.vm.findClass RX10 = some m.cls := findClass_of_methodNamed B.named
  have hlocks := B.notSynchronized
  have hS : va_S A s.heap s.heap [] := va_S.rf
  have hk0 : Kp g [10] f f := Kp.rf
  have hl := lv_entry ([.ref h0, .long p1]) (n := 5) (Nat.le_of_ble_eq_true rfl)
  rw [lg_entry_eq]
  generalize (lg_sl ([.ref h0, .long p1]) ++ List.replicate (5 - (lg_sl ([.ref h0, .long p1])).length) Slot.unset).toArray = ls at hl ⊢
  have hl : lv_has ls 5 [(0, .ref h0), (1, .long p1)] := hl
  refine lv_lload_n hx hb dX10_multiply_0 rfl (lv_at hl 1 rfl) ?_
  refine lv_aload_n hx hb dX10_multiply_1 rfl (lv_at hl 0 rfl) ?_
  obtain ⟨x_2, x_3, k_1⟩ := op_10 hI i_h0
  refine k_get (ci := 10) (v := .long x_3) (C := RX10) (T := TX10) (N := 2) hx hb hts (fun _ h0_ => List.mem_cons_of_mem _ (List.mem_append_right _ (List.mem_append_left _ h0_))) hown hK hI i_h0.1 k_1 rfl 1 (by decide) (hts (.fieldLink RX10 15 "DeadlineShare$Wide" "low" "J") (List.mem_cons_of_mem _ (List.mem_append_left _ (List.mem_of_getElem? (i := 0) rfl)))) (fun _ h9 => h9) rfl dX10_multiply_2 ?_
  refine lv_lmul hx hb dX10_multiply_5 ?_
  refine lv_topl (fun v_4 ev_4 => ?_)
  refine lv_lstore_n (lv' := [(3, .long v_4), (0, .ref h0), (1, .long p1)]) hx hb dX10_multiply_6 rfl hl (by decide) rfl (fun ls hl => ?_)
  refine lv_aload_n hx hb dX10_multiply_7 rfl (lv_at hl 1 rfl) ?_
  refine lv_lload_n hx hb dX10_multiply_8 rfl (lv_at hl 2 rfl) ?_
  refine lv_aload_n hx hb dX10_multiply_9 rfl (lv_at hl 1 rfl) ?_
  refine k_get (ci := 10) (v := .long x_2) (C := RX10) (T := TX10) (N := 2) hx hb hts (fun _ h0_ => List.mem_cons_of_mem _ (List.mem_append_right _ (List.mem_append_left _ h0_))) hown hK hI i_h0.1 k_1 rfl 0 (by decide) (hts (.fieldLink RX10 9 "DeadlineShare$Wide" "high" "J") (List.mem_cons_of_mem _ (List.mem_append_left _ (List.mem_of_getElem? (i := 1) rfl)))) (fun _ h9 => h9) rfl dX10_multiply_10 ?_
  refine lv_lmul hx hb dX10_multiply_13 ?_
  refine lv_topl (fun v_5 ev_5 => ?_)
  refine lv_lload_n hx hb dX10_multiply_14 rfl (lv_at hl 0 rfl) ?_
  refine lv_bipush (v := 32) hx hb dX10_multiply_15 (by decide) ?_
  refine lv_lshr hx hb dX10_multiply_17 rfl ?_
  refine lv_topl (fun v_6 ev_6 => ?_)
  refine lv_ladd hx hb dX10_multiply_18 ?_
  refine lv_topl (fun v_7 ev_7 => ?_)
  refine k_put (ci := 10) (v := .long v_7) (ty := .long) (C := RX10) (T := TX10) (N := 2) hx hb hts (fun _ h0_ => List.mem_cons_of_mem _ (List.mem_append_right _ (List.mem_append_left _ h0_))) tyX10 tyX10_ok nmX10 hown hK hI hS i_h0.1 k_1 rfl 0 (by decide) (hts (.fieldLink RX10 9 "DeadlineShare$Wide" "high" "J") (List.mem_cons_of_mem _ (List.mem_append_left _ (List.mem_of_getElem? (i := 1) rfl)))) (fun _ h9 => h9) rfl (by decide +kernel) rfl rfl (Nat.le_of_ble_eq_true rfl) rfl (cl_10 i_h0) dX10_multiply_19 (fun f_8 H locs e_9 hI hS => ?_)
  have k_11 : f_8 h0 = .inr (10, [.long v_7, .long x_3]) := by rw [e_9]; exact va_up_self _ _ _
  have kp_10 := Kp.put hk0 i_h0 (by decide) e_9
  refine lv_aload_n hx hb dX10_multiply_22 rfl (lv_at hl 1 rfl) ?_
  refine lv_lload_n hx hb dX10_multiply_23 rfl (lv_at hl 0 rfl) ?_
  refine lv_ldc2 hx hb hown (hts (.constantLong RX10 13 (4294967295)) (List.mem_cons_of_mem _ (List.mem_append_left _ (List.mem_of_getElem? (i := 2) rfl)))) dX10_multiply_24 ?_
  refine lv_land hx hb dX10_multiply_27 ?_
  refine lv_topl (fun v_12 ev_12 => ?_)
  refine k_put (ci := 10) (v := .long v_12) (ty := .long) (C := RX10) (T := TX10) (N := 2) hx hb hts (fun _ h0_ => List.mem_cons_of_mem _ (List.mem_append_right _ (List.mem_append_left _ h0_))) tyX10 tyX10_ok nmX10 hown hK hI hS i_h0.1 k_11 rfl 1 (by decide) (hts (.fieldLink RX10 15 "DeadlineShare$Wide" "low" "J") (List.mem_cons_of_mem _ (List.mem_append_left _ (List.mem_of_getElem? (i := 0) rfl)))) (fun _ h9 => h9) rfl (by decide +kernel) rfl rfl (Nat.le_of_ble_eq_true rfl) rfl (cl_10 i_h0) dX10_multiply_28 (fun f_13 H locs e_14 hI hS => ?_)
  have k_16 : f_13 h0 = .inr (10, [.long v_7, .long v_12]) := by rw [e_14]; exact va_up_self _ _ _
  have kp_15 := Kp.put kp_10 i_h0 (by decide) e_14
  exact W.vret hx hb hr (fun t ht hW => ⟨⟨(), rfl, trivial, ⟨f_13, k_ret ht hI, kp_15⟩⟩, hS.F ht⟩) hS.2.2 dX10_multiply_31
theorem tw_328 : q_g (.selects RX10 yX10_multiply yX10_multiply) := ⟨(List.mem_append_right _ (List.mem_of_getElem? (i := 525) (by decide +kernel))), good_of_word (by decide +kernel)⟩
theorem tw_329 : q_g (.instanceMethod yX10_multiply) := ⟨(List.mem_append_right _ (List.mem_of_getElem? (i := 524) (by decide +kernel))), good_of_word (by decide +kernel)⟩
theorem tw_330 : q_g (.methodLink RX6 101 yX10_multiply) := ⟨(List.mem_append_right _ (List.mem_of_getElem? (i := 523) (by decide +kernel))), good_of_word (by decide +kernel)⟩
theorem tw_331 : q_g (.code yX6_putLag cX6_putLag 4 none) := ⟨(List.mem_append_right _ (List.mem_of_getElem? (i := 561) (by decide +kernel))), good_of_word (by decide +kernel)⟩
def ow_c_X6_putLag : List Cond := [.methodLink RX6 75 yX10_set, .instanceMethod yX10_set, .selects RX10 yX10_set yX10_set, .initialized RX10, .fieldLink RX6 48 "DeadlineShare$State" "count" "I", .fieldLink RX6 72 "DeadlineShare$Task" "weight" "I", .methodLink RX6 101 yX10_multiply, .instanceMethod yX10_multiply, .selects RX10 yX10_multiply yX10_multiply, .fieldLink RX6 11 "DeadlineShare$State" "tasks" "[LDeadlineShare$Task;", .fieldLink RX6 69 "DeadlineShare$Task" "state" "I", .fieldLink RX6 79 "DeadlineShare$Task" "v" "J", .methodLink RX6 82 yX10_addTimes, .instanceMethod yX10_addTimes, .selects RX10 yX10_addTimes yX10_addTimes]
def wq_c_X6_putLag : List Cond := .code yX6_putLag cX6_putLag 4 none :: (ow_c_X6_putLag ++ (wq_c_X10_set ++ (u_ws RX6 TX6 10 ++ (u_ws RX8 TX8 18 ++ (wq_c_X10_multiply ++ (wq_c_X10_addTimes ++ ([] : List Cond)))))))
theorem tb_c_X6_putLag : ∀ w ∈ wq_c_X6_putLag, q_g w := by
  unfold wq_c_X6_putLag ow_c_X6_putLag
  exact q_cons tw_331 (q_app (q_cons tw_29 (q_cons tw_28 (q_cons tw_27 (q_cons tw_26 (q_cons tw_13 (q_cons tw_23 (q_cons tw_330 (q_cons tw_329 (q_cons tw_328 (q_cons tw_12 (q_cons tw_24 (q_cons tw_7 (q_cons tw_22 (q_cons tw_21 (q_cons tw_20 q_nil))))))))))))))) (q_app tb_c_X10_set (q_app tu_X6 (q_app tu_X8 (q_app tb_c_X10_multiply (q_app tb_c_X10_addTimes q_nil))))))
set_option maxHeartbeats 4000000 in
set_option maxRecDepth 100000 in
theorem c_X6_putLag (l : Launch) (dC : Nat → ClassId) (dI : Nat → Nat → Nat) (g : kG) (A : Nat → Prop) (hG : kWf g) (f : Nat → va_E) (h0 : Nat) (p1 : Nat) (p2 : Nat) (i_h0 : ik g 6 h0) (i_p1 : ik g 8 p1) (i_p2 : ik g 10 p2) : Met l yX6_putLag wq_c_X6_putLag ({ frames := 1, cells := 0, slots := 0, locals := 26 } : Room) (va_Pc [.ref h0, .ref p1, .ref p2] (fun U => kIn dC dI g A f U)) (va_Qv (fun (_ : Unit) => True) (fun (_ : Unit) t => ∃ f1 : Nat → va_E, Iv dC dI g A f1 t.heap ∧ Kp g [10] f f1) A) 0 0 A := by
  refine Met.ofW (cc := cX6_putLag) (maxL := 4) (ret := none) (by decide) rfl ?_
  intro p e s m args below meth c s₁ B hml hv
  obtain ⟨rfl, hI, hK, hE⟩ := hv
  have hx := B.exec
  have hb := B.bytes
  have hr := B.returns
  have hts := atoms_spec (ws := wq_c_X6_putLag) B.pre
  have hown : s.vm.findClass RX6 = some m.cls := findClass_of_methodNamed B.named
  have hlocks := B.notSynchronized
  have hS : va_S A s.heap s.heap [] := va_S.rf
  have hk0 : Kp g [10] f f := Kp.rf
  have hl := lv_entry ([.ref h0, .ref p1, .ref p2]) (n := 4) (Nat.le_of_ble_eq_true rfl)
  rw [lg_entry_eq]
  generalize (lg_sl ([.ref h0, .ref p1, .ref p2]) ++ List.replicate (4 - (lg_sl ([.ref h0, .ref p1, .ref p2])).length) Slot.unset).toArray = ls at hl ⊢
  have hl : lv_has ls 4 [(0, .ref h0), (1, .ref p1), (2, .ref p2)] := hl
  refine lv_aload_n hx hb dX6_putLag_0 rfl (lv_at hl 2 rfl) ?_
  refine lv_lconst (v := 0) hx hb dX6_putLag_1 (by decide) ?_
  obtain ⟨x_2, x_3, k_1⟩ := op_10 hI i_p2
  refine va_callv (va_runV (As := [.long 0]) (rest := []) ⟨hx, hb, hml, hown, hts⟩ (c_X10_set l dC dI g A hG f p2 0 i_p2) (cwV 1 hts (gi_V (fun w_ h0_ => ⟨List.mem_cons_of_mem _ (List.mem_append_right _ (List.mem_append_left _ h0_)), (tb_c_X10_set w_ h0_).2⟩) (List.mem_cons_of_mem _ (List.mem_append_left _ (List.mem_of_getElem? (i := 0) rfl))) (List.mem_cons_of_mem _ (List.mem_append_left _ (List.mem_of_getElem? (i := 1) rfl))) (List.mem_cons_of_mem _ (List.mem_append_left _ (List.mem_of_getElem? (i := 2) rfl))) (List.mem_cons_of_mem _ (List.mem_append_left _ (List.mem_of_getElem? (i := 3) rfl)))) rfl rfl rfl (by decide +kernel) ⟨Nat.le_of_ble_eq_true rfl, Nat.le_of_ble_eq_true rfl⟩) ⟨fun a U g mk q => ⟨q.1, q.2.calling rfl rfl⟩, k_recv hK hI i_p2.1 k_1 (ci := 10) rfl, fun U hU hW => ⟨rfl, kIn.of hI hK hE hS hU hW⟩⟩ rfl rfl hl.1 rfl (lv_room (Nat.le_of_ble_eq_true rfl)) dX6_putLag_2 ⟨Nat.le_of_ble_eq_true rfl, Nat.le_of_ble_eq_true rfl⟩) hS (fun q _ h => h) (fun q h => h) (fun u t H1 locs ht hvm _ hB hz1 hk1 hS => ?_)
  obtain ⟨f_4, hI, kc_6⟩ := hB
  rw [ht] at hI
  have kp_7 := Kp.call hk0 kc_6 (by decide)
  generalize H1 = H at hI hS ⊢
  refine W.widen (k := 0) (n := 0) (Nat.le_of_ble_eq_true rfl) (Nat.le_of_ble_eq_true rfl) ?_
  refine lv_iconst (v := 0) hx hb dX6_putLag_5 (by decide) ?_
  refine lv_istore_n (lv' := [(3, .int 0), (0, .ref h0), (1, .ref p1), (2, .ref p2)]) hx hb dX6_putLag_6 rfl hl (by decide) rfl (fun ls hl => ?_)
  have K_7 : ∀ (nn : Nat) (y_8 : Int32) (f_9 : Nat → va_E) (H : Heap) (locs : List Loc) (ls : Array Slot), (12 - y_8.toInt).toNat < nn → Iv dC dI g A f_9 H → va_S A s.heap H locs → Kp g [10] f f_9 → (0 ≤ y_8.toInt) → lv_has ls 4 [(3, .int y_8), (0, .ref h0), (1, .ref p1), (2, .ref p2)] → W p l e (headSpec wq_c_X6_putLag ({ frames := 1, cells := 0, slots := 0, locals := 26 } : Room)).room s m ([.ref h0, .ref p1, .ref p2].toArray) below meth c H locs 0 0 (MQ below (va_Qv (fun (_ : Unit) => True) (fun (_ : Unit) t => ∃ f1 : Nat → va_E, Iv dC dI g A f1 t.heap ∧ Kp g [10] f f1) A) ([.ref h0, .ref p1, .ref p2].toArray) s 0 0 A) (F0 m 7 ls []) := by
    intro nn
    induction nn with
    | zero => intro y_8 f_9 H locs ls m_12; exact absurd m_12 (Nat.not_lt_zero _)
    | succ nn ih =>
      intro y_8 f_9 H locs ls m_12 hI hS kp_10 t_11 hl
      have g_13 := Int32.toInt_lt y_8
      have g_14 := Int32.le_toInt y_8
      refine lv_iload_n hx hb dX6_putLag_7 rfl (lv_at hl 0 rfl) ?_
      refine lv_aload_n hx hb dX6_putLag_8 rfl (lv_at hl 1 rfl) ?_
      obtain ⟨x_16, x_17, x_18, x_19, x_20, k_15, b_21, b_22⟩ := op_6 hI i_h0
      refine k_get (ci := 6) (v := .int x_16) (C := RX6) (T := TX6) (N := 10) hx hb hts (fun _ h0_ => List.mem_cons_of_mem _ (List.mem_append_right _ (List.mem_append_right _ (List.mem_append_left _ h0_)))) hown hK hI i_h0.1 k_15 rfl 5 (by decide) (hts (.fieldLink RX6 48 "DeadlineShare$State" "count" "I") (List.mem_cons_of_mem _ (List.mem_append_left _ (List.mem_of_getElem? (i := 4) rfl)))) (fun _ h9 => h9) rfl dX6_putLag_9 ?_
      refine lv_icmp_ge (tgt := 76) hx hb dX6_putLag_12 (by decide) (fun c_23 => ?_) (fun c_23 => ?_)
      · have c_23 := kc_le rfl rfl c_23
        refine lv_aload_n hx hb dX6_putLag_76 rfl (lv_at hl 3 rfl) ?_
        refine lv_aload_n hx hb dX6_putLag_77 rfl (lv_at hl 2 rfl) ?_
        obtain ⟨x_25, x_26, x_27, x_28, x_29, x_30, x_31, x_32, x_33, x_34, x_35, x_36, x_37, x_38, x_39, x_40, k_24⟩ := op_8 hI i_p1
        refine k_get (ci := 8) (v := .int x_26) (C := RX8) (T := TX8) (N := 18) hx hb hts (fun _ h0_ => List.mem_cons_of_mem _ (List.mem_append_right _ (List.mem_append_right _ (List.mem_append_right _ (List.mem_append_left _ h0_))))) hown hK hI i_p1.1 k_24 rfl 2 (by decide) (hts (.fieldLink RX6 72 "DeadlineShare$Task" "weight" "I") (List.mem_cons_of_mem _ (List.mem_append_left _ (List.mem_of_getElem? (i := 5) rfl)))) (fun _ h9 => h9) rfl dX6_putLag_78 ?_
        refine lv_i2l (v := x_26.toInt64) hx hb dX6_putLag_81 rfl ?_
        have t_41 := Int32.toInt_toInt64 x_26
        obtain ⟨x_43, x_44, k_42⟩ := op_10 hI i_p2
        refine va_callv (va_runV (As := [.long x_26.toInt64]) (rest := []) ⟨hx, hb, hml, hown, hts⟩ (c_X10_multiply l dC dI g A hG f_9 p2 x_26.toInt64 i_p2) (cwV 1 hts (gi_V (fun w_ h0_ => ⟨List.mem_cons_of_mem _ (List.mem_append_right _ (List.mem_append_right _ (List.mem_append_right _ (List.mem_append_right _ (List.mem_append_left _ h0_))))), (tb_c_X10_multiply w_ h0_).2⟩) (List.mem_cons_of_mem _ (List.mem_append_left _ (List.mem_of_getElem? (i := 6) rfl))) (List.mem_cons_of_mem _ (List.mem_append_left _ (List.mem_of_getElem? (i := 7) rfl))) (List.mem_cons_of_mem _ (List.mem_append_left _ (List.mem_of_getElem? (i := 8) rfl))) (List.mem_cons_of_mem _ (List.mem_append_left _ (List.mem_of_getElem? (i := 3) rfl)))) rfl rfl rfl (by decide +kernel) ⟨Nat.le_of_ble_eq_true rfl, Nat.le_of_ble_eq_true rfl⟩) ⟨fun a U g mk q => ⟨q.1, q.2.calling rfl rfl⟩, k_recv hK hI i_p2.1 k_42 (ci := 10) rfl, fun U hU hW => ⟨rfl, kIn.of hI hK hE hS hU hW⟩⟩ rfl rfl hl.1 rfl (lv_room (Nat.le_of_ble_eq_true rfl)) dX6_putLag_82 ⟨Nat.le_of_ble_eq_true rfl, Nat.le_of_ble_eq_true rfl⟩) hS (fun q _ h => h) (fun q h => h) (fun u t H1 locs ht hvm _ hB hz1 hk1 hS => ?_)
        obtain ⟨f_45, hI, kc_47⟩ := hB
        rw [ht] at hI
        have k_48 : f_45 h0 = .inr (6, [.ref (gr g h0 0), .ref (gr g h0 1), .ref (gr g h0 2), .ref (gr g h0 3), .ref (gr g h0 4), .int x_16, .int x_17, .long x_18, .int x_19, .int x_20]) := Kp.at kc_47 i_h0 (by decide) k_15
        have k_49 : f_45 p1 = .inr (8, [.int x_25, .ref (gr g p1 1), .int x_26, .int x_27, .int x_28, .long x_29, .int x_30, .ref (gr g p1 7), .int x_31, .int x_32, .int x_33, .int x_34, .int x_35, .int x_36, .int x_37, .int x_38, .int x_39, .int x_40]) := Kp.at kc_47 i_p1 (by decide) k_24
        have kp_50 := Kp.call kp_10 kc_47 (by decide)
        generalize H1 = H at hI hS ⊢
        refine W.widen (k := 0) (n := 0) (Nat.le_of_ble_eq_true rfl) (Nat.le_of_ble_eq_true rfl) ?_
        exact W.vret hx hb hr (fun t ht hW => ⟨⟨(), rfl, trivial, ⟨f_45, k_ret ht hI, kp_50⟩⟩, hS.F ht⟩) hS.2.2 dX6_putLag_85
      · have c_23 := kn_le rfl rfl c_23
        refine lv_aload_n hx hb dX6_putLag_15 rfl (lv_at hl 1 rfl) ?_
        refine k_get (ci := 6) (v := .ref (gr g h0 1)) (C := RX6) (T := TX6) (N := 10) hx hb hts (fun _ h0_ => List.mem_cons_of_mem _ (List.mem_append_right _ (List.mem_append_right _ (List.mem_append_left _ h0_)))) hown hK hI i_h0.1 k_15 rfl 1 (by decide) (hts (.fieldLink RX6 11 "DeadlineShare$State" "tasks" "[LDeadlineShare$Task;") (List.mem_cons_of_mem _ (List.mem_append_left _ (List.mem_of_getElem? (i := 9) rfl)))) (fun _ h9 => h9) rfl dX6_putLag_16 ?_
        have i_52 := kw_6_1 hG i_h0
        refine lv_iload_n hx hb dX6_putLag_19 rfl (lv_at hl 0 rfl) ?_
        obtain ⟨q_54, k_53, b_55⟩ := op_20 hI i_52
        refine k_aald hx hb hK hI i_52.1 4 k_53 rfl (vp_in_iff.mpr (by omega)) b_55 (fun _ hj => kw_20 hG i_52 hj) dX6_putLag_20 (fun a_56 i_57 => ?_)
        obtain ⟨x_59, x_60, x_61, x_62, x_63, x_64, x_65, x_66, x_67, x_68, x_69, x_70, x_71, x_72, x_73, x_74, k_58⟩ := op_8 hI i_57
        refine k_get (ci := 8) (v := .int x_62) (C := RX8) (T := TX8) (N := 18) hx hb hts (fun _ h0_ => List.mem_cons_of_mem _ (List.mem_append_right _ (List.mem_append_right _ (List.mem_append_right _ (List.mem_append_left _ h0_))))) hown hK hI i_57.1 k_58 rfl 4 (by decide) (hts (.fieldLink RX6 69 "DeadlineShare$Task" "state" "I") (List.mem_cons_of_mem _ (List.mem_append_left _ (List.mem_of_getElem? (i := 10) rfl)))) (fun _ h9 => h9) rfl dX6_putLag_21 ?_
        refine lv_iconst (v := 1) hx hb dX6_putLag_24 (by decide) ?_
        have J_70 : ∀ (f_75 : Nat → va_E) (H : Heap) (locs : List Loc) (ls : Array Slot), Iv dC dI g A f_75 H → va_S A s.heap H locs → f_75 h0 = .inr (6, [.ref (gr g h0 0), .ref (gr g h0 1), .ref (gr g h0 2), .ref (gr g h0 3), .ref (gr g h0 4), .int x_16, .int x_17, .long x_18, .int x_19, .int x_20]) → f_75 (gr g h0 1) = .inl (gc g 4, 12, .inr (.inr (.inr (.inr q_54)))) → f_75 a_56 = .inr (8, [.int x_59, .ref (gr g a_56 1), .int x_60, .int x_61, .int x_62, .long x_63, .int x_64, .ref (gr g a_56 7), .int x_65, .int x_66, .int x_67, .int x_68, .int x_69, .int x_70, .int x_71, .int x_72, .int x_73, .int x_74]) → Kp g [10] f f_75 → lv_has ls 4 [(3, .int y_8), (0, .ref h0), (1, .ref p1), (2, .ref p2)] → W p l e (headSpec wq_c_X6_putLag ({ frames := 1, cells := 0, slots := 0, locals := 26 } : Room)).room s m ([.ref h0, .ref p1, .ref p2].toArray) below meth c H locs 0 0 (MQ below (va_Qv (fun (_ : Unit) => True) (fun (_ : Unit) t => ∃ f1 : Nat → va_E, Iv dC dI g A f1 t.heap ∧ Kp g [10] f f1) A) ([.ref h0, .ref p1, .ref p2].toArray) s 0 0 A) (F0 m 70 ls []) := by
          intro f_75 H locs ls hI hS k_76 k_77 k_78 kp_79 hl
          obtain ⟨v_80, ev_80⟩ : ∃ y : Int32, y = y_8 + Int32.ofInt 1 := ⟨_, rfl⟩
          refine lv_iinc (v := v_80) (lv' := [(3, .int v_80), (0, .ref h0), (1, .ref p1), (2, .ref p2)]) hx hb dX6_putLag_70 hl (k := 0) rfl ev_80.symm (by decide) rfl (fun ls hl => ?_)
          have tv_80 := k_inc y_8
          rw [← ev_80] at tv_80
          refine lv_goto (tgt := 7) hx hb dX6_putLag_73 (by decide) ?_
          exact ih v_80 f_75 _ _ _ (by omega) hI hS kp_79 (by first | omega | decide) (lv_sub hl [0, 1, 2, 3] rfl)
        refine lv_icmp_ne (tgt := 70) hx hb dX6_putLag_25 (by decide) (fun c_81 => ?_) (fun c_81 => ?_)
        · have c_81 := kn_eq rfl (by decide : Int32.toInt 1 = 1) c_81
          exact J_70 f_9 _ _ _ hI hS k_15 k_53 k_58 kp_10 (lv_sub hl [0, 1, 2, 3] rfl)
        · have c_81 := kc_eq rfl (by decide : Int32.toInt 1 = 1) c_81
          refine lv_aload_n hx hb dX6_putLag_28 rfl (lv_at hl 3 rfl) ?_
          refine lv_aload_n hx hb dX6_putLag_29 rfl (lv_at hl 1 rfl) ?_
          refine k_get (ci := 6) (v := .ref (gr g h0 1)) (C := RX6) (T := TX6) (N := 10) hx hb hts (fun _ h0_ => List.mem_cons_of_mem _ (List.mem_append_right _ (List.mem_append_right _ (List.mem_append_left _ h0_)))) hown hK hI i_h0.1 k_15 rfl 1 (by decide) (hts (.fieldLink RX6 11 "DeadlineShare$State" "tasks" "[LDeadlineShare$Task;") (List.mem_cons_of_mem _ (List.mem_append_left _ (List.mem_of_getElem? (i := 9) rfl)))) (fun _ h9 => h9) rfl dX6_putLag_30 ?_
          refine lv_iload_n hx hb dX6_putLag_33 rfl (lv_at hl 0 rfl) ?_
          refine k_aald hx hb hK hI i_52.1 4 k_53 rfl (vp_in_iff.mpr (by omega)) b_55 (fun _ hj => kw_20 hG i_52 hj) dX6_putLag_34 (fun a_84 i_85 => ?_)
          obtain ⟨x_87, x_88, x_89, x_90, x_91, x_92, x_93, x_94, x_95, x_96, x_97, x_98, x_99, x_100, x_101, x_102, k_86⟩ := op_8 hI i_85
          refine k_get (ci := 8) (v := .int x_88) (C := RX8) (T := TX8) (N := 18) hx hb hts (fun _ h0_ => List.mem_cons_of_mem _ (List.mem_append_right _ (List.mem_append_right _ (List.mem_append_right _ (List.mem_append_left _ h0_))))) hown hK hI i_85.1 k_86 rfl 2 (by decide) (hts (.fieldLink RX6 72 "DeadlineShare$Task" "weight" "I") (List.mem_cons_of_mem _ (List.mem_append_left _ (List.mem_of_getElem? (i := 5) rfl)))) (fun _ h9 => h9) rfl dX6_putLag_35 ?_
          refine lv_i2l (v := x_88.toInt64) hx hb dX6_putLag_38 rfl ?_
          have t_103 := Int32.toInt_toInt64 x_88
          refine lv_aload_n hx hb dX6_putLag_39 rfl (lv_at hl 1 rfl) ?_
          refine k_get (ci := 6) (v := .ref (gr g h0 1)) (C := RX6) (T := TX6) (N := 10) hx hb hts (fun _ h0_ => List.mem_cons_of_mem _ (List.mem_append_right _ (List.mem_append_right _ (List.mem_append_left _ h0_)))) hown hK hI i_h0.1 k_15 rfl 1 (by decide) (hts (.fieldLink RX6 11 "DeadlineShare$State" "tasks" "[LDeadlineShare$Task;") (List.mem_cons_of_mem _ (List.mem_append_left _ (List.mem_of_getElem? (i := 9) rfl)))) (fun _ h9 => h9) rfl dX6_putLag_40 ?_
          refine lv_iload_n hx hb dX6_putLag_43 rfl (lv_at hl 0 rfl) ?_
          refine k_aald hx hb hK hI i_52.1 4 k_53 rfl (vp_in_iff.mpr (by omega)) b_55 (fun _ hj => kw_20 hG i_52 hj) dX6_putLag_44 (fun a_106 i_107 => ?_)
          obtain ⟨x_109, x_110, x_111, x_112, x_113, x_114, x_115, x_116, x_117, x_118, x_119, x_120, x_121, x_122, x_123, x_124, k_108⟩ := op_8 hI i_107
          refine k_get (ci := 8) (v := .long x_113) (C := RX8) (T := TX8) (N := 18) hx hb hts (fun _ h0_ => List.mem_cons_of_mem _ (List.mem_append_right _ (List.mem_append_right _ (List.mem_append_right _ (List.mem_append_left _ h0_))))) hown hK hI i_107.1 k_108 rfl 5 (by decide) (hts (.fieldLink RX6 79 "DeadlineShare$Task" "v" "J") (List.mem_cons_of_mem _ (List.mem_append_left _ (List.mem_of_getElem? (i := 11) rfl)))) (fun _ h9 => h9) rfl dX6_putLag_45 ?_
          obtain ⟨x_126, x_127, k_125⟩ := op_10 hI i_p2
          refine va_callv (va_runV (As := [.long x_88.toInt64, .long x_113]) (rest := []) ⟨hx, hb, hml, hown, hts⟩ (c_X10_addTimes l dC dI g A hG f_9 p2 x_88.toInt64 x_113 i_p2) (cwV 2 hts (gi_V (fun w_ h0_ => ⟨List.mem_cons_of_mem _ (List.mem_append_right _ (List.mem_append_right _ (List.mem_append_right _ (List.mem_append_right _ (List.mem_append_right _ (List.mem_append_left _ h0_)))))), (tb_c_X10_addTimes w_ h0_).2⟩) (List.mem_cons_of_mem _ (List.mem_append_left _ (List.mem_of_getElem? (i := 12) rfl))) (List.mem_cons_of_mem _ (List.mem_append_left _ (List.mem_of_getElem? (i := 13) rfl))) (List.mem_cons_of_mem _ (List.mem_append_left _ (List.mem_of_getElem? (i := 14) rfl))) (List.mem_cons_of_mem _ (List.mem_append_left _ (List.mem_of_getElem? (i := 3) rfl)))) rfl rfl rfl (by decide +kernel) ⟨Nat.le_of_ble_eq_true rfl, Nat.le_of_ble_eq_true rfl⟩) ⟨fun a U g mk q => ⟨q.1, q.2.calling rfl rfl⟩, k_recv hK hI i_p2.1 k_125 (ci := 10) rfl, fun U hU hW => ⟨rfl, kIn.of hI hK hE hS hU hW⟩⟩ rfl rfl hl.1 rfl (lv_room (Nat.le_of_ble_eq_true rfl)) dX6_putLag_48 ⟨Nat.le_of_ble_eq_true rfl, Nat.le_of_ble_eq_true rfl⟩) hS (fun q _ h => h) (fun q h => h) (fun u t H1 locs ht hvm _ hB hz1 hk1 hS => ?_)
          obtain ⟨f_128, hI, kc_130⟩ := hB
          rw [ht] at hI
          have k_131 : f_128 h0 = .inr (6, [.ref (gr g h0 0), .ref (gr g h0 1), .ref (gr g h0 2), .ref (gr g h0 3), .ref (gr g h0 4), .int x_16, .int x_17, .long x_18, .int x_19, .int x_20]) := Kp.at kc_130 i_h0 (by decide) k_15
          have k_132 : f_128 (gr g h0 1) = .inl (gc g 4, 12, .inr (.inr (.inr (.inr q_54)))) := Kp.at kc_130 i_52 (by decide) k_53
          have k_133 : f_128 a_56 = .inr (8, [.int x_59, .ref (gr g a_56 1), .int x_60, .int x_61, .int x_62, .long x_63, .int x_64, .ref (gr g a_56 7), .int x_65, .int x_66, .int x_67, .int x_68, .int x_69, .int x_70, .int x_71, .int x_72, .int x_73, .int x_74]) := Kp.at kc_130 i_57 (by decide) k_58
          have k_134 : f_128 a_84 = .inr (8, [.int x_87, .ref (gr g a_84 1), .int x_88, .int x_89, .int x_90, .long x_91, .int x_92, .ref (gr g a_84 7), .int x_93, .int x_94, .int x_95, .int x_96, .int x_97, .int x_98, .int x_99, .int x_100, .int x_101, .int x_102]) := Kp.at kc_130 i_85 (by decide) k_86
          have k_135 : f_128 a_106 = .inr (8, [.int x_109, .ref (gr g a_106 1), .int x_110, .int x_111, .int x_112, .long x_113, .int x_114, .ref (gr g a_106 7), .int x_115, .int x_116, .int x_117, .int x_118, .int x_119, .int x_120, .int x_121, .int x_122, .int x_123, .int x_124]) := Kp.at kc_130 i_107 (by decide) k_108
          have kp_136 := Kp.call kp_10 kc_130 (by decide)
          generalize H1 = H at hI hS ⊢
          refine W.widen (k := 0) (n := 0) (Nat.le_of_ble_eq_true rfl) (Nat.le_of_ble_eq_true rfl) ?_
          refine lv_aload_n hx hb dX6_putLag_51 rfl (lv_at hl 3 rfl) ?_
          refine lv_aload_n hx hb dX6_putLag_52 rfl (lv_at hl 1 rfl) ?_
          refine k_get (ci := 6) (v := .ref (gr g h0 1)) (C := RX6) (T := TX6) (N := 10) hx hb hts (fun _ h0_ => List.mem_cons_of_mem _ (List.mem_append_right _ (List.mem_append_right _ (List.mem_append_left _ h0_)))) hown hK hI i_h0.1 k_131 rfl 1 (by decide) (hts (.fieldLink RX6 11 "DeadlineShare$State" "tasks" "[LDeadlineShare$Task;") (List.mem_cons_of_mem _ (List.mem_append_left _ (List.mem_of_getElem? (i := 9) rfl)))) (fun _ h9 => h9) rfl dX6_putLag_53 ?_
          refine lv_iload_n hx hb dX6_putLag_56 rfl (lv_at hl 0 rfl) ?_
          refine k_aald hx hb hK hI i_52.1 4 k_132 rfl (vp_in_iff.mpr (by omega)) b_55 (fun _ hj => kw_20 hG i_52 hj) dX6_putLag_57 (fun a_139 i_140 => ?_)
          obtain ⟨x_142, x_143, x_144, x_145, x_146, x_147, x_148, x_149, x_150, x_151, x_152, x_153, x_154, x_155, x_156, x_157, k_141⟩ := op_8 hI i_140
          refine k_get (ci := 8) (v := .int x_143) (C := RX8) (T := TX8) (N := 18) hx hb hts (fun _ h0_ => List.mem_cons_of_mem _ (List.mem_append_right _ (List.mem_append_right _ (List.mem_append_right _ (List.mem_append_left _ h0_))))) hown hK hI i_140.1 k_141 rfl 2 (by decide) (hts (.fieldLink RX6 72 "DeadlineShare$Task" "weight" "I") (List.mem_cons_of_mem _ (List.mem_append_left _ (List.mem_of_getElem? (i := 5) rfl)))) (fun _ h9 => h9) rfl dX6_putLag_58 ?_
          refine lv_ineg hx hb dX6_putLag_61 ?_
          refine lv_topi (fun v_158 ev_158 => ?_)
          refine lv_i2l (v := v_158.toInt64) hx hb dX6_putLag_62 rfl ?_
          have t_159 := Int32.toInt_toInt64 v_158
          refine lv_aload_n hx hb dX6_putLag_63 rfl (lv_at hl 2 rfl) ?_
          obtain ⟨x_161, x_162, x_163, x_164, x_165, x_166, x_167, x_168, x_169, x_170, x_171, x_172, x_173, x_174, x_175, x_176, k_160⟩ := op_8 hI i_p1
          refine k_get (ci := 8) (v := .long x_165) (C := RX8) (T := TX8) (N := 18) hx hb hts (fun _ h0_ => List.mem_cons_of_mem _ (List.mem_append_right _ (List.mem_append_right _ (List.mem_append_right _ (List.mem_append_left _ h0_))))) hown hK hI i_p1.1 k_160 rfl 5 (by decide) (hts (.fieldLink RX6 79 "DeadlineShare$Task" "v" "J") (List.mem_cons_of_mem _ (List.mem_append_left _ (List.mem_of_getElem? (i := 11) rfl)))) (fun _ h9 => h9) rfl dX6_putLag_64 ?_
          obtain ⟨x_178, x_179, k_177⟩ := op_10 hI i_p2
          refine va_callv (va_runV (As := [.long v_158.toInt64, .long x_165]) (rest := []) ⟨hx, hb, hml, hown, hts⟩ (c_X10_addTimes l dC dI g A hG f_128 p2 v_158.toInt64 x_165 i_p2) (cwV 2 hts (gi_V (fun w_ h0_ => ⟨List.mem_cons_of_mem _ (List.mem_append_right _ (List.mem_append_right _ (List.mem_append_right _ (List.mem_append_right _ (List.mem_append_right _ (List.mem_append_left _ h0_)))))), (tb_c_X10_addTimes w_ h0_).2⟩) (List.mem_cons_of_mem _ (List.mem_append_left _ (List.mem_of_getElem? (i := 12) rfl))) (List.mem_cons_of_mem _ (List.mem_append_left _ (List.mem_of_getElem? (i := 13) rfl))) (List.mem_cons_of_mem _ (List.mem_append_left _ (List.mem_of_getElem? (i := 14) rfl))) (List.mem_cons_of_mem _ (List.mem_append_left _ (List.mem_of_getElem? (i := 3) rfl)))) rfl rfl rfl (by decide +kernel) ⟨Nat.le_of_ble_eq_true rfl, Nat.le_of_ble_eq_true rfl⟩) ⟨fun a U g mk q => ⟨q.1, q.2.calling rfl rfl⟩, k_recv hK hI i_p2.1 k_177 (ci := 10) rfl, fun U hU hW => ⟨rfl, kIn.of hI hK hE hS hU hW⟩⟩ rfl rfl hl.1 rfl (lv_room (Nat.le_of_ble_eq_true rfl)) dX6_putLag_67 ⟨Nat.le_of_ble_eq_true rfl, Nat.le_of_ble_eq_true rfl⟩) hS (fun q _ h => h) (fun q h => h) (fun u t H1 locs ht hvm _ hB hz1 hk1 hS => ?_)
          obtain ⟨f_180, hI, kc_182⟩ := hB
          rw [ht] at hI
          have k_183 : f_180 h0 = .inr (6, [.ref (gr g h0 0), .ref (gr g h0 1), .ref (gr g h0 2), .ref (gr g h0 3), .ref (gr g h0 4), .int x_16, .int x_17, .long x_18, .int x_19, .int x_20]) := Kp.at kc_182 i_h0 (by decide) k_131
          have k_184 : f_180 (gr g h0 1) = .inl (gc g 4, 12, .inr (.inr (.inr (.inr q_54)))) := Kp.at kc_182 i_52 (by decide) k_132
          have k_185 : f_180 a_56 = .inr (8, [.int x_59, .ref (gr g a_56 1), .int x_60, .int x_61, .int x_62, .long x_63, .int x_64, .ref (gr g a_56 7), .int x_65, .int x_66, .int x_67, .int x_68, .int x_69, .int x_70, .int x_71, .int x_72, .int x_73, .int x_74]) := Kp.at kc_182 i_57 (by decide) k_133
          have k_186 : f_180 a_84 = .inr (8, [.int x_87, .ref (gr g a_84 1), .int x_88, .int x_89, .int x_90, .long x_91, .int x_92, .ref (gr g a_84 7), .int x_93, .int x_94, .int x_95, .int x_96, .int x_97, .int x_98, .int x_99, .int x_100, .int x_101, .int x_102]) := Kp.at kc_182 i_85 (by decide) k_134
          have k_187 : f_180 a_106 = .inr (8, [.int x_109, .ref (gr g a_106 1), .int x_110, .int x_111, .int x_112, .long x_113, .int x_114, .ref (gr g a_106 7), .int x_115, .int x_116, .int x_117, .int x_118, .int x_119, .int x_120, .int x_121, .int x_122, .int x_123, .int x_124]) := Kp.at kc_182 i_107 (by decide) k_135
          have k_188 : f_180 a_139 = .inr (8, [.int x_142, .ref (gr g a_139 1), .int x_143, .int x_144, .int x_145, .long x_146, .int x_147, .ref (gr g a_139 7), .int x_148, .int x_149, .int x_150, .int x_151, .int x_152, .int x_153, .int x_154, .int x_155, .int x_156, .int x_157]) := Kp.at kc_182 i_140 (by decide) k_141
          have k_189 : f_180 p1 = .inr (8, [.int x_161, .ref (gr g p1 1), .int x_162, .int x_163, .int x_164, .long x_165, .int x_166, .ref (gr g p1 7), .int x_167, .int x_168, .int x_169, .int x_170, .int x_171, .int x_172, .int x_173, .int x_174, .int x_175, .int x_176]) := Kp.at kc_182 i_p1 (by decide) k_160
          have kp_190 := Kp.call kp_136 kc_182 (by decide)
          generalize H1 = H at hI hS ⊢
          refine W.widen (k := 0) (n := 0) (Nat.le_of_ble_eq_true rfl) (Nat.le_of_ble_eq_true rfl) ?_
          exact J_70 f_180 _ _ _ hI hS k_183 k_184 k_185 kp_190 (lv_sub hl [0, 1, 2, 3] rfl)
  exact K_7 _ 0 f_4 _ _ _ (Nat.lt_succ_self _) hI hS kp_7 (by first | omega | decide | (simp only [show Int32.toInt 0 = 0 from by decide]; omega)) (lv_sub hl [0, 1, 2, 3] rfl)
theorem tw_332 : q_g (.selects RX6 yX6_putLag yX6_putLag) := ⟨(List.mem_append_left _ (List.mem_of_getElem? (i := 1) (by decide +kernel))), good_of_word (by decide +kernel)⟩
theorem tw_333 : q_g (.instanceMethod yX6_putLag) := ⟨(List.mem_append_right _ (List.mem_of_getElem? (i := 560) (by decide +kernel))), good_of_word (by decide +kernel)⟩
theorem tw_334 : q_g (.methodLink RX6 104 yX6_putLag) := ⟨(List.mem_append_right _ (List.mem_of_getElem? (i := 558) (by decide +kernel))), good_of_word (by decide +kernel)⟩
theorem tw_335 : q_g (.fieldLink RX6 31 "DeadlineShare$State" "part" "LDeadlineShare$Wide;") := ⟨(List.mem_append_right _ (List.mem_of_getElem? (i := 235) (by decide +kernel))), good_of_word (by decide +kernel)⟩
theorem tw_336 : q_g (.code yX6_lagTimesW cX6_lagTimesW 2 (some .long)) := ⟨(List.mem_append_right _ (List.mem_of_getElem? (i := 919) (by decide +kernel))), good_of_word (by decide +kernel)⟩
def ow_c_X6_lagTimesW : List Cond := [.fieldLink RX6 31 "DeadlineShare$State" "part" "LDeadlineShare$Wide;", .methodLink RX6 104 yX6_putLag, .instanceMethod yX6_putLag, .selects RX6 yX6_putLag yX6_putLag, .initialized RX6, .methodLink RX6 93 yX10_asLong, .instanceMethod yX10_asLong, .selects RX10 yX10_asLong yX10_asLong, .initialized RX10]
def wq_c_X6_lagTimesW : List Cond := .code yX6_lagTimesW cX6_lagTimesW 2 (some .long) :: (ow_c_X6_lagTimesW ++ (u_ws RX6 TX6 10 ++ (wq_c_X6_putLag ++ (wq_c_X10_asLong ++ ([] : List Cond)))))
theorem tb_c_X6_lagTimesW : ∀ w ∈ wq_c_X6_lagTimesW, q_g w := by
  unfold wq_c_X6_lagTimesW ow_c_X6_lagTimesW
  exact q_cons tw_336 (q_app (q_cons tw_335 (q_cons tw_334 (q_cons tw_333 (q_cons tw_332 (q_cons tw_47 (q_cons tw_43 (q_cons tw_42 (q_cons tw_41 (q_cons tw_26 q_nil))))))))) (q_app tu_X6 (q_app tb_c_X6_putLag (q_app tb_c_X10_asLong q_nil))))
set_option maxHeartbeats 4000000 in
set_option maxRecDepth 100000 in
theorem c_X6_lagTimesW (l : Launch) (dC : Nat → ClassId) (dI : Nat → Nat → Nat) (g : kG) (A : Nat → Prop) (hG : kWf g) (f : Nat → va_E) (h0 : Nat) (p1 : Nat) (i_h0 : ik g 6 h0) (i_p1 : ik g 8 p1) : Met l yX6_lagTimesW wq_c_X6_lagTimesW ({ frames := 2, cells := 0, slots := 0, locals := 49 } : Room) (va_Pc [.ref h0, .ref p1] (fun U => kIn dC dI g A f U)) (va_Ql (fun (r : Int64) (_ : Unit) => True) (fun (_ : Unit) t => ∃ f1 : Nat → va_E, Iv dC dI g A f1 t.heap ∧ Kp g [10] f f1) A) 0 0 A := by
  refine Met.ofW (cc := cX6_lagTimesW) (maxL := 2) (ret := (some .long)) (by decide) rfl ?_
  intro p e s m args below meth c s₁ B hml hv
  obtain ⟨rfl, hI, hK, hE⟩ := hv
  have hx := B.exec
  have hb := B.bytes
  have hr := B.returns
  have hts := atoms_spec (ws := wq_c_X6_lagTimesW) B.pre
  have hown : s.vm.findClass RX6 = some m.cls := findClass_of_methodNamed B.named
  have hlocks := B.notSynchronized
  have hS : va_S A s.heap s.heap [] := va_S.rf
  have hk0 : Kp g [10] f f := Kp.rf
  have hl := lv_entry ([.ref h0, .ref p1]) (n := 2) (Nat.le_of_ble_eq_true rfl)
  rw [lg_entry_eq]
  generalize (lg_sl ([.ref h0, .ref p1]) ++ List.replicate (2 - (lg_sl ([.ref h0, .ref p1])).length) Slot.unset).toArray = ls at hl ⊢
  have hl : lv_has ls 2 [(0, .ref h0), (1, .ref p1)] := hl
  refine lv_aload_n hx hb dX6_lagTimesW_0 rfl (lv_at hl 0 rfl) ?_
  refine lv_aload_n hx hb dX6_lagTimesW_1 rfl (lv_at hl 1 rfl) ?_
  refine lv_aload_n hx hb dX6_lagTimesW_2 rfl (lv_at hl 0 rfl) ?_
  obtain ⟨x_2, x_3, x_4, x_5, x_6, k_1, b_7, b_8⟩ := op_6 hI i_h0
  refine k_get (ci := 6) (v := .ref (gr g h0 4)) (C := RX6) (T := TX6) (N := 10) hx hb hts (fun _ h0_ => List.mem_cons_of_mem _ (List.mem_append_right _ (List.mem_append_left _ h0_))) hown hK hI i_h0.1 k_1 rfl 4 (by decide) (hts (.fieldLink RX6 31 "DeadlineShare$State" "part" "LDeadlineShare$Wide;") (List.mem_cons_of_mem _ (List.mem_append_left _ (List.mem_of_getElem? (i := 0) rfl)))) (fun _ h9 => h9) rfl dX6_lagTimesW_3 ?_
  have i_10 := kw_6_4 hG i_h0
  refine va_callv (va_runV (As := [.ref p1, .ref (gr g h0 4)]) (rest := []) ⟨hx, hb, hml, hown, hts⟩ (c_X6_putLag l dC dI g A hG f h0 p1 (gr g h0 4) i_h0 i_p1 i_10) (cwV 2 hts (gi_V (fun w_ h0_ => ⟨List.mem_cons_of_mem _ (List.mem_append_right _ (List.mem_append_right _ (List.mem_append_left _ h0_))), (tb_c_X6_putLag w_ h0_).2⟩) (List.mem_cons_of_mem _ (List.mem_append_left _ (List.mem_of_getElem? (i := 1) rfl))) (List.mem_cons_of_mem _ (List.mem_append_left _ (List.mem_of_getElem? (i := 2) rfl))) (List.mem_cons_of_mem _ (List.mem_append_left _ (List.mem_of_getElem? (i := 3) rfl))) (List.mem_cons_of_mem _ (List.mem_append_left _ (List.mem_of_getElem? (i := 4) rfl)))) rfl rfl rfl (by decide +kernel) ⟨Nat.le_of_ble_eq_true rfl, Nat.le_of_ble_eq_true rfl⟩) ⟨fun a U g mk q => ⟨q.1, q.2.calling rfl rfl⟩, k_recv hK hI i_h0.1 k_1 (ci := 6) rfl, fun U hU hW => ⟨rfl, kIn.of hI hK hE hS hU hW⟩⟩ rfl rfl hl.1 rfl (lv_room (Nat.le_of_ble_eq_true rfl)) dX6_lagTimesW_6 ⟨Nat.le_of_ble_eq_true rfl, Nat.le_of_ble_eq_true rfl⟩) hS (fun q _ h => h) (fun q h => h) (fun u t H1 locs ht hvm _ hB hz1 hk1 hS => ?_)
  obtain ⟨f_11, hI, kc_13⟩ := hB
  rw [ht] at hI
  have k_14 : f_11 h0 = .inr (6, [.ref (gr g h0 0), .ref (gr g h0 1), .ref (gr g h0 2), .ref (gr g h0 3), .ref (gr g h0 4), .int x_2, .int x_3, .long x_4, .int x_5, .int x_6]) := Kp.at kc_13 i_h0 (by decide) k_1
  have kp_15 := Kp.call hk0 kc_13 (by decide)
  generalize H1 = H at hI hS ⊢
  refine W.widen (k := 0) (n := 0) (Nat.le_of_ble_eq_true rfl) (Nat.le_of_ble_eq_true rfl) ?_
  refine lv_aload_n hx hb dX6_lagTimesW_9 rfl (lv_at hl 0 rfl) ?_
  refine k_get (ci := 6) (v := .ref (gr g h0 4)) (C := RX6) (T := TX6) (N := 10) hx hb hts (fun _ h0_ => List.mem_cons_of_mem _ (List.mem_append_right _ (List.mem_append_left _ h0_))) hown hK hI i_h0.1 k_14 rfl 4 (by decide) (hts (.fieldLink RX6 31 "DeadlineShare$State" "part" "LDeadlineShare$Wide;") (List.mem_cons_of_mem _ (List.mem_append_left _ (List.mem_of_getElem? (i := 0) rfl)))) (fun _ h9 => h9) rfl dX6_lagTimesW_10 ?_
  obtain ⟨x_19, x_20, k_18⟩ := op_10 hI i_10
  refine va_calll (va_runV (As := []) (rest := []) ⟨hx, hb, hml, hown, hts⟩ (c_X10_asLong l dC dI g A hG f_11 (gr g h0 4) i_10) (cwV 0 hts (gi_V (fun w_ h0_ => ⟨List.mem_cons_of_mem _ (List.mem_append_right _ (List.mem_append_right _ (List.mem_append_right _ (List.mem_append_left _ h0_)))), (tb_c_X10_asLong w_ h0_).2⟩) (List.mem_cons_of_mem _ (List.mem_append_left _ (List.mem_of_getElem? (i := 5) rfl))) (List.mem_cons_of_mem _ (List.mem_append_left _ (List.mem_of_getElem? (i := 6) rfl))) (List.mem_cons_of_mem _ (List.mem_append_left _ (List.mem_of_getElem? (i := 7) rfl))) (List.mem_cons_of_mem _ (List.mem_append_left _ (List.mem_of_getElem? (i := 8) rfl)))) rfl rfl rfl (by decide +kernel) ⟨Nat.le_of_ble_eq_true rfl, Nat.le_of_ble_eq_true rfl⟩) ⟨fun a U g mk q => ⟨q.1, q.2.calling rfl rfl⟩, k_recv hK hI i_10.1 k_18 (ci := 10) rfl, fun U hU hW => ⟨rfl, kIn.of hI hK hE hS hU hW⟩⟩ rfl rfl hl.1 rfl (lv_room (Nat.le_of_ble_eq_true rfl)) dX6_lagTimesW_13 ⟨Nat.le_of_ble_eq_true rfl, Nat.le_of_ble_eq_true rfl⟩) hS (fun q _ h => h) (fun q h => h) (fun r_22 u t H1 locs ht hvm w_21 hB hz1 hk1 hS => ?_)
  have hI : Iv dC dI g A f_11 t.heap := hB
  rw [ht] at hI
  generalize H1 = H at hI hS ⊢
  refine W.widen (k := 0) (n := 0) (Nat.le_of_ble_eq_true rfl) (Nat.le_of_ble_eq_true rfl) ?_
  exact W.lret (v := r_22) hx hb hr (fun t ht hW => ⟨⟨r_22, (), rfl, trivial, ⟨f_11, k_ret ht hI, kp_15⟩⟩, hS.F ht⟩) hS.2.2 dX6_lagTimesW_16
theorem tw_337 : q_g (.methodLink RX6 119 Lib.MathLoose.max_long.x) := ⟨(List.mem_append_right _ (List.mem_of_getElem? (i := 1061) (by decide +kernel))), good_of_word (by decide +kernel)⟩
theorem tw_338 : q_g (.code Lib.MathLoose.min_long.x Lib.MathLoose.min_long.code 4 (some .long)) := ⟨(List.mem_append_right _ (List.mem_of_getElem? (i := 1064) (by decide +kernel))), good_of_word (by decide +kernel)⟩
theorem tw_339 : q_g (.static Lib.MathLoose.min_long.x) := ⟨(List.mem_append_right _ (List.mem_of_getElem? (i := 1063) (by decide +kernel))), good_of_word (by decide +kernel)⟩
theorem tw_340 : q_g (.methodLink RX6 125 Lib.MathLoose.min_long.x) := ⟨(List.mem_append_right _ (List.mem_of_getElem? (i := 1062) (by decide +kernel))), good_of_word (by decide +kernel)⟩
theorem tw_341 : q_g (.constantLong RX6 117 (267711444)) := ⟨(List.mem_append_right _ (List.mem_of_getElem? (i := 1060) (by decide +kernel))), good_of_word (by decide +kernel)⟩
theorem tw_342 : q_g (.constantLong RX6 115 (5)) := ⟨(List.mem_append_right _ (List.mem_of_getElem? (i := 1059) (by decide +kernel))), good_of_word (by decide +kernel)⟩
theorem tw_343 : q_g (.methodLink RX6 108 yX6_weightOfAll) := ⟨(List.mem_append_right _ (List.mem_of_getElem? (i := 491) (by decide +kernel))), good_of_word (by decide +kernel)⟩
theorem tw_344 : q_g (.code yX6_lagEdge cX6_lagEdge 8 (some .long)) := ⟨(List.mem_append_right _ (List.mem_of_getElem? (i := 1058) (by decide +kernel))), good_of_word (by decide +kernel)⟩
def ow_c_X6_lagEdge : List Cond := [.methodLink RX6 108 yX6_weightOfAll, .instanceMethod yX6_weightOfAll, .selects RX6 yX6_weightOfAll yX6_weightOfAll, .initialized RX6, .fieldLink RX6 48 "DeadlineShare$State" "count" "I", .fieldLink RX6 11 "DeadlineShare$State" "tasks" "[LDeadlineShare$Task;", .methodLink RX6 111 yX8_isOn, .instanceMethod yX8_isOn, .selects RX8 yX8_isOn yX8_isOn, .initialized RX8, .fieldLink RX6 31 "DeadlineShare$State" "part" "LDeadlineShare$Wide;", .methodLink RX6 104 yX6_putLag, .instanceMethod yX6_putLag, .selects RX6 yX6_putLag yX6_putLag, .constantLong RX6 115 (5), .methodLink RX6 101 yX10_multiply, .instanceMethod yX10_multiply, .selects RX10 yX10_multiply yX10_multiply, .initialized RX10, .methodLink RX6 90 yX10_divide, .instanceMethod yX10_divide, .selects RX10 yX10_divide yX10_divide, .constantLong RX6 117 (267711444), .methodLink RX6 93 yX10_asLong, .instanceMethod yX10_asLong, .selects RX10 yX10_asLong yX10_asLong, .methodLink RX6 125 Lib.MathLoose.min_long.x, .static Lib.MathLoose.min_long.x, .initialized "java/lang/Math", .code Lib.MathLoose.min_long.x Lib.MathLoose.min_long.code 4 (some .long), .methodLink RX6 119 Lib.MathLoose.max_long.x, .static Lib.MathLoose.max_long.x, .code Lib.MathLoose.max_long.x Lib.MathLoose.max_long.code 4 (some .long)]
def wq_c_X6_lagEdge : List Cond := .code yX6_lagEdge cX6_lagEdge 8 (some .long) :: (ow_c_X6_lagEdge ++ (wq_c_X6_weightOfAll ++ (u_ws RX6 TX6 10 ++ (wq_c_X8_isOn ++ (wq_c_X6_putLag ++ (wq_c_X10_multiply ++ (wq_c_X10_divide ++ (wq_c_X10_asLong ++ ([] : List Cond)))))))))
theorem tb_c_X6_lagEdge : ∀ w ∈ wq_c_X6_lagEdge, q_g w := by
  unfold wq_c_X6_lagEdge ow_c_X6_lagEdge
  exact q_cons tw_344 (q_app (q_cons tw_343 (q_cons tw_88 (q_cons tw_87 (q_cons tw_47 (q_cons tw_13 (q_cons tw_12 (q_cons tw_11 (q_cons tw_10 (q_cons tw_9 (q_cons tw_8 (q_cons tw_335 (q_cons tw_334 (q_cons tw_333 (q_cons tw_332 (q_cons tw_342 (q_cons tw_330 (q_cons tw_329 (q_cons tw_328 (q_cons tw_26 (q_cons tw_46 (q_cons tw_45 (q_cons tw_44 (q_cons tw_341 (q_cons tw_43 (q_cons tw_42 (q_cons tw_41 (q_cons tw_340 (q_cons tw_339 (q_cons tw_154 (q_cons tw_338 (q_cons tw_337 (q_cons tw_184 (q_cons tw_183 q_nil))))))))))))))))))))))))))))))))) (q_app tb_c_X6_weightOfAll (q_app tu_X6 (q_app tb_c_X8_isOn (q_app tb_c_X6_putLag (q_app tb_c_X10_multiply (q_app tb_c_X10_divide (q_app tb_c_X10_asLong q_nil))))))))
set_option maxHeartbeats 4000000 in
set_option maxRecDepth 100000 in
theorem c_X6_lagEdge (l : Launch) (dC : Nat → ClassId) (dI : Nat → Nat → Nat) (g : kG) (A : Nat → Prop) (hG : kWf g) (f : Nat → va_E) (h0 : Nat) (p1 : Int64) (p2 : Int32) (i_h0 : ik g 6 h0) : Met l yX6_lagEdge wq_c_X6_lagEdge ({ frames := 2, cells := 0, slots := 0, locals := 49 } : Room) (va_Pc [.ref h0, .long p1, .int p2] (fun U => kIn dC dI g A f U)) (va_Ql (fun (r : Int64) (_ : Unit) => True) (fun (_ : Unit) t => ∃ f1 : Nat → va_E, Iv dC dI g A f1 t.heap ∧ Kp g [10] f f1) A) 0 0 A := by
  refine Met.ofW (cc := cX6_lagEdge) (maxL := 8) (ret := (some .long)) (by decide) rfl ?_
  intro p e s m args below meth c s₁ B hml hv
  obtain ⟨rfl, hI, hK, hE⟩ := hv
  have hx := B.exec
  have hb := B.bytes
  have hr := B.returns
  have hts := atoms_spec (ws := wq_c_X6_lagEdge) B.pre
  have hown : s.vm.findClass RX6 = some m.cls := findClass_of_methodNamed B.named
  have hlocks := B.notSynchronized
  have hS : va_S A s.heap s.heap [] := va_S.rf
  have hk0 : Kp g [10] f f := Kp.rf
  have hl := lv_entry ([.ref h0, .long p1, .int p2]) (n := 8) (Nat.le_of_ble_eq_true rfl)
  rw [lg_entry_eq]
  generalize (lg_sl ([.ref h0, .long p1, .int p2]) ++ List.replicate (8 - (lg_sl ([.ref h0, .long p1, .int p2])).length) Slot.unset).toArray = ls at hl ⊢
  have hl : lv_has ls 8 [(0, .ref h0), (1, .long p1), (3, .int p2)] := hl
  refine lv_aload_n hx hb dX6_lagEdge_0 rfl (lv_at hl 0 rfl) ?_
  obtain ⟨x_2, x_3, x_4, x_5, x_6, k_1, b_7, b_8⟩ := op_6 hI i_h0
  refine va_calli (va_runV (As := []) (rest := []) ⟨hx, hb, hml, hown, hts⟩ (c_X6_weightOfAll l dC dI g A hG f h0 i_h0) (cwV 0 hts (gi_V (fun w_ h0_ => ⟨List.mem_cons_of_mem _ (List.mem_append_right _ (List.mem_append_left _ h0_)), (tb_c_X6_weightOfAll w_ h0_).2⟩) (List.mem_cons_of_mem _ (List.mem_append_left _ (List.mem_of_getElem? (i := 0) rfl))) (List.mem_cons_of_mem _ (List.mem_append_left _ (List.mem_of_getElem? (i := 1) rfl))) (List.mem_cons_of_mem _ (List.mem_append_left _ (List.mem_of_getElem? (i := 2) rfl))) (List.mem_cons_of_mem _ (List.mem_append_left _ (List.mem_of_getElem? (i := 3) rfl)))) rfl rfl rfl (by decide +kernel) ⟨Nat.le_of_ble_eq_true rfl, Nat.le_of_ble_eq_true rfl⟩) ⟨fun a U g mk q => ⟨q.1, q.2.calling rfl rfl⟩, k_recv hK hI i_h0.1 k_1 (ci := 6) rfl, fun U hU hW => ⟨rfl, kIn.of hI hK hE hS hU hW⟩⟩ rfl rfl hl.1 rfl (lv_room (Nat.le_of_ble_eq_true rfl)) dX6_lagEdge_1 ⟨Nat.le_of_ble_eq_true rfl, Nat.le_of_ble_eq_true rfl⟩) hS (fun q _ h => h) (fun q h => h) (fun r_10 u t H1 locs ht hvm w_9 hB hz1 hk1 hS => ?_)
  have hI : Iv dC dI g A f t.heap := hB
  rw [ht] at hI
  generalize H1 = H at hI hS ⊢
  refine W.widen (k := 0) (n := 0) (Nat.le_of_ble_eq_true rfl) (Nat.le_of_ble_eq_true rfl) ?_
  refine lv_istore (lv' := [(4, .int r_10), (0, .ref h0), (1, .long p1), (3, .int p2)]) hx hb dX6_lagEdge_4 hl (by decide) rfl (fun ls hl => ?_)
  refine lv_lload_n hx hb dX6_lagEdge_6 rfl (lv_at hl 2 rfl) ?_
  refine lv_lstore (lv' := [(5, .long p1), (4, .int r_10), (0, .ref h0), (1, .long p1), (3, .int p2)]) hx hb dX6_lagEdge_7 hl (by decide) rfl (fun ls hl => ?_)
  refine lv_iconst (v := 0) hx hb dX6_lagEdge_9 (by decide) ?_
  refine lv_istore (lv' := [(7, .int 0), (5, .long p1), (4, .int r_10), (0, .ref h0), (1, .long p1), (3, .int p2)]) hx hb dX6_lagEdge_10 hl (by decide) rfl (fun ls hl => ?_)
  have K_12 : ∀ (nn : Nat) (y_11 : Int32) (y_12 : Int64) (f_13 : Nat → va_E) (H : Heap) (locs : List Loc) (ls : Array Slot), (12 - y_11.toInt).toNat < nn → Iv dC dI g A f_13 H → va_S A s.heap H locs → f_13 h0 = .inr (6, [.ref (gr g h0 0), .ref (gr g h0 1), .ref (gr g h0 2), .ref (gr g h0 3), .ref (gr g h0 4), .int x_2, .int x_3, .long x_4, .int x_5, .int x_6]) → Kp g [10] f f_13 → (0 ≤ y_11.toInt) → lv_has ls 8 [(7, .int y_11), (5, .long y_12), (4, .int r_10), (0, .ref h0), (1, .long p1), (3, .int p2)] → W p l e (headSpec wq_c_X6_lagEdge ({ frames := 2, cells := 0, slots := 0, locals := 49 } : Room)).room s m ([.ref h0, .long p1, .int p2].toArray) below meth c H locs 0 0 (MQ below (va_Ql (fun (r : Int64) (_ : Unit) => True) (fun (_ : Unit) t => ∃ f1 : Nat → va_E, Iv dC dI g A f1 t.heap ∧ Kp g [10] f f1) A) ([.ref h0, .long p1, .int p2].toArray) s 0 0 A) (F0 m 12 ls []) := by
    intro nn
    induction nn with
    | zero => intro y_11 y_12 f_13 H locs ls m_17; exact absurd m_17 (Nat.not_lt_zero _)
    | succ nn ih =>
      intro y_11 y_12 f_13 H locs ls m_17 hI hS k_14 kp_15 t_16 hl
      have g_18 := Int32.toInt_lt y_11
      have g_19 := Int32.le_toInt y_11
      refine lv_iload hx hb dX6_lagEdge_12 (lv_at hl 0 rfl) ?_
      refine lv_aload_n hx hb dX6_lagEdge_14 rfl (lv_at hl 3 rfl) ?_
      refine k_get (ci := 6) (v := .int x_2) (C := RX6) (T := TX6) (N := 10) hx hb hts (fun _ h0_ => List.mem_cons_of_mem _ (List.mem_append_right _ (List.mem_append_right _ (List.mem_append_left _ h0_)))) hown hK hI i_h0.1 k_14 rfl 5 (by decide) (hts (.fieldLink RX6 48 "DeadlineShare$State" "count" "I") (List.mem_cons_of_mem _ (List.mem_append_left _ (List.mem_of_getElem? (i := 4) rfl)))) (fun _ h9 => h9) rfl dX6_lagEdge_15 ?_
      refine lv_icmp_ge (tgt := 118) hx hb dX6_lagEdge_18 (by decide) (fun c_20 => ?_) (fun c_20 => ?_)
      · have c_20 := kc_le rfl rfl c_20
        refine lv_lload hx hb dX6_lagEdge_118 (lv_at hl 1 rfl) ?_
        exact W.lret (v := y_12) hx hb hr (fun t ht hW => ⟨⟨y_12, (), rfl, trivial, ⟨f_13, k_ret ht hI, kp_15⟩⟩, hS.F ht⟩) hS.2.2 dX6_lagEdge_120
      · have c_20 := kn_le rfl rfl c_20
        refine lv_aload_n hx hb dX6_lagEdge_21 rfl (lv_at hl 3 rfl) ?_
        refine k_get (ci := 6) (v := .ref (gr g h0 1)) (C := RX6) (T := TX6) (N := 10) hx hb hts (fun _ h0_ => List.mem_cons_of_mem _ (List.mem_append_right _ (List.mem_append_right _ (List.mem_append_left _ h0_)))) hown hK hI i_h0.1 k_14 rfl 1 (by decide) (hts (.fieldLink RX6 11 "DeadlineShare$State" "tasks" "[LDeadlineShare$Task;") (List.mem_cons_of_mem _ (List.mem_append_left _ (List.mem_of_getElem? (i := 5) rfl)))) (fun _ h9 => h9) rfl dX6_lagEdge_22 ?_
        have i_22 := kw_6_1 hG i_h0
        refine lv_iload hx hb dX6_lagEdge_25 (lv_at hl 0 rfl) ?_
        obtain ⟨q_24, k_23, b_25⟩ := op_20 hI i_22
        refine k_aald hx hb hK hI i_22.1 4 k_23 rfl (vp_in_iff.mpr (by omega)) b_25 (fun _ hj => kw_20 hG i_22 hj) dX6_lagEdge_27 (fun a_26 i_27 => ?_)
        obtain ⟨x_29, x_30, x_31, x_32, x_33, x_34, x_35, x_36, x_37, x_38, x_39, x_40, x_41, x_42, x_43, x_44, k_28⟩ := op_8 hI i_27
        refine va_calli (va_runV (As := []) (rest := []) ⟨hx, hb, hml, hown, hts⟩ (c_X8_isOn l dC dI g A hG f_13 a_26 i_27) (cwV 0 hts (gi_V (fun w_ h0_ => ⟨List.mem_cons_of_mem _ (List.mem_append_right _ (List.mem_append_right _ (List.mem_append_right _ (List.mem_append_left _ h0_)))), (tb_c_X8_isOn w_ h0_).2⟩) (List.mem_cons_of_mem _ (List.mem_append_left _ (List.mem_of_getElem? (i := 6) rfl))) (List.mem_cons_of_mem _ (List.mem_append_left _ (List.mem_of_getElem? (i := 7) rfl))) (List.mem_cons_of_mem _ (List.mem_append_left _ (List.mem_of_getElem? (i := 8) rfl))) (List.mem_cons_of_mem _ (List.mem_append_left _ (List.mem_of_getElem? (i := 9) rfl)))) rfl rfl rfl (by decide +kernel) ⟨Nat.le_of_ble_eq_true rfl, Nat.le_of_ble_eq_true rfl⟩) ⟨fun a U g mk q => ⟨q.1, q.2.calling rfl rfl⟩, k_recv hK hI i_27.1 k_28 (ci := 8) rfl, fun U hU hW => ⟨rfl, kIn.of hI hK hE hS hU hW⟩⟩ rfl rfl hl.1 rfl (lv_room (Nat.le_of_ble_eq_true rfl)) dX6_lagEdge_28 ⟨Nat.le_of_ble_eq_true rfl, Nat.le_of_ble_eq_true rfl⟩) hS (fun q _ h => h) (fun q h => h) (fun r_46 u t H1 locs ht hvm w_45 hB hz1 hk1 hS => ?_)
        have hI : Iv dC dI g A f_13 t.heap := hB
        rw [ht] at hI
        generalize H1 = H at hI hS ⊢
        refine W.widen (k := 0) (n := 0) (Nat.le_of_ble_eq_true rfl) (Nat.le_of_ble_eq_true rfl) ?_
        have J_112 : ∀ (y_47 : Int64) (f_48 : Nat → va_E) (H : Heap) (locs : List Loc) (ls : Array Slot), Iv dC dI g A f_48 H → va_S A s.heap H locs → f_48 h0 = .inr (6, [.ref (gr g h0 0), .ref (gr g h0 1), .ref (gr g h0 2), .ref (gr g h0 3), .ref (gr g h0 4), .int x_2, .int x_3, .long x_4, .int x_5, .int x_6]) → f_48 (gr g h0 1) = .inl (gc g 4, 12, .inr (.inr (.inr (.inr q_24)))) → f_48 a_26 = .inr (8, [.int x_29, .ref (gr g a_26 1), .int x_30, .int x_31, .int x_32, .long x_33, .int x_34, .ref (gr g a_26 7), .int x_35, .int x_36, .int x_37, .int x_38, .int x_39, .int x_40, .int x_41, .int x_42, .int x_43, .int x_44]) → Kp g [10] f f_48 → lv_has ls 8 [(7, .int y_11), (5, .long y_47), (4, .int r_10), (0, .ref h0), (1, .long p1), (3, .int p2)] → W p l e (headSpec wq_c_X6_lagEdge ({ frames := 2, cells := 0, slots := 0, locals := 49 } : Room)).room s m ([.ref h0, .long p1, .int p2].toArray) below meth c H locs 0 0 (MQ below (va_Ql (fun (r : Int64) (_ : Unit) => True) (fun (_ : Unit) t => ∃ f1 : Nat → va_E, Iv dC dI g A f1 t.heap ∧ Kp g [10] f f1) A) ([.ref h0, .long p1, .int p2].toArray) s 0 0 A) (F0 m 112 ls []) := by
          intro y_47 f_48 H locs ls hI hS k_49 k_50 k_51 kp_52 hl
          obtain ⟨v_53, ev_53⟩ : ∃ y : Int32, y = y_11 + Int32.ofInt 1 := ⟨_, rfl⟩
          refine lv_iinc (v := v_53) (lv' := [(7, .int v_53), (5, .long y_47), (4, .int r_10), (0, .ref h0), (1, .long p1), (3, .int p2)]) hx hb dX6_lagEdge_112 hl (k := 0) rfl ev_53.symm (by decide) rfl (fun ls hl => ?_)
          have tv_53 := k_inc y_11
          rw [← ev_53] at tv_53
          refine lv_goto (tgt := 12) hx hb dX6_lagEdge_115 (by decide) ?_
          exact ih v_53 y_47 f_48 _ _ _ (by omega) hI hS k_49 kp_52 (by first | omega | decide) (lv_sub hl [0, 1, 2, 3, 4, 5] rfl)
        refine lv_if_eq (tgt := 112) hx hb dX6_lagEdge_31 (by decide) (fun c_54 => ?_) (fun c_54 => ?_)
        · have c_54 := kc_eq rfl (by decide : Int32.toInt 0 = 0) c_54
          exact J_112 y_12 f_13 _ _ _ hI hS k_14 k_23 k_28 kp_15 (lv_sub hl [0, 1, 2, 3, 4, 5] rfl)
        · have c_54 := kn_eq rfl (by decide : Int32.toInt 0 = 0) c_54
          refine lv_aload_n hx hb dX6_lagEdge_34 rfl (lv_at hl 3 rfl) ?_
          refine lv_aload_n hx hb dX6_lagEdge_35 rfl (lv_at hl 3 rfl) ?_
          refine k_get (ci := 6) (v := .ref (gr g h0 1)) (C := RX6) (T := TX6) (N := 10) hx hb hts (fun _ h0_ => List.mem_cons_of_mem _ (List.mem_append_right _ (List.mem_append_right _ (List.mem_append_left _ h0_)))) hown hK hI i_h0.1 k_14 rfl 1 (by decide) (hts (.fieldLink RX6 11 "DeadlineShare$State" "tasks" "[LDeadlineShare$Task;") (List.mem_cons_of_mem _ (List.mem_append_left _ (List.mem_of_getElem? (i := 5) rfl)))) (fun _ h9 => h9) rfl dX6_lagEdge_36 ?_
          refine lv_iload hx hb dX6_lagEdge_39 (lv_at hl 0 rfl) ?_
          refine k_aald hx hb hK hI i_22.1 4 k_23 rfl (vp_in_iff.mpr (by omega)) b_25 (fun _ hj => kw_20 hG i_22 hj) dX6_lagEdge_41 (fun a_57 i_58 => ?_)
          refine lv_aload_n hx hb dX6_lagEdge_42 rfl (lv_at hl 3 rfl) ?_
          refine k_get (ci := 6) (v := .ref (gr g h0 4)) (C := RX6) (T := TX6) (N := 10) hx hb hts (fun _ h0_ => List.mem_cons_of_mem _ (List.mem_append_right _ (List.mem_append_right _ (List.mem_append_left _ h0_)))) hown hK hI i_h0.1 k_14 rfl 4 (by decide) (hts (.fieldLink RX6 31 "DeadlineShare$State" "part" "LDeadlineShare$Wide;") (List.mem_cons_of_mem _ (List.mem_append_left _ (List.mem_of_getElem? (i := 10) rfl)))) (fun _ h9 => h9) rfl dX6_lagEdge_43 ?_
          have i_60 := kw_6_4 hG i_h0
          refine va_callv (va_runV (As := [.ref a_57, .ref (gr g h0 4)]) (rest := []) ⟨hx, hb, hml, hown, hts⟩ (c_X6_putLag l dC dI g A hG f_13 h0 a_57 (gr g h0 4) i_h0 i_58 i_60) (cwV 2 hts (gi_V (fun w_ h0_ => ⟨List.mem_cons_of_mem _ (List.mem_append_right _ (List.mem_append_right _ (List.mem_append_right _ (List.mem_append_right _ (List.mem_append_left _ h0_))))), (tb_c_X6_putLag w_ h0_).2⟩) (List.mem_cons_of_mem _ (List.mem_append_left _ (List.mem_of_getElem? (i := 11) rfl))) (List.mem_cons_of_mem _ (List.mem_append_left _ (List.mem_of_getElem? (i := 12) rfl))) (List.mem_cons_of_mem _ (List.mem_append_left _ (List.mem_of_getElem? (i := 13) rfl))) (List.mem_cons_of_mem _ (List.mem_append_left _ (List.mem_of_getElem? (i := 3) rfl)))) rfl rfl rfl (by decide +kernel) ⟨Nat.le_of_ble_eq_true rfl, Nat.le_of_ble_eq_true rfl⟩) ⟨fun a U g mk q => ⟨q.1, q.2.calling rfl rfl⟩, k_recv hK hI i_h0.1 k_14 (ci := 6) rfl, fun U hU hW => ⟨rfl, kIn.of hI hK hE hS hU hW⟩⟩ rfl rfl hl.1 rfl (lv_room (Nat.le_of_ble_eq_true rfl)) dX6_lagEdge_46 ⟨Nat.le_of_ble_eq_true rfl, Nat.le_of_ble_eq_true rfl⟩) hS (fun q _ h => h) (fun q h => h) (fun u t H1 locs ht hvm _ hB hz1 hk1 hS => ?_)
          obtain ⟨f_61, hI, kc_63⟩ := hB
          rw [ht] at hI
          have k_64 : f_61 h0 = .inr (6, [.ref (gr g h0 0), .ref (gr g h0 1), .ref (gr g h0 2), .ref (gr g h0 3), .ref (gr g h0 4), .int x_2, .int x_3, .long x_4, .int x_5, .int x_6]) := Kp.at kc_63 i_h0 (by decide) k_14
          have k_65 : f_61 (gr g h0 1) = .inl (gc g 4, 12, .inr (.inr (.inr (.inr q_24)))) := Kp.at kc_63 i_22 (by decide) k_23
          have k_66 : f_61 a_26 = .inr (8, [.int x_29, .ref (gr g a_26 1), .int x_30, .int x_31, .int x_32, .long x_33, .int x_34, .ref (gr g a_26 7), .int x_35, .int x_36, .int x_37, .int x_38, .int x_39, .int x_40, .int x_41, .int x_42, .int x_43, .int x_44]) := Kp.at kc_63 i_27 (by decide) k_28
          have kp_67 := Kp.call kp_15 kc_63 (by decide)
          generalize H1 = H at hI hS ⊢
          refine W.widen (k := 0) (n := 0) (Nat.le_of_ble_eq_true rfl) (Nat.le_of_ble_eq_true rfl) ?_
          refine lv_aload_n hx hb dX6_lagEdge_49 rfl (lv_at hl 3 rfl) ?_
          refine k_get (ci := 6) (v := .ref (gr g h0 4)) (C := RX6) (T := TX6) (N := 10) hx hb hts (fun _ h0_ => List.mem_cons_of_mem _ (List.mem_append_right _ (List.mem_append_right _ (List.mem_append_left _ h0_)))) hown hK hI i_h0.1 k_64 rfl 4 (by decide) (hts (.fieldLink RX6 31 "DeadlineShare$State" "part" "LDeadlineShare$Wide;") (List.mem_cons_of_mem _ (List.mem_append_left _ (List.mem_of_getElem? (i := 10) rfl)))) (fun _ h9 => h9) rfl dX6_lagEdge_50 ?_
          refine lv_ldc2 hx hb hown (hts (.constantLong RX6 115 (5)) (List.mem_cons_of_mem _ (List.mem_append_left _ (List.mem_of_getElem? (i := 14) rfl)))) dX6_lagEdge_53 ?_
          obtain ⟨x_71, x_72, k_70⟩ := op_10 hI i_60
          refine va_callv (va_runV (As := [.long 5]) (rest := []) ⟨hx, hb, hml, hown, hts⟩ (c_X10_multiply l dC dI g A hG f_61 (gr g h0 4) 5 i_60) (cwV 1 hts (gi_V (fun w_ h0_ => ⟨List.mem_cons_of_mem _ (List.mem_append_right _ (List.mem_append_right _ (List.mem_append_right _ (List.mem_append_right _ (List.mem_append_right _ (List.mem_append_left _ h0_)))))), (tb_c_X10_multiply w_ h0_).2⟩) (List.mem_cons_of_mem _ (List.mem_append_left _ (List.mem_of_getElem? (i := 15) rfl))) (List.mem_cons_of_mem _ (List.mem_append_left _ (List.mem_of_getElem? (i := 16) rfl))) (List.mem_cons_of_mem _ (List.mem_append_left _ (List.mem_of_getElem? (i := 17) rfl))) (List.mem_cons_of_mem _ (List.mem_append_left _ (List.mem_of_getElem? (i := 18) rfl)))) rfl rfl rfl (by decide +kernel) ⟨Nat.le_of_ble_eq_true rfl, Nat.le_of_ble_eq_true rfl⟩) ⟨fun a U g mk q => ⟨q.1, q.2.calling rfl rfl⟩, k_recv hK hI i_60.1 k_70 (ci := 10) rfl, fun U hU hW => ⟨rfl, kIn.of hI hK hE hS hU hW⟩⟩ rfl rfl hl.1 rfl (lv_room (Nat.le_of_ble_eq_true rfl)) dX6_lagEdge_56 ⟨Nat.le_of_ble_eq_true rfl, Nat.le_of_ble_eq_true rfl⟩) hS (fun q _ h => h) (fun q h => h) (fun u t H1 locs ht hvm _ hB hz1 hk1 hS => ?_)
          obtain ⟨f_73, hI, kc_75⟩ := hB
          rw [ht] at hI
          have k_76 : f_73 h0 = .inr (6, [.ref (gr g h0 0), .ref (gr g h0 1), .ref (gr g h0 2), .ref (gr g h0 3), .ref (gr g h0 4), .int x_2, .int x_3, .long x_4, .int x_5, .int x_6]) := Kp.at kc_75 i_h0 (by decide) k_64
          have k_77 : f_73 (gr g h0 1) = .inl (gc g 4, 12, .inr (.inr (.inr (.inr q_24)))) := Kp.at kc_75 i_22 (by decide) k_65
          have k_78 : f_73 a_26 = .inr (8, [.int x_29, .ref (gr g a_26 1), .int x_30, .int x_31, .int x_32, .long x_33, .int x_34, .ref (gr g a_26 7), .int x_35, .int x_36, .int x_37, .int x_38, .int x_39, .int x_40, .int x_41, .int x_42, .int x_43, .int x_44]) := Kp.at kc_75 i_27 (by decide) k_66
          have kp_79 := Kp.call kp_67 kc_75 (by decide)
          generalize H1 = H at hI hS ⊢
          refine W.widen (k := 0) (n := 0) (Nat.le_of_ble_eq_true rfl) (Nat.le_of_ble_eq_true rfl) ?_
          refine lv_aload_n hx hb dX6_lagEdge_59 rfl (lv_at hl 3 rfl) ?_
          refine k_get (ci := 6) (v := .ref (gr g h0 4)) (C := RX6) (T := TX6) (N := 10) hx hb hts (fun _ h0_ => List.mem_cons_of_mem _ (List.mem_append_right _ (List.mem_append_right _ (List.mem_append_left _ h0_)))) hown hK hI i_h0.1 k_76 rfl 4 (by decide) (hts (.fieldLink RX6 31 "DeadlineShare$State" "part" "LDeadlineShare$Wide;") (List.mem_cons_of_mem _ (List.mem_append_left _ (List.mem_of_getElem? (i := 10) rfl)))) (fun _ h9 => h9) rfl dX6_lagEdge_60 ?_
          refine lv_iload hx hb dX6_lagEdge_63 (lv_at hl 2 rfl) ?_
          refine lv_i2l (v := r_10.toInt64) hx hb dX6_lagEdge_65 rfl ?_
          have t_82 := Int32.toInt_toInt64 r_10
          obtain ⟨x_84, x_85, k_83⟩ := op_10 hI i_60
          refine va_callv (va_runV (As := [.long r_10.toInt64]) (rest := []) ⟨hx, hb, hml, hown, hts⟩ (c_X10_divide l dC dI g A hG f_73 (gr g h0 4) r_10.toInt64 i_60) (cwV 1 hts (gi_V (fun w_ h0_ => ⟨List.mem_cons_of_mem _ (List.mem_append_right _ (List.mem_append_right _ (List.mem_append_right _ (List.mem_append_right _ (List.mem_append_right _ (List.mem_append_right _ (List.mem_append_left _ h0_))))))), (tb_c_X10_divide w_ h0_).2⟩) (List.mem_cons_of_mem _ (List.mem_append_left _ (List.mem_of_getElem? (i := 19) rfl))) (List.mem_cons_of_mem _ (List.mem_append_left _ (List.mem_of_getElem? (i := 20) rfl))) (List.mem_cons_of_mem _ (List.mem_append_left _ (List.mem_of_getElem? (i := 21) rfl))) (List.mem_cons_of_mem _ (List.mem_append_left _ (List.mem_of_getElem? (i := 18) rfl)))) rfl rfl rfl (by decide +kernel) ⟨Nat.le_of_ble_eq_true rfl, Nat.le_of_ble_eq_true rfl⟩) ⟨fun a U g mk q => ⟨q.1, q.2.calling rfl rfl⟩, k_recv hK hI i_60.1 k_83 (ci := 10) rfl, fun U hU hW => ⟨rfl, kIn.of hI hK hE hS hU hW⟩⟩ rfl rfl hl.1 rfl (lv_room (Nat.le_of_ble_eq_true rfl)) dX6_lagEdge_66 ⟨Nat.le_of_ble_eq_true rfl, Nat.le_of_ble_eq_true rfl⟩) hS (fun q _ h => h) (fun q h => h) (fun u t H1 locs ht hvm _ hB hz1 hk1 hS => ?_)
          obtain ⟨f_86, hI, kc_88⟩ := hB
          rw [ht] at hI
          have k_89 : f_86 h0 = .inr (6, [.ref (gr g h0 0), .ref (gr g h0 1), .ref (gr g h0 2), .ref (gr g h0 3), .ref (gr g h0 4), .int x_2, .int x_3, .long x_4, .int x_5, .int x_6]) := Kp.at kc_88 i_h0 (by decide) k_76
          have k_90 : f_86 (gr g h0 1) = .inl (gc g 4, 12, .inr (.inr (.inr (.inr q_24)))) := Kp.at kc_88 i_22 (by decide) k_77
          have k_91 : f_86 a_26 = .inr (8, [.int x_29, .ref (gr g a_26 1), .int x_30, .int x_31, .int x_32, .long x_33, .int x_34, .ref (gr g a_26 7), .int x_35, .int x_36, .int x_37, .int x_38, .int x_39, .int x_40, .int x_41, .int x_42, .int x_43, .int x_44]) := Kp.at kc_88 i_27 (by decide) k_78
          have kp_92 := Kp.call kp_79 kc_88 (by decide)
          generalize H1 = H at hI hS ⊢
          refine W.widen (k := 0) (n := 0) (Nat.le_of_ble_eq_true rfl) (Nat.le_of_ble_eq_true rfl) ?_
          refine lv_aload_n hx hb dX6_lagEdge_69 rfl (lv_at hl 3 rfl) ?_
          refine k_get (ci := 6) (v := .ref (gr g h0 4)) (C := RX6) (T := TX6) (N := 10) hx hb hts (fun _ h0_ => List.mem_cons_of_mem _ (List.mem_append_right _ (List.mem_append_right _ (List.mem_append_left _ h0_)))) hown hK hI i_h0.1 k_89 rfl 4 (by decide) (hts (.fieldLink RX6 31 "DeadlineShare$State" "part" "LDeadlineShare$Wide;") (List.mem_cons_of_mem _ (List.mem_append_left _ (List.mem_of_getElem? (i := 10) rfl)))) (fun _ h9 => h9) rfl dX6_lagEdge_70 ?_
          refine lv_ldc2 hx hb hown (hts (.constantLong RX6 117 (267711444)) (List.mem_cons_of_mem _ (List.mem_append_left _ (List.mem_of_getElem? (i := 22) rfl)))) dX6_lagEdge_73 ?_
          obtain ⟨x_96, x_97, k_95⟩ := op_10 hI i_60
          refine va_callv (va_runV (As := [.long 267711444]) (rest := []) ⟨hx, hb, hml, hown, hts⟩ (c_X10_divide l dC dI g A hG f_86 (gr g h0 4) 267711444 i_60) (cwV 1 hts (gi_V (fun w_ h0_ => ⟨List.mem_cons_of_mem _ (List.mem_append_right _ (List.mem_append_right _ (List.mem_append_right _ (List.mem_append_right _ (List.mem_append_right _ (List.mem_append_right _ (List.mem_append_left _ h0_))))))), (tb_c_X10_divide w_ h0_).2⟩) (List.mem_cons_of_mem _ (List.mem_append_left _ (List.mem_of_getElem? (i := 19) rfl))) (List.mem_cons_of_mem _ (List.mem_append_left _ (List.mem_of_getElem? (i := 20) rfl))) (List.mem_cons_of_mem _ (List.mem_append_left _ (List.mem_of_getElem? (i := 21) rfl))) (List.mem_cons_of_mem _ (List.mem_append_left _ (List.mem_of_getElem? (i := 18) rfl)))) rfl rfl rfl (by decide +kernel) ⟨Nat.le_of_ble_eq_true rfl, Nat.le_of_ble_eq_true rfl⟩) ⟨fun a U g mk q => ⟨q.1, q.2.calling rfl rfl⟩, k_recv hK hI i_60.1 k_95 (ci := 10) rfl, fun U hU hW => ⟨rfl, kIn.of hI hK hE hS hU hW⟩⟩ rfl rfl hl.1 rfl (lv_room (Nat.le_of_ble_eq_true rfl)) dX6_lagEdge_76 ⟨Nat.le_of_ble_eq_true rfl, Nat.le_of_ble_eq_true rfl⟩) hS (fun q _ h => h) (fun q h => h) (fun u t H1 locs ht hvm _ hB hz1 hk1 hS => ?_)
          obtain ⟨f_98, hI, kc_100⟩ := hB
          rw [ht] at hI
          have k_101 : f_98 h0 = .inr (6, [.ref (gr g h0 0), .ref (gr g h0 1), .ref (gr g h0 2), .ref (gr g h0 3), .ref (gr g h0 4), .int x_2, .int x_3, .long x_4, .int x_5, .int x_6]) := Kp.at kc_100 i_h0 (by decide) k_89
          have k_102 : f_98 (gr g h0 1) = .inl (gc g 4, 12, .inr (.inr (.inr (.inr q_24)))) := Kp.at kc_100 i_22 (by decide) k_90
          have k_103 : f_98 a_26 = .inr (8, [.int x_29, .ref (gr g a_26 1), .int x_30, .int x_31, .int x_32, .long x_33, .int x_34, .ref (gr g a_26 7), .int x_35, .int x_36, .int x_37, .int x_38, .int x_39, .int x_40, .int x_41, .int x_42, .int x_43, .int x_44]) := Kp.at kc_100 i_27 (by decide) k_91
          have kp_104 := Kp.call kp_92 kc_100 (by decide)
          generalize H1 = H at hI hS ⊢
          refine W.widen (k := 0) (n := 0) (Nat.le_of_ble_eq_true rfl) (Nat.le_of_ble_eq_true rfl) ?_
          refine lv_iload_n hx hb dX6_lagEdge_79 rfl (lv_at hl 5 rfl) ?_
          have J_110 : ∀ (y_105 : Int64) (H : Heap) (locs : List Loc) (ls : Array Slot), Iv dC dI g A f_98 H → va_S A s.heap H locs → lv_has ls 8 [(7, .int y_11), (5, .long y_12), (4, .int r_10), (0, .ref h0), (1, .long p1), (3, .int p2)] → W p l e (headSpec wq_c_X6_lagEdge ({ frames := 2, cells := 0, slots := 0, locals := 49 } : Room)).room s m ([.ref h0, .long p1, .int p2].toArray) below meth c H locs 0 0 (MQ below (va_Ql (fun (r : Int64) (_ : Unit) => True) (fun (_ : Unit) t => ∃ f1 : Nat → va_E, Iv dC dI g A f1 t.heap ∧ Kp g [10] f f1) A) ([.ref h0, .long p1, .int p2].toArray) s 0 0 A) (F0 m 110 ls [.long y_105]) := by
            intro y_105 H locs ls hI hS  hl
            refine lv_lstore (lv' := [(5, .long y_105), (7, .int y_11), (4, .int r_10), (0, .ref h0), (1, .long p1), (3, .int p2)]) hx hb dX6_lagEdge_110 hl (by decide) rfl (fun ls hl => ?_)
            exact J_112 y_105 f_98 _ _ _ hI hS k_101 k_102 k_103 kp_104 (lv_sub hl [1, 0, 2, 3, 4, 5] rfl)
          refine lv_if_eq (tgt := 98) hx hb dX6_lagEdge_80 (by decide) (fun c_106 => ?_) (fun c_106 => ?_)
          · have c_106 := kc_eq rfl (by decide : Int32.toInt 0 = 0) c_106
            refine lv_lload hx hb dX6_lagEdge_98 (lv_at hl 1 rfl) ?_
            refine lv_aload_n hx hb dX6_lagEdge_100 rfl (lv_at hl 3 rfl) ?_
            refine k_get (ci := 6) (v := .ref (gr g h0 4)) (C := RX6) (T := TX6) (N := 10) hx hb hts (fun _ h0_ => List.mem_cons_of_mem _ (List.mem_append_right _ (List.mem_append_right _ (List.mem_append_left _ h0_)))) hown hK hI i_h0.1 k_101 rfl 4 (by decide) (hts (.fieldLink RX6 31 "DeadlineShare$State" "part" "LDeadlineShare$Wide;") (List.mem_cons_of_mem _ (List.mem_append_left _ (List.mem_of_getElem? (i := 10) rfl)))) (fun _ h9 => h9) rfl dX6_lagEdge_101 ?_
            obtain ⟨x_110, x_111, k_109⟩ := op_10 hI i_60
            refine va_calll (va_runV (As := []) (rest := [.long y_12]) ⟨hx, hb, hml, hown, hts⟩ (c_X10_asLong l dC dI g A hG f_98 (gr g h0 4) i_60) (cwV 0 hts (gi_V (fun w_ h0_ => ⟨List.mem_cons_of_mem _ (List.mem_append_right _ (List.mem_append_right _ (List.mem_append_right _ (List.mem_append_right _ (List.mem_append_right _ (List.mem_append_right _ (List.mem_append_right _ (List.mem_append_left _ h0_)))))))), (tb_c_X10_asLong w_ h0_).2⟩) (List.mem_cons_of_mem _ (List.mem_append_left _ (List.mem_of_getElem? (i := 23) rfl))) (List.mem_cons_of_mem _ (List.mem_append_left _ (List.mem_of_getElem? (i := 24) rfl))) (List.mem_cons_of_mem _ (List.mem_append_left _ (List.mem_of_getElem? (i := 25) rfl))) (List.mem_cons_of_mem _ (List.mem_append_left _ (List.mem_of_getElem? (i := 18) rfl)))) rfl rfl rfl (by decide +kernel) ⟨Nat.le_of_ble_eq_true rfl, Nat.le_of_ble_eq_true rfl⟩) ⟨fun a U g mk q => ⟨q.1, q.2.calling rfl rfl⟩, k_recv hK hI i_60.1 k_109 (ci := 10) rfl, fun U hU hW => ⟨rfl, kIn.of hI hK hE hS hU hW⟩⟩ rfl rfl hl.1 rfl (lv_room (Nat.le_of_ble_eq_true rfl)) dX6_lagEdge_104 ⟨Nat.le_of_ble_eq_true rfl, Nat.le_of_ble_eq_true rfl⟩) hS (fun q _ h => h) (fun q h => h) (fun r_113 u t H1 locs ht hvm w_112 hB hz1 hk1 hS => ?_)
            have hI : Iv dC dI g A f_98 t.heap := hB
            rw [ht] at hI
            generalize H1 = H at hI hS ⊢
            refine W.widen (k := 0) (n := 0) (Nat.le_of_ble_eq_true rfl) (Nat.le_of_ble_eq_true rfl) ?_
            refine va_mmin_long hx hb (by rw [hml]; exact hl.1.symm) hown (hts (.methodLink RX6 125 Lib.MathLoose.min_long.x) (List.mem_cons_of_mem _ (List.mem_append_left _ (List.mem_of_getElem? (i := 26) rfl)))) (hts (.static Lib.MathLoose.min_long.x) (List.mem_cons_of_mem _ (List.mem_append_left _ (List.mem_of_getElem? (i := 27) rfl)))) (hts (.initialized "java/lang/Math") (List.mem_cons_of_mem _ (List.mem_append_left _ (List.mem_of_getElem? (i := 28) rfl)))) (hts (.code Lib.MathLoose.min_long.x Lib.MathLoose.min_long.code 4 (some .long)) (List.mem_cons_of_mem _ (List.mem_append_left _ (List.mem_of_getElem? (i := 29) rfl)))) (Nat.le_of_ble_eq_true rfl) (Nat.le_of_ble_eq_true rfl) (Nat.le_of_ble_eq_true rfl) (Nat.le_of_ble_eq_true rfl) dX6_lagEdge_107 ?_
            refine lv_topl (fun v_114 ev_114 => ?_)
            exact J_110 v_114 _ _ _ hI hS  (lv_sub hl [0, 1, 2, 3, 4, 5] rfl)
          · have c_106 := kn_eq rfl (by decide : Int32.toInt 0 = 0) c_106
            refine lv_lload hx hb dX6_lagEdge_83 (lv_at hl 1 rfl) ?_
            refine lv_aload_n hx hb dX6_lagEdge_85 rfl (lv_at hl 3 rfl) ?_
            refine k_get (ci := 6) (v := .ref (gr g h0 4)) (C := RX6) (T := TX6) (N := 10) hx hb hts (fun _ h0_ => List.mem_cons_of_mem _ (List.mem_append_right _ (List.mem_append_right _ (List.mem_append_left _ h0_)))) hown hK hI i_h0.1 k_101 rfl 4 (by decide) (hts (.fieldLink RX6 31 "DeadlineShare$State" "part" "LDeadlineShare$Wide;") (List.mem_cons_of_mem _ (List.mem_append_left _ (List.mem_of_getElem? (i := 10) rfl)))) (fun _ h9 => h9) rfl dX6_lagEdge_86 ?_
            obtain ⟨x_118, x_119, k_117⟩ := op_10 hI i_60
            refine va_calll (va_runV (As := []) (rest := [.long y_12]) ⟨hx, hb, hml, hown, hts⟩ (c_X10_asLong l dC dI g A hG f_98 (gr g h0 4) i_60) (cwV 0 hts (gi_V (fun w_ h0_ => ⟨List.mem_cons_of_mem _ (List.mem_append_right _ (List.mem_append_right _ (List.mem_append_right _ (List.mem_append_right _ (List.mem_append_right _ (List.mem_append_right _ (List.mem_append_right _ (List.mem_append_left _ h0_)))))))), (tb_c_X10_asLong w_ h0_).2⟩) (List.mem_cons_of_mem _ (List.mem_append_left _ (List.mem_of_getElem? (i := 23) rfl))) (List.mem_cons_of_mem _ (List.mem_append_left _ (List.mem_of_getElem? (i := 24) rfl))) (List.mem_cons_of_mem _ (List.mem_append_left _ (List.mem_of_getElem? (i := 25) rfl))) (List.mem_cons_of_mem _ (List.mem_append_left _ (List.mem_of_getElem? (i := 18) rfl)))) rfl rfl rfl (by decide +kernel) ⟨Nat.le_of_ble_eq_true rfl, Nat.le_of_ble_eq_true rfl⟩) ⟨fun a U g mk q => ⟨q.1, q.2.calling rfl rfl⟩, k_recv hK hI i_60.1 k_117 (ci := 10) rfl, fun U hU hW => ⟨rfl, kIn.of hI hK hE hS hU hW⟩⟩ rfl rfl hl.1 rfl (lv_room (Nat.le_of_ble_eq_true rfl)) dX6_lagEdge_89 ⟨Nat.le_of_ble_eq_true rfl, Nat.le_of_ble_eq_true rfl⟩) hS (fun q _ h => h) (fun q h => h) (fun r_121 u t H1 locs ht hvm w_120 hB hz1 hk1 hS => ?_)
            have hI : Iv dC dI g A f_98 t.heap := hB
            rw [ht] at hI
            generalize H1 = H at hI hS ⊢
            refine W.widen (k := 0) (n := 0) (Nat.le_of_ble_eq_true rfl) (Nat.le_of_ble_eq_true rfl) ?_
            refine va_mmax_long hx hb (by rw [hml]; exact hl.1.symm) hown (hts (.methodLink RX6 119 Lib.MathLoose.max_long.x) (List.mem_cons_of_mem _ (List.mem_append_left _ (List.mem_of_getElem? (i := 30) rfl)))) (hts (.static Lib.MathLoose.max_long.x) (List.mem_cons_of_mem _ (List.mem_append_left _ (List.mem_of_getElem? (i := 31) rfl)))) (hts (.initialized "java/lang/Math") (List.mem_cons_of_mem _ (List.mem_append_left _ (List.mem_of_getElem? (i := 28) rfl)))) (hts (.code Lib.MathLoose.max_long.x Lib.MathLoose.max_long.code 4 (some .long)) (List.mem_cons_of_mem _ (List.mem_append_left _ (List.mem_of_getElem? (i := 32) rfl)))) (Nat.le_of_ble_eq_true rfl) (Nat.le_of_ble_eq_true rfl) (Nat.le_of_ble_eq_true rfl) (Nat.le_of_ble_eq_true rfl) dX6_lagEdge_92 ?_
            refine lv_topl (fun v_122 ev_122 => ?_)
            refine lv_goto (tgt := 110) hx hb dX6_lagEdge_95 (by decide) ?_
            exact J_110 v_122 _ _ _ hI hS  (lv_sub hl [0, 1, 2, 3, 4, 5] rfl)
  exact K_12 _ 0 p1 f _ _ _ (Nat.lt_succ_self _) hI hS k_1 hk0 (by first | omega | decide | (simp only [show Int32.toInt 0 = 0 from by decide]; omega)) (lv_sub hl [0, 1, 2, 3, 4, 5] rfl)
theorem tw_345 : q_g (.code yX6_howManyAre cX6_howManyAre 4 (some .int)) := ⟨(List.mem_append_right _ (List.mem_of_getElem? (i := 1072) (by decide +kernel))), good_of_word (by decide +kernel)⟩
def ow_c_X6_howManyAre : List Cond := [.fieldLink RX6 48 "DeadlineShare$State" "count" "I", .fieldLink RX6 11 "DeadlineShare$State" "tasks" "[LDeadlineShare$Task;", .fieldLink RX6 69 "DeadlineShare$Task" "state" "I"]
def wq_c_X6_howManyAre : List Cond := .code yX6_howManyAre cX6_howManyAre 4 (some .int) :: (ow_c_X6_howManyAre ++ (u_ws RX6 TX6 10 ++ (u_ws RX8 TX8 18 ++ ([] : List Cond))))
theorem tb_c_X6_howManyAre : ∀ w ∈ wq_c_X6_howManyAre, q_g w := by
  unfold wq_c_X6_howManyAre ow_c_X6_howManyAre
  exact q_cons tw_345 (q_app (q_cons tw_13 (q_cons tw_12 (q_cons tw_24 q_nil))) (q_app tu_X6 (q_app tu_X8 q_nil)))
set_option maxHeartbeats 4000000 in
set_option maxRecDepth 100000 in
theorem c_X6_howManyAre (l : Launch) (dC : Nat → ClassId) (dI : Nat → Nat → Nat) (g : kG) (A : Nat → Prop) (hG : kWf g) (f : Nat → va_E) (h0 : Nat) (p1 : Int32) (i_h0 : ik g 6 h0) : Met l yX6_howManyAre wq_c_X6_howManyAre ({ frames := 0, cells := 0, slots := 0, locals := 0 } : Room) (va_Pc [.ref h0, .int p1] (fun U => kIn dC dI g A f U)) (va_Qi (fun (r : Int32) (_ : Unit) => True) (fun (_ : Unit) t => Iv dC dI g A f t.heap) A) 0 0 A := by
  refine Met.ofW (cc := cX6_howManyAre) (maxL := 4) (ret := (some .int)) (by decide) rfl ?_
  intro p e s m args below meth c s₁ B hml hv
  obtain ⟨rfl, hI, hK, hE⟩ := hv
  have hx := B.exec
  have hb := B.bytes
  have hr := B.returns
  have hts := atoms_spec (ws := wq_c_X6_howManyAre) B.pre
  have hown : s.vm.findClass RX6 = some m.cls := findClass_of_methodNamed B.named
  have hlocks := B.notSynchronized
  have hS : va_S A s.heap s.heap [] := va_S.rf
  have hl := lv_entry ([.ref h0, .int p1]) (n := 4) (Nat.le_of_ble_eq_true rfl)
  rw [lg_entry_eq]
  generalize (lg_sl ([.ref h0, .int p1]) ++ List.replicate (4 - (lg_sl ([.ref h0, .int p1])).length) Slot.unset).toArray = ls at hl ⊢
  have hl : lv_has ls 4 [(0, .ref h0), (1, .int p1)] := hl
  refine lv_iconst (v := 0) hx hb dX6_howManyAre_0 (by decide) ?_
  refine lv_istore_n (lv' := [(2, .int 0), (0, .ref h0), (1, .int p1)]) hx hb dX6_howManyAre_1 rfl hl (by decide) rfl (fun ls hl => ?_)
  refine lv_iconst (v := 0) hx hb dX6_howManyAre_2 (by decide) ?_
  refine lv_istore_n (lv' := [(3, .int 0), (2, .int 0), (0, .ref h0), (1, .int p1)]) hx hb dX6_howManyAre_3 rfl hl (by decide) rfl (fun ls hl => ?_)
  have K_4 : ∀ (nn : Nat) (y_1 : Int32) (y_2 : Int32) (H : Heap) (locs : List Loc) (ls : Array Slot), (12 - y_1.toInt).toNat < nn → Iv dC dI g A f H → va_S A s.heap H locs → (0 ≤ y_1.toInt) → lv_has ls 4 [(3, .int y_1), (2, .int y_2), (0, .ref h0), (1, .int p1)] → W p l e (headSpec wq_c_X6_howManyAre ({ frames := 0, cells := 0, slots := 0, locals := 0 } : Room)).room s m ([.ref h0, .int p1].toArray) below meth c H locs 0 0 (MQ below (va_Qi (fun (r : Int32) (_ : Unit) => True) (fun (_ : Unit) t => Iv dC dI g A f t.heap) A) ([.ref h0, .int p1].toArray) s 0 0 A) (F0 m 4 ls []) := by
    intro nn
    induction nn with
    | zero => intro y_1 y_2 H locs ls m_4; exact absurd m_4 (Nat.not_lt_zero _)
    | succ nn ih =>
      intro y_1 y_2 H locs ls m_4 hI hS t_3 hl
      have g_5 := Int32.toInt_lt y_1
      have g_6 := Int32.le_toInt y_1
      refine lv_iload_n hx hb dX6_howManyAre_4 rfl (lv_at hl 0 rfl) ?_
      refine lv_aload_n hx hb dX6_howManyAre_5 rfl (lv_at hl 2 rfl) ?_
      obtain ⟨x_8, x_9, x_10, x_11, x_12, k_7, b_13, b_14⟩ := op_6 hI i_h0
      refine k_get (ci := 6) (v := .int x_8) (C := RX6) (T := TX6) (N := 10) hx hb hts (fun _ h0_ => List.mem_cons_of_mem _ (List.mem_append_right _ (List.mem_append_left _ h0_))) hown hK hI i_h0.1 k_7 rfl 5 (by decide) (hts (.fieldLink RX6 48 "DeadlineShare$State" "count" "I") (List.mem_cons_of_mem _ (List.mem_append_left _ (List.mem_of_getElem? (i := 0) rfl)))) (fun _ h9 => h9) rfl dX6_howManyAre_6 ?_
      refine lv_icmp_ge (tgt := 34) hx hb dX6_howManyAre_9 (by decide) (fun c_15 => ?_) (fun c_15 => ?_)
      · have c_15 := kc_le rfl rfl c_15
        refine lv_iload_n hx hb dX6_howManyAre_34 rfl (lv_at hl 1 rfl) ?_
        exact W.iret (v := y_2) hx hb hr (fun t ht hW => ⟨⟨y_2, (), rfl, trivial, k_ret ht hI⟩, hS.F ht⟩) hS.2.2 dX6_howManyAre_35
      · have c_15 := kn_le rfl rfl c_15
        refine lv_aload_n hx hb dX6_howManyAre_12 rfl (lv_at hl 2 rfl) ?_
        refine k_get (ci := 6) (v := .ref (gr g h0 1)) (C := RX6) (T := TX6) (N := 10) hx hb hts (fun _ h0_ => List.mem_cons_of_mem _ (List.mem_append_right _ (List.mem_append_left _ h0_))) hown hK hI i_h0.1 k_7 rfl 1 (by decide) (hts (.fieldLink RX6 11 "DeadlineShare$State" "tasks" "[LDeadlineShare$Task;") (List.mem_cons_of_mem _ (List.mem_append_left _ (List.mem_of_getElem? (i := 1) rfl)))) (fun _ h9 => h9) rfl dX6_howManyAre_13 ?_
        have i_17 := kw_6_1 hG i_h0
        refine lv_iload_n hx hb dX6_howManyAre_16 rfl (lv_at hl 0 rfl) ?_
        obtain ⟨q_19, k_18, b_20⟩ := op_20 hI i_17
        refine k_aald hx hb hK hI i_17.1 4 k_18 rfl (vp_in_iff.mpr (by omega)) b_20 (fun _ hj => kw_20 hG i_17 hj) dX6_howManyAre_17 (fun a_21 i_22 => ?_)
        obtain ⟨x_24, x_25, x_26, x_27, x_28, x_29, x_30, x_31, x_32, x_33, x_34, x_35, x_36, x_37, x_38, x_39, k_23⟩ := op_8 hI i_22
        refine k_get (ci := 8) (v := .int x_27) (C := RX8) (T := TX8) (N := 18) hx hb hts (fun _ h0_ => List.mem_cons_of_mem _ (List.mem_append_right _ (List.mem_append_right _ (List.mem_append_left _ h0_)))) hown hK hI i_22.1 k_23 rfl 4 (by decide) (hts (.fieldLink RX6 69 "DeadlineShare$Task" "state" "I") (List.mem_cons_of_mem _ (List.mem_append_left _ (List.mem_of_getElem? (i := 2) rfl)))) (fun _ h9 => h9) rfl dX6_howManyAre_18 ?_
        refine lv_iload_n hx hb dX6_howManyAre_21 rfl (lv_at hl 3 rfl) ?_
        have J_28 : ∀ (y_40 : Int32) (H : Heap) (locs : List Loc) (ls : Array Slot), Iv dC dI g A f H → va_S A s.heap H locs → lv_has ls 4 [(3, .int y_1), (2, .int y_40), (0, .ref h0), (1, .int p1)] → W p l e (headSpec wq_c_X6_howManyAre ({ frames := 0, cells := 0, slots := 0, locals := 0 } : Room)).room s m ([.ref h0, .int p1].toArray) below meth c H locs 0 0 (MQ below (va_Qi (fun (r : Int32) (_ : Unit) => True) (fun (_ : Unit) t => Iv dC dI g A f t.heap) A) ([.ref h0, .int p1].toArray) s 0 0 A) (F0 m 28 ls []) := by
          intro y_40 H locs ls hI hS  hl
          obtain ⟨v_41, ev_41⟩ : ∃ y : Int32, y = y_1 + Int32.ofInt 1 := ⟨_, rfl⟩
          refine lv_iinc (v := v_41) (lv' := [(3, .int v_41), (2, .int y_40), (0, .ref h0), (1, .int p1)]) hx hb dX6_howManyAre_28 hl (k := 0) rfl ev_41.symm (by decide) rfl (fun ls hl => ?_)
          have tv_41 := k_inc y_1
          rw [← ev_41] at tv_41
          refine lv_goto (tgt := 4) hx hb dX6_howManyAre_31 (by decide) ?_
          exact ih v_41 y_40 _ _ _ (by omega) hI hS (by first | omega | decide) (lv_sub hl [0, 1, 2, 3] rfl)
        refine lv_icmp_ne (tgt := 28) hx hb dX6_howManyAre_22 (by decide) (fun c_42 => ?_) (fun c_42 => ?_)
        · have c_42 := kn_eq rfl rfl c_42
          exact J_28 y_2 _ _ _ hI hS  (lv_sub hl [0, 1, 2, 3] rfl)
        · have c_42 := kc_eq rfl rfl c_42
          obtain ⟨v_43, ev_43⟩ : ∃ y : Int32, y = y_2 + Int32.ofInt 1 := ⟨_, rfl⟩
          refine lv_iinc (v := v_43) (lv' := [(2, .int v_43), (3, .int y_1), (0, .ref h0), (1, .int p1)]) hx hb dX6_howManyAre_25 hl (k := 1) rfl ev_43.symm (by decide) rfl (fun ls hl => ?_)
          have tv_43 := k_inc y_2
          rw [← ev_43] at tv_43
          exact J_28 v_43 _ _ _ hI hS  (lv_sub hl [1, 0, 2, 3] rfl)
  exact K_4 _ 0 0 _ _ _ (Nat.lt_succ_self _) hI hS (by first | omega | decide | (simp only [show Int32.toInt 0 = 0 from by decide, show Int32.toInt 0 = 0 from by decide]; omega)) (lv_sub hl [0, 1, 2, 3] rfl)
theorem tw_346 : q_g (.selects RX5 yX5_isThere yX5_isThere) := ⟨(List.mem_append_right _ (List.mem_of_getElem? (i := 757) (by decide +kernel))), good_of_word (by decide +kernel)⟩
theorem tw_347 : q_g (.instanceMethod yX5_isThere) := ⟨(List.mem_append_right _ (List.mem_of_getElem? (i := 756) (by decide +kernel))), good_of_word (by decide +kernel)⟩
theorem tw_348 : q_g (.methodLink RX6 132 yX5_isThere) := ⟨(List.mem_append_right _ (List.mem_of_getElem? (i := 870) (by decide +kernel))), good_of_word (by decide +kernel)⟩
theorem tw_349 : q_g (.fieldLink RX6 128 "DeadlineShare$Task" "script" "LDeadlineShare$Script;") := ⟨(List.mem_append_right _ (List.mem_of_getElem? (i := 153) (by decide +kernel))), good_of_word (by decide +kernel)⟩
theorem tw_350 : q_g (.code yX6_howManyHaveScripts cX6_howManyHaveScripts 3 (some .int)) := ⟨(List.mem_append_right _ (List.mem_of_getElem? (i := 1076) (by decide +kernel))), good_of_word (by decide +kernel)⟩
def ow_c_X6_howManyHaveScripts : List Cond := [.fieldLink RX6 48 "DeadlineShare$State" "count" "I", .fieldLink RX6 11 "DeadlineShare$State" "tasks" "[LDeadlineShare$Task;", .fieldLink RX6 128 "DeadlineShare$Task" "script" "LDeadlineShare$Script;", .methodLink RX6 132 yX5_isThere, .instanceMethod yX5_isThere, .selects RX5 yX5_isThere yX5_isThere, .initialized RX5]
def wq_c_X6_howManyHaveScripts : List Cond := .code yX6_howManyHaveScripts cX6_howManyHaveScripts 3 (some .int) :: (ow_c_X6_howManyHaveScripts ++ (u_ws RX6 TX6 10 ++ (u_ws RX8 TX8 18 ++ (wq_c_X5_isThere ++ ([] : List Cond)))))
theorem tb_c_X6_howManyHaveScripts : ∀ w ∈ wq_c_X6_howManyHaveScripts, q_g w := by
  unfold wq_c_X6_howManyHaveScripts ow_c_X6_howManyHaveScripts
  exact q_cons tw_350 (q_app (q_cons tw_13 (q_cons tw_12 (q_cons tw_349 (q_cons tw_348 (q_cons tw_347 (q_cons tw_346 (q_cons tw_133 q_nil))))))) (q_app tu_X6 (q_app tu_X8 (q_app tb_c_X5_isThere q_nil))))
set_option maxHeartbeats 4000000 in
set_option maxRecDepth 100000 in
theorem c_X6_howManyHaveScripts (l : Launch) (dC : Nat → ClassId) (dI : Nat → Nat → Nat) (g : kG) (A : Nat → Prop) (hG : kWf g) (f : Nat → va_E) (h0 : Nat) (i_h0 : ik g 6 h0) : Met l yX6_howManyHaveScripts wq_c_X6_howManyHaveScripts ({ frames := 1, cells := 0, slots := 0, locals := 20 } : Room) (va_Pc [.ref h0] (fun U => kIn dC dI g A f U)) (va_Qi (fun (r : Int32) (_ : Unit) => True) (fun (_ : Unit) t => Iv dC dI g A f t.heap) A) 0 0 A := by
  refine Met.ofW (cc := cX6_howManyHaveScripts) (maxL := 3) (ret := (some .int)) (by decide) rfl ?_
  intro p e s m args below meth c s₁ B hml hv
  obtain ⟨rfl, hI, hK, hE⟩ := hv
  have hx := B.exec
  have hb := B.bytes
  have hr := B.returns
  have hts := atoms_spec (ws := wq_c_X6_howManyHaveScripts) B.pre
  have hown : s.vm.findClass RX6 = some m.cls := findClass_of_methodNamed B.named
  have hlocks := B.notSynchronized
  have hS : va_S A s.heap s.heap [] := va_S.rf
  have hl := lv_entry ([.ref h0]) (n := 3) (Nat.le_of_ble_eq_true rfl)
  rw [lg_entry_eq]
  generalize (lg_sl ([.ref h0]) ++ List.replicate (3 - (lg_sl ([.ref h0])).length) Slot.unset).toArray = ls at hl ⊢
  have hl : lv_has ls 3 [(0, .ref h0)] := hl
  refine lv_iconst (v := 0) hx hb dX6_howManyHaveScripts_0 (by decide) ?_
  refine lv_istore_n (lv' := [(1, .int 0), (0, .ref h0)]) hx hb dX6_howManyHaveScripts_1 rfl hl (by decide) rfl (fun ls hl => ?_)
  refine lv_iconst (v := 0) hx hb dX6_howManyHaveScripts_2 (by decide) ?_
  refine lv_istore_n (lv' := [(2, .int 0), (1, .int 0), (0, .ref h0)]) hx hb dX6_howManyHaveScripts_3 rfl hl (by decide) rfl (fun ls hl => ?_)
  have K_4 : ∀ (nn : Nat) (y_1 : Int32) (y_2 : Int32) (H : Heap) (locs : List Loc) (ls : Array Slot), (12 - y_1.toInt).toNat < nn → Iv dC dI g A f H → va_S A s.heap H locs → (0 ≤ y_1.toInt) → lv_has ls 3 [(2, .int y_1), (1, .int y_2), (0, .ref h0)] → W p l e (headSpec wq_c_X6_howManyHaveScripts ({ frames := 1, cells := 0, slots := 0, locals := 20 } : Room)).room s m ([.ref h0].toArray) below meth c H locs 0 0 (MQ below (va_Qi (fun (r : Int32) (_ : Unit) => True) (fun (_ : Unit) t => Iv dC dI g A f t.heap) A) ([.ref h0].toArray) s 0 0 A) (F0 m 4 ls []) := by
    intro nn
    induction nn with
    | zero => intro y_1 y_2 H locs ls m_4; exact absurd m_4 (Nat.not_lt_zero _)
    | succ nn ih =>
      intro y_1 y_2 H locs ls m_4 hI hS t_3 hl
      have g_5 := Int32.toInt_lt y_1
      have g_6 := Int32.le_toInt y_1
      refine lv_iload_n hx hb dX6_howManyHaveScripts_4 rfl (lv_at hl 0 rfl) ?_
      refine lv_aload_n hx hb dX6_howManyHaveScripts_5 rfl (lv_at hl 2 rfl) ?_
      obtain ⟨x_8, x_9, x_10, x_11, x_12, k_7, b_13, b_14⟩ := op_6 hI i_h0
      refine k_get (ci := 6) (v := .int x_8) (C := RX6) (T := TX6) (N := 10) hx hb hts (fun _ h0_ => List.mem_cons_of_mem _ (List.mem_append_right _ (List.mem_append_left _ h0_))) hown hK hI i_h0.1 k_7 rfl 5 (by decide) (hts (.fieldLink RX6 48 "DeadlineShare$State" "count" "I") (List.mem_cons_of_mem _ (List.mem_append_left _ (List.mem_of_getElem? (i := 0) rfl)))) (fun _ h9 => h9) rfl dX6_howManyHaveScripts_6 ?_
      refine lv_icmp_ge (tgt := 36) hx hb dX6_howManyHaveScripts_9 (by decide) (fun c_15 => ?_) (fun c_15 => ?_)
      · have c_15 := kc_le rfl rfl c_15
        refine lv_iload_n hx hb dX6_howManyHaveScripts_36 rfl (lv_at hl 1 rfl) ?_
        exact W.iret (v := y_2) hx hb hr (fun t ht hW => ⟨⟨y_2, (), rfl, trivial, k_ret ht hI⟩, hS.F ht⟩) hS.2.2 dX6_howManyHaveScripts_37
      · have c_15 := kn_le rfl rfl c_15
        refine lv_aload_n hx hb dX6_howManyHaveScripts_12 rfl (lv_at hl 2 rfl) ?_
        refine k_get (ci := 6) (v := .ref (gr g h0 1)) (C := RX6) (T := TX6) (N := 10) hx hb hts (fun _ h0_ => List.mem_cons_of_mem _ (List.mem_append_right _ (List.mem_append_left _ h0_))) hown hK hI i_h0.1 k_7 rfl 1 (by decide) (hts (.fieldLink RX6 11 "DeadlineShare$State" "tasks" "[LDeadlineShare$Task;") (List.mem_cons_of_mem _ (List.mem_append_left _ (List.mem_of_getElem? (i := 1) rfl)))) (fun _ h9 => h9) rfl dX6_howManyHaveScripts_13 ?_
        have i_17 := kw_6_1 hG i_h0
        refine lv_iload_n hx hb dX6_howManyHaveScripts_16 rfl (lv_at hl 0 rfl) ?_
        obtain ⟨q_19, k_18, b_20⟩ := op_20 hI i_17
        refine k_aald hx hb hK hI i_17.1 4 k_18 rfl (vp_in_iff.mpr (by omega)) b_20 (fun _ hj => kw_20 hG i_17 hj) dX6_howManyHaveScripts_17 (fun a_21 i_22 => ?_)
        obtain ⟨x_24, x_25, x_26, x_27, x_28, x_29, x_30, x_31, x_32, x_33, x_34, x_35, x_36, x_37, x_38, x_39, k_23⟩ := op_8 hI i_22
        refine k_get (ci := 8) (v := .ref (gr g a_21 1)) (C := RX8) (T := TX8) (N := 18) hx hb hts (fun _ h0_ => List.mem_cons_of_mem _ (List.mem_append_right _ (List.mem_append_right _ (List.mem_append_left _ h0_)))) hown hK hI i_22.1 k_23 rfl 1 (by decide) (hts (.fieldLink RX6 128 "DeadlineShare$Task" "script" "LDeadlineShare$Script;") (List.mem_cons_of_mem _ (List.mem_append_left _ (List.mem_of_getElem? (i := 2) rfl)))) (fun _ h9 => h9) rfl dX6_howManyHaveScripts_18 ?_
        have i_41 := kw_8_1 hG i_22
        obtain ⟨x_43, x_44, x_45, x_46, k_42, b_47, b_48⟩ := op_5 hI i_41
        refine va_calli (va_runV (As := []) (rest := []) ⟨hx, hb, hml, hown, hts⟩ (c_X5_isThere l dC dI g A hG f (gr g a_21 1) i_41) (cwV 0 hts (gi_V (fun w_ h0_ => ⟨List.mem_cons_of_mem _ (List.mem_append_right _ (List.mem_append_right _ (List.mem_append_right _ (List.mem_append_left _ h0_)))), (tb_c_X5_isThere w_ h0_).2⟩) (List.mem_cons_of_mem _ (List.mem_append_left _ (List.mem_of_getElem? (i := 3) rfl))) (List.mem_cons_of_mem _ (List.mem_append_left _ (List.mem_of_getElem? (i := 4) rfl))) (List.mem_cons_of_mem _ (List.mem_append_left _ (List.mem_of_getElem? (i := 5) rfl))) (List.mem_cons_of_mem _ (List.mem_append_left _ (List.mem_of_getElem? (i := 6) rfl)))) rfl rfl rfl (by decide +kernel) ⟨Nat.le_of_ble_eq_true rfl, Nat.le_of_ble_eq_true rfl⟩) ⟨fun a U g mk q => ⟨q.1, q.2.calling rfl rfl⟩, k_recv hK hI i_41.1 k_42 (ci := 5) rfl, fun U hU hW => ⟨rfl, kIn.of hI hK hE hS hU hW⟩⟩ rfl rfl hl.1 rfl (lv_room (Nat.le_of_ble_eq_true rfl)) dX6_howManyHaveScripts_21 ⟨Nat.le_of_ble_eq_true rfl, Nat.le_of_ble_eq_true rfl⟩) hS (fun q _ h => h) (fun q h => h) (fun r_50 u t H1 locs ht hvm w_49 hB hz1 hk1 hS => ?_)
        have hI : Iv dC dI g A f t.heap := hB
        rw [ht] at hI
        generalize H1 = H at hI hS ⊢
        refine W.widen (k := 0) (n := 0) (Nat.le_of_ble_eq_true rfl) (Nat.le_of_ble_eq_true rfl) ?_
        have J_30 : ∀ (y_51 : Int32) (H : Heap) (locs : List Loc) (ls : Array Slot), Iv dC dI g A f H → va_S A s.heap H locs → lv_has ls 3 [(2, .int y_1), (1, .int y_51), (0, .ref h0)] → W p l e (headSpec wq_c_X6_howManyHaveScripts ({ frames := 1, cells := 0, slots := 0, locals := 20 } : Room)).room s m ([.ref h0].toArray) below meth c H locs 0 0 (MQ below (va_Qi (fun (r : Int32) (_ : Unit) => True) (fun (_ : Unit) t => Iv dC dI g A f t.heap) A) ([.ref h0].toArray) s 0 0 A) (F0 m 30 ls []) := by
          intro y_51 H locs ls hI hS  hl
          obtain ⟨v_52, ev_52⟩ : ∃ y : Int32, y = y_1 + Int32.ofInt 1 := ⟨_, rfl⟩
          refine lv_iinc (v := v_52) (lv' := [(2, .int v_52), (1, .int y_51), (0, .ref h0)]) hx hb dX6_howManyHaveScripts_30 hl (k := 0) rfl ev_52.symm (by decide) rfl (fun ls hl => ?_)
          have tv_52 := k_inc y_1
          rw [← ev_52] at tv_52
          refine lv_goto (tgt := 4) hx hb dX6_howManyHaveScripts_33 (by decide) ?_
          exact ih v_52 y_51 _ _ _ (by omega) hI hS (by first | omega | decide) (lv_sub hl [0, 1, 2] rfl)
        refine lv_if_eq (tgt := 30) hx hb dX6_howManyHaveScripts_24 (by decide) (fun c_53 => ?_) (fun c_53 => ?_)
        · have c_53 := kc_eq rfl (by decide : Int32.toInt 0 = 0) c_53
          exact J_30 y_2 _ _ _ hI hS  (lv_sub hl [0, 1, 2] rfl)
        · have c_53 := kn_eq rfl (by decide : Int32.toInt 0 = 0) c_53
          obtain ⟨v_54, ev_54⟩ : ∃ y : Int32, y = y_2 + Int32.ofInt 1 := ⟨_, rfl⟩
          refine lv_iinc (v := v_54) (lv' := [(1, .int v_54), (2, .int y_1), (0, .ref h0)]) hx hb dX6_howManyHaveScripts_27 hl (k := 1) rfl ev_54.symm (by decide) rfl (fun ls hl => ?_)
          have tv_54 := k_inc y_2
          rw [← ev_54] at tv_54
          exact J_30 v_54 _ _ _ hI hS  (lv_sub hl [1, 0, 2] rfl)
  exact K_4 _ 0 0 _ _ _ (Nat.lt_succ_self _) hI hS (by first | omega | decide | (simp only [show Int32.toInt 0 = 0 from by decide, show Int32.toInt 0 = 0 from by decide]; omega)) (lv_sub hl [0, 1, 2] rfl)
theorem tw_351 : q_g (.code yX6_hasRoomFor cX6_hasRoomFor 2 (some .boolean)) := ⟨(List.mem_append_right _ (List.mem_of_getElem? (i := 490) (by decide +kernel))), good_of_word (by decide +kernel)⟩
def ow_c_X6_hasRoomFor : List Cond := [.methodLink RX6 108 yX6_weightOfAll, .instanceMethod yX6_weightOfAll, .selects RX6 yX6_weightOfAll yX6_weightOfAll, .initialized RX6]
def wq_c_X6_hasRoomFor : List Cond := .code yX6_hasRoomFor cX6_hasRoomFor 2 (some .boolean) :: (ow_c_X6_hasRoomFor ++ (wq_c_X6_weightOfAll ++ ([] : List Cond)))
theorem tb_c_X6_hasRoomFor : ∀ w ∈ wq_c_X6_hasRoomFor, q_g w := by
  unfold wq_c_X6_hasRoomFor ow_c_X6_hasRoomFor
  exact q_cons tw_351 (q_app (q_cons tw_343 (q_cons tw_88 (q_cons tw_87 (q_cons tw_47 q_nil)))) (q_app tb_c_X6_weightOfAll q_nil))
set_option maxHeartbeats 4000000 in
set_option maxRecDepth 100000 in
theorem c_X6_hasRoomFor (l : Launch) (dC : Nat → ClassId) (dI : Nat → Nat → Nat) (g : kG) (A : Nat → Prop) (hG : kWf g) (f : Nat → va_E) (h0 : Nat) (p1 : Int32) (i_h0 : ik g 6 h0) : Met l yX6_hasRoomFor wq_c_X6_hasRoomFor ({ frames := 1, cells := 0, slots := 0, locals := 22 } : Room) (va_Pc [.ref h0, .int p1] (fun U => kIn dC dI g A f U)) (va_Qi (fun (r : Int32) (_ : Unit) => True) (fun (_ : Unit) t => Iv dC dI g A f t.heap) A) 0 0 A := by
  refine Met.ofW (cc := cX6_hasRoomFor) (maxL := 2) (ret := (some .boolean)) (by decide) rfl ?_
  intro p e s m args below meth c s₁ B hml hv
  obtain ⟨rfl, hI, hK, hE⟩ := hv
  have hx := B.exec
  have hb := B.bytes
  have hr := B.returns
  have hts := atoms_spec (ws := wq_c_X6_hasRoomFor) B.pre
  have hown : s.vm.findClass RX6 = some m.cls := findClass_of_methodNamed B.named
  have hlocks := B.notSynchronized
  have hS : va_S A s.heap s.heap [] := va_S.rf
  have hl := lv_entry ([.ref h0, .int p1]) (n := 2) (Nat.le_of_ble_eq_true rfl)
  rw [lg_entry_eq]
  generalize (lg_sl ([.ref h0, .int p1]) ++ List.replicate (2 - (lg_sl ([.ref h0, .int p1])).length) Slot.unset).toArray = ls at hl ⊢
  have hl : lv_has ls 2 [(0, .ref h0), (1, .int p1)] := hl
  refine lv_aload_n hx hb dX6_hasRoomFor_0 rfl (lv_at hl 0 rfl) ?_
  obtain ⟨x_2, x_3, x_4, x_5, x_6, k_1, b_7, b_8⟩ := op_6 hI i_h0
  refine va_calli (va_runV (As := []) (rest := []) ⟨hx, hb, hml, hown, hts⟩ (c_X6_weightOfAll l dC dI g A hG f h0 i_h0) (cwV 0 hts (gi_V (fun w_ h0_ => ⟨List.mem_cons_of_mem _ (List.mem_append_right _ (List.mem_append_left _ h0_)), (tb_c_X6_weightOfAll w_ h0_).2⟩) (List.mem_cons_of_mem _ (List.mem_append_left _ (List.mem_of_getElem? (i := 0) rfl))) (List.mem_cons_of_mem _ (List.mem_append_left _ (List.mem_of_getElem? (i := 1) rfl))) (List.mem_cons_of_mem _ (List.mem_append_left _ (List.mem_of_getElem? (i := 2) rfl))) (List.mem_cons_of_mem _ (List.mem_append_left _ (List.mem_of_getElem? (i := 3) rfl)))) rfl rfl rfl (by decide +kernel) ⟨Nat.le_of_ble_eq_true rfl, Nat.le_of_ble_eq_true rfl⟩) ⟨fun a U g mk q => ⟨q.1, q.2.calling rfl rfl⟩, k_recv hK hI i_h0.1 k_1 (ci := 6) rfl, fun U hU hW => ⟨rfl, kIn.of hI hK hE hS hU hW⟩⟩ rfl rfl hl.1 rfl (lv_room (Nat.le_of_ble_eq_true rfl)) dX6_hasRoomFor_1 ⟨Nat.le_of_ble_eq_true rfl, Nat.le_of_ble_eq_true rfl⟩) hS (fun q _ h => h) (fun q h => h) (fun r_10 u t H1 locs ht hvm w_9 hB hz1 hk1 hS => ?_)
  have hI : Iv dC dI g A f t.heap := hB
  rw [ht] at hI
  generalize H1 = H at hI hS ⊢
  refine W.widen (k := 0) (n := 0) (Nat.le_of_ble_eq_true rfl) (Nat.le_of_ble_eq_true rfl) ?_
  refine lv_iload_n hx hb dX6_hasRoomFor_4 rfl (lv_at hl 1 rfl) ?_
  refine lv_iadd hx hb dX6_hasRoomFor_5 ?_
  refine lv_topi (fun v_11 ev_11 => ?_)
  have tv_11 := k_ad r_10 p1
  rw [← ev_11] at tv_11
  refine lv_bipush (v := 24) hx hb dX6_hasRoomFor_6 (by decide) ?_
  refine lv_icmp_gt (tgt := 15) hx hb dX6_hasRoomFor_8 (by decide) (fun c_12 => ?_) (fun c_12 => ?_)
  · have c_12 := kc_lt (by decide : Int32.toInt 24 = 24) rfl c_12
    refine lv_iconst (v := 0) hx hb dX6_hasRoomFor_15 (by decide) ?_
    exact W.zret (v := 0) hx hb hr rfl (fun t ht hW => ⟨⟨0, (), rfl, trivial, k_ret ht hI⟩, hS.F ht⟩) hS.2.2 dX6_hasRoomFor_16
  · have c_12 := kn_lt (by decide : Int32.toInt 24 = 24) rfl c_12
    refine lv_iconst (v := 1) hx hb dX6_hasRoomFor_11 (by decide) ?_
    refine lv_goto (tgt := 16) hx hb dX6_hasRoomFor_12 (by decide) ?_
    exact W.zret (v := 1) hx hb hr rfl (fun t ht hW => ⟨⟨1, (), rfl, trivial, k_ret ht hI⟩, hS.F ht⟩) hS.2.2 dX6_hasRoomFor_16
theorem tw_352 : q_g (.code yX6_canWeigh cX6_canWeigh 3 (some .boolean)) := ⟨(List.mem_append_right _ (List.mem_of_getElem? (i := 570) (by decide +kernel))), good_of_word (by decide +kernel)⟩
def ow_c_X6_canWeigh : List Cond := [.methodLink RX6 111 yX8_isOn, .instanceMethod yX8_isOn, .selects RX8 yX8_isOn yX8_isOn, .initialized RX8, .methodLink RX6 108 yX6_weightOfAll, .instanceMethod yX6_weightOfAll, .selects RX6 yX6_weightOfAll yX6_weightOfAll, .initialized RX6, .fieldLink RX6 72 "DeadlineShare$Task" "weight" "I"]
def wq_c_X6_canWeigh : List Cond := .code yX6_canWeigh cX6_canWeigh 3 (some .boolean) :: (ow_c_X6_canWeigh ++ (wq_c_X8_isOn ++ (wq_c_X6_weightOfAll ++ (u_ws RX8 TX8 18 ++ ([] : List Cond)))))
theorem tb_c_X6_canWeigh : ∀ w ∈ wq_c_X6_canWeigh, q_g w := by
  unfold wq_c_X6_canWeigh ow_c_X6_canWeigh
  exact q_cons tw_352 (q_app (q_cons tw_11 (q_cons tw_10 (q_cons tw_9 (q_cons tw_8 (q_cons tw_343 (q_cons tw_88 (q_cons tw_87 (q_cons tw_47 (q_cons tw_23 q_nil))))))))) (q_app tb_c_X8_isOn (q_app tb_c_X6_weightOfAll (q_app tu_X8 q_nil))))
set_option maxHeartbeats 4000000 in
set_option maxRecDepth 100000 in
theorem c_X6_canWeigh (l : Launch) (dC : Nat → ClassId) (dI : Nat → Nat → Nat) (g : kG) (A : Nat → Prop) (hG : kWf g) (f : Nat → va_E) (h0 : Nat) (p1 : Nat) (p2 : Int32) (i_h0 : ik g 6 h0) (i_p1 : ik g 8 p1) : Met l yX6_canWeigh wq_c_X6_canWeigh ({ frames := 1, cells := 0, slots := 0, locals := 22 } : Room) (va_Pc [.ref h0, .ref p1, .int p2] (fun U => kIn dC dI g A f U)) (va_Qi (fun (r : Int32) (_ : Unit) => True) (fun (_ : Unit) t => Iv dC dI g A f t.heap) A) 0 0 A := by
  refine Met.ofW (cc := cX6_canWeigh) (maxL := 3) (ret := (some .boolean)) (by decide) rfl ?_
  intro p e s m args below meth c s₁ B hml hv
  obtain ⟨rfl, hI, hK, hE⟩ := hv
  have hx := B.exec
  have hb := B.bytes
  have hr := B.returns
  have hts := atoms_spec (ws := wq_c_X6_canWeigh) B.pre
  have hown : s.vm.findClass RX6 = some m.cls := findClass_of_methodNamed B.named
  have hlocks := B.notSynchronized
  have hS : va_S A s.heap s.heap [] := va_S.rf
  have hl := lv_entry ([.ref h0, .ref p1, .int p2]) (n := 3) (Nat.le_of_ble_eq_true rfl)
  rw [lg_entry_eq]
  generalize (lg_sl ([.ref h0, .ref p1, .int p2]) ++ List.replicate (3 - (lg_sl ([.ref h0, .ref p1, .int p2])).length) Slot.unset).toArray = ls at hl ⊢
  have hl : lv_has ls 3 [(0, .ref h0), (1, .ref p1), (2, .int p2)] := hl
  refine lv_aload_n hx hb dX6_canWeigh_0 rfl (lv_at hl 1 rfl) ?_
  obtain ⟨x_2, x_3, x_4, x_5, x_6, x_7, x_8, x_9, x_10, x_11, x_12, x_13, x_14, x_15, x_16, x_17, k_1⟩ := op_8 hI i_p1
  refine va_calli (va_runV (As := []) (rest := []) ⟨hx, hb, hml, hown, hts⟩ (c_X8_isOn l dC dI g A hG f p1 i_p1) (cwV 0 hts (gi_V (fun w_ h0_ => ⟨List.mem_cons_of_mem _ (List.mem_append_right _ (List.mem_append_left _ h0_)), (tb_c_X8_isOn w_ h0_).2⟩) (List.mem_cons_of_mem _ (List.mem_append_left _ (List.mem_of_getElem? (i := 0) rfl))) (List.mem_cons_of_mem _ (List.mem_append_left _ (List.mem_of_getElem? (i := 1) rfl))) (List.mem_cons_of_mem _ (List.mem_append_left _ (List.mem_of_getElem? (i := 2) rfl))) (List.mem_cons_of_mem _ (List.mem_append_left _ (List.mem_of_getElem? (i := 3) rfl)))) rfl rfl rfl (by decide +kernel) ⟨Nat.le_of_ble_eq_true rfl, Nat.le_of_ble_eq_true rfl⟩) ⟨fun a U g mk q => ⟨q.1, q.2.calling rfl rfl⟩, k_recv hK hI i_p1.1 k_1 (ci := 8) rfl, fun U hU hW => ⟨rfl, kIn.of hI hK hE hS hU hW⟩⟩ rfl rfl hl.1 rfl (lv_room (Nat.le_of_ble_eq_true rfl)) dX6_canWeigh_1 ⟨Nat.le_of_ble_eq_true rfl, Nat.le_of_ble_eq_true rfl⟩) hS (fun q _ h => h) (fun q h => h) (fun r_19 u t H1 locs ht hvm w_18 hB hz1 hk1 hS => ?_)
  have hI : Iv dC dI g A f t.heap := hB
  rw [ht] at hI
  generalize H1 = H at hI hS ⊢
  refine W.widen (k := 0) (n := 0) (Nat.le_of_ble_eq_true rfl) (Nat.le_of_ble_eq_true rfl) ?_
  refine lv_if_eq (tgt := 23) hx hb dX6_canWeigh_4 (by decide) (fun c_20 => ?_) (fun c_20 => ?_)
  · have c_20 := kc_eq rfl (by decide : Int32.toInt 0 = 0) c_20
    refine lv_iconst (v := 1) hx hb dX6_canWeigh_23 (by decide) ?_
    refine lv_goto (tgt := 28) hx hb dX6_canWeigh_24 (by decide) ?_
    exact W.zret (v := 1) hx hb hr rfl (fun t ht hW => ⟨⟨1, (), rfl, trivial, k_ret ht hI⟩, hS.F ht⟩) hS.2.2 dX6_canWeigh_28
  · have c_20 := kn_eq rfl (by decide : Int32.toInt 0 = 0) c_20
    refine lv_aload_n hx hb dX6_canWeigh_7 rfl (lv_at hl 0 rfl) ?_
    obtain ⟨x_22, x_23, x_24, x_25, x_26, k_21, b_27, b_28⟩ := op_6 hI i_h0
    refine va_calli (va_runV (As := []) (rest := []) ⟨hx, hb, hml, hown, hts⟩ (c_X6_weightOfAll l dC dI g A hG f h0 i_h0) (cwV 0 hts (gi_V (fun w_ h0_ => ⟨List.mem_cons_of_mem _ (List.mem_append_right _ (List.mem_append_right _ (List.mem_append_left _ h0_))), (tb_c_X6_weightOfAll w_ h0_).2⟩) (List.mem_cons_of_mem _ (List.mem_append_left _ (List.mem_of_getElem? (i := 4) rfl))) (List.mem_cons_of_mem _ (List.mem_append_left _ (List.mem_of_getElem? (i := 5) rfl))) (List.mem_cons_of_mem _ (List.mem_append_left _ (List.mem_of_getElem? (i := 6) rfl))) (List.mem_cons_of_mem _ (List.mem_append_left _ (List.mem_of_getElem? (i := 7) rfl)))) rfl rfl rfl (by decide +kernel) ⟨Nat.le_of_ble_eq_true rfl, Nat.le_of_ble_eq_true rfl⟩) ⟨fun a U g mk q => ⟨q.1, q.2.calling rfl rfl⟩, k_recv hK hI i_h0.1 k_21 (ci := 6) rfl, fun U hU hW => ⟨rfl, kIn.of hI hK hE hS hU hW⟩⟩ rfl rfl hl.1 rfl (lv_room (Nat.le_of_ble_eq_true rfl)) dX6_canWeigh_8 ⟨Nat.le_of_ble_eq_true rfl, Nat.le_of_ble_eq_true rfl⟩) hS (fun q _ h => h) (fun q h => h) (fun r_30 u t H1 locs ht hvm w_29 hB hz1 hk1 hS => ?_)
    have hI : Iv dC dI g A f t.heap := hB
    rw [ht] at hI
    generalize H1 = H at hI hS ⊢
    refine W.widen (k := 0) (n := 0) (Nat.le_of_ble_eq_true rfl) (Nat.le_of_ble_eq_true rfl) ?_
    refine lv_aload_n hx hb dX6_canWeigh_11 rfl (lv_at hl 1 rfl) ?_
    refine k_get (ci := 8) (v := .int x_3) (C := RX8) (T := TX8) (N := 18) hx hb hts (fun _ h0_ => List.mem_cons_of_mem _ (List.mem_append_right _ (List.mem_append_right _ (List.mem_append_right _ (List.mem_append_left _ h0_))))) hown hK hI i_p1.1 k_1 rfl 2 (by decide) (hts (.fieldLink RX6 72 "DeadlineShare$Task" "weight" "I") (List.mem_cons_of_mem _ (List.mem_append_left _ (List.mem_of_getElem? (i := 8) rfl)))) (fun _ h9 => h9) rfl dX6_canWeigh_12 ?_
    refine lv_isub hx hb dX6_canWeigh_15 ?_
    refine lv_topi (fun v_31 ev_31 => ?_)
    have tv_31 := k_sb r_30 x_3
    rw [← ev_31] at tv_31
    refine lv_iload_n hx hb dX6_canWeigh_16 rfl (lv_at hl 2 rfl) ?_
    refine lv_iadd hx hb dX6_canWeigh_17 ?_
    refine lv_topi (fun v_32 ev_32 => ?_)
    have tv_32 := k_ad v_31 p2
    rw [← ev_32] at tv_32
    refine lv_bipush (v := 24) hx hb dX6_canWeigh_18 (by decide) ?_
    refine lv_icmp_gt (tgt := 27) hx hb dX6_canWeigh_20 (by decide) (fun c_33 => ?_) (fun c_33 => ?_)
    · have c_33 := kc_lt (by decide : Int32.toInt 24 = 24) rfl c_33
      refine lv_iconst (v := 0) hx hb dX6_canWeigh_27 (by decide) ?_
      exact W.zret (v := 0) hx hb hr rfl (fun t ht hW => ⟨⟨0, (), rfl, trivial, k_ret ht hI⟩, hS.F ht⟩) hS.2.2 dX6_canWeigh_28
    · have c_33 := kn_lt (by decide : Int32.toInt 24 = 24) rfl c_33
      refine lv_iconst (v := 1) hx hb dX6_canWeigh_23 (by decide) ?_
      refine lv_goto (tgt := 28) hx hb dX6_canWeigh_24 (by decide) ?_
      exact W.zret (v := 1) hx hb hr rfl (fun t ht hW => ⟨⟨1, (), rfl, trivial, k_ret ht hI⟩, hS.F ht⟩) hS.2.2 dX6_canWeigh_28
theorem tw_353 : q_g (.code yX10_isAbove cX10_isAbove 5 (some .boolean)) := ⟨(List.mem_append_right _ (List.mem_of_getElem? (i := 515) (by decide +kernel))), good_of_word (by decide +kernel)⟩
def ow_c_X10_isAbove : List Cond := [.fieldLink RX10 9 "DeadlineShare$Wide" "high" "J", .fieldLink RX10 15 "DeadlineShare$Wide" "low" "J", .constantLong RX10 13 (4294967295)]
def wq_c_X10_isAbove : List Cond := .code yX10_isAbove cX10_isAbove 5 (some .boolean) :: (ow_c_X10_isAbove ++ (u_ws RX10 TX10 2 ++ ([] : List Cond)))
theorem tb_c_X10_isAbove : ∀ w ∈ wq_c_X10_isAbove, q_g w := by
  unfold wq_c_X10_isAbove ow_c_X10_isAbove
  exact q_cons tw_353 (q_app (q_cons tw_17 (q_cons tw_15 (q_cons tw_16 q_nil))) (q_app tu_X10 q_nil))
set_option maxHeartbeats 4000000 in
set_option maxRecDepth 100000 in
theorem c_X10_isAbove (l : Launch) (dC : Nat → ClassId) (dI : Nat → Nat → Nat) (g : kG) (A : Nat → Prop) (hG : kWf g) (f : Nat → va_E) (h0 : Nat) (p1 : Int64) (i_h0 : ik g 10 h0) : Met l yX10_isAbove wq_c_X10_isAbove ({ frames := 0, cells := 0, slots := 0, locals := 0 } : Room) (va_Pc [.ref h0, .long p1] (fun U => kIn dC dI g A f U)) (va_Qi (fun (r : Int32) (_ : Unit) => True) (fun (_ : Unit) t => Iv dC dI g A f t.heap) A) 0 0 A := by
  refine Met.ofW (cc := cX10_isAbove) (maxL := 5) (ret := (some .boolean)) (by decide) rfl ?_
  intro p e s m args below meth c s₁ B hml hv
  obtain ⟨rfl, hI, hK, hE⟩ := hv
  have hx := B.exec
  have hb := B.bytes
  have hr := B.returns
  have hts := atoms_spec (ws := wq_c_X10_isAbove) B.pre
  have hown : s.vm.findClass RX10 = some m.cls := findClass_of_methodNamed B.named
  have hlocks := B.notSynchronized
  have hS : va_S A s.heap s.heap [] := va_S.rf
  have hl := lv_entry ([.ref h0, .long p1]) (n := 5) (Nat.le_of_ble_eq_true rfl)
  rw [lg_entry_eq]
  generalize (lg_sl ([.ref h0, .long p1]) ++ List.replicate (5 - (lg_sl ([.ref h0, .long p1])).length) Slot.unset).toArray = ls at hl ⊢
  have hl : lv_has ls 5 [(0, .ref h0), (1, .long p1)] := hl
  refine lv_lload_n hx hb dX10_isAbove_0 rfl (lv_at hl 1 rfl) ?_
  refine lv_bipush (v := 32) hx hb dX10_isAbove_1 (by decide) ?_
  refine lv_lshr hx hb dX10_isAbove_3 rfl ?_
  refine lv_topl (fun v_1 ev_1 => ?_)
  refine lv_lstore_n (lv' := [(3, .long v_1), (0, .ref h0), (1, .long p1)]) hx hb dX10_isAbove_4 rfl hl (by decide) rfl (fun ls hl => ?_)
  refine lv_aload_n hx hb dX10_isAbove_5 rfl (lv_at hl 1 rfl) ?_
  obtain ⟨x_3, x_4, k_2⟩ := op_10 hI i_h0
  refine k_get (ci := 10) (v := .long x_3) (C := RX10) (T := TX10) (N := 2) hx hb hts (fun _ h0_ => List.mem_cons_of_mem _ (List.mem_append_right _ (List.mem_append_left _ h0_))) hown hK hI i_h0.1 k_2 rfl 0 (by decide) (hts (.fieldLink RX10 9 "DeadlineShare$Wide" "high" "J") (List.mem_cons_of_mem _ (List.mem_append_left _ (List.mem_of_getElem? (i := 0) rfl)))) (fun _ h9 => h9) rfl dX10_isAbove_6 ?_
  refine lv_lload_n hx hb dX10_isAbove_9 rfl (lv_at hl 0 rfl) ?_
  refine W.lcmp hx hb dX10_isAbove_10 ?_
  refine lv_if_gt (tgt := 36) hx hb dX10_isAbove_11 (by decide) (fun c_5 => ?_) (fun c_5 => ?_)
  · have c_5 := lc_lt rfl rfl ((lg_cmp_gt _ _).mp c_5)
    refine lv_iconst (v := 1) hx hb dX10_isAbove_36 (by decide) ?_
    refine lv_goto (tgt := 41) hx hb dX10_isAbove_37 (by decide) ?_
    exact W.zret (v := 1) hx hb hr rfl (fun t ht hW => ⟨⟨1, (), rfl, trivial, k_ret ht hI⟩, hS.F ht⟩) hS.2.2 dX10_isAbove_41
  · have c_5 := ln_lt rfl rfl (fun h9 => c_5 ((lg_cmp_gt _ _).mpr h9))
    refine lv_aload_n hx hb dX10_isAbove_14 rfl (lv_at hl 1 rfl) ?_
    refine k_get (ci := 10) (v := .long x_3) (C := RX10) (T := TX10) (N := 2) hx hb hts (fun _ h0_ => List.mem_cons_of_mem _ (List.mem_append_right _ (List.mem_append_left _ h0_))) hown hK hI i_h0.1 k_2 rfl 0 (by decide) (hts (.fieldLink RX10 9 "DeadlineShare$Wide" "high" "J") (List.mem_cons_of_mem _ (List.mem_append_left _ (List.mem_of_getElem? (i := 0) rfl)))) (fun _ h9 => h9) rfl dX10_isAbove_15 ?_
    refine lv_lload_n hx hb dX10_isAbove_18 rfl (lv_at hl 0 rfl) ?_
    refine W.lcmp hx hb dX10_isAbove_19 ?_
    refine lv_if_ne (tgt := 40) hx hb dX10_isAbove_20 (by decide) (fun c_6 => ?_) (fun c_6 => ?_)
    · have c_6 := ln_eq rfl rfl (fun h9 => c_6 ((lg_cmp_eq _ _).mpr h9))
      refine lv_iconst (v := 0) hx hb dX10_isAbove_40 (by decide) ?_
      exact W.zret (v := 0) hx hb hr rfl (fun t ht hW => ⟨⟨0, (), rfl, trivial, k_ret ht hI⟩, hS.F ht⟩) hS.2.2 dX10_isAbove_41
    · have c_6 := lc_eq rfl rfl ((lg_cmp_eq _ _).mp c_6)
      refine lv_aload_n hx hb dX10_isAbove_23 rfl (lv_at hl 1 rfl) ?_
      refine k_get (ci := 10) (v := .long x_4) (C := RX10) (T := TX10) (N := 2) hx hb hts (fun _ h0_ => List.mem_cons_of_mem _ (List.mem_append_right _ (List.mem_append_left _ h0_))) hown hK hI i_h0.1 k_2 rfl 1 (by decide) (hts (.fieldLink RX10 15 "DeadlineShare$Wide" "low" "J") (List.mem_cons_of_mem _ (List.mem_append_left _ (List.mem_of_getElem? (i := 1) rfl)))) (fun _ h9 => h9) rfl dX10_isAbove_24 ?_
      refine lv_lload_n hx hb dX10_isAbove_27 rfl (lv_at hl 2 rfl) ?_
      refine lv_ldc2 hx hb hown (hts (.constantLong RX10 13 (4294967295)) (List.mem_cons_of_mem _ (List.mem_append_left _ (List.mem_of_getElem? (i := 2) rfl)))) dX10_isAbove_28 ?_
      refine lv_land hx hb dX10_isAbove_31 ?_
      refine lv_topl (fun v_7 ev_7 => ?_)
      refine W.lcmp hx hb dX10_isAbove_32 ?_
      refine lv_if_le (tgt := 40) hx hb dX10_isAbove_33 (by decide) (fun c_8 => ?_) (fun c_8 => ?_)
      · have c_8 := lc_le rfl rfl ((lg_cmp_le _ _).mp c_8)
        refine lv_iconst (v := 0) hx hb dX10_isAbove_40 (by decide) ?_
        exact W.zret (v := 0) hx hb hr rfl (fun t ht hW => ⟨⟨0, (), rfl, trivial, k_ret ht hI⟩, hS.F ht⟩) hS.2.2 dX10_isAbove_41
      · have c_8 := ln_le rfl rfl (fun h9 => c_8 ((lg_cmp_le _ _).mpr h9))
        refine lv_iconst (v := 1) hx hb dX10_isAbove_36 (by decide) ?_
        refine lv_goto (tgt := 41) hx hb dX10_isAbove_37 (by decide) ?_
        exact W.zret (v := 1) hx hb hr rfl (fun t ht hW => ⟨⟨1, (), rfl, trivial, k_ret ht hI⟩, hS.F ht⟩) hS.2.2 dX10_isAbove_41
theorem tw_354 : q_g (.methodLink RX10 31 yX10_set) := ⟨(List.mem_append_right _ (List.mem_of_getElem? (i := 522) (by decide +kernel))), good_of_word (by decide +kernel)⟩
theorem tw_355 : q_g (.selects RX10 yX10_isAbove yX10_isAbove) := ⟨(List.mem_append_right _ (List.mem_of_getElem? (i := 514) (by decide +kernel))), good_of_word (by decide +kernel)⟩
theorem tw_356 : q_g (.instanceMethod yX10_isAbove) := ⟨(List.mem_append_right _ (List.mem_of_getElem? (i := 513) (by decide +kernel))), good_of_word (by decide +kernel)⟩
theorem tw_357 : q_g (.methodLink RX10 27 yX10_isAbove) := ⟨(List.mem_append_right _ (List.mem_of_getElem? (i := 521) (by decide +kernel))), good_of_word (by decide +kernel)⟩
theorem tw_358 : q_g (.code yX10_keepWithin cX10_keepWithin 3 none) := ⟨(List.mem_append_right _ (List.mem_of_getElem? (i := 520) (by decide +kernel))), good_of_word (by decide +kernel)⟩
def ow_c_X10_keepWithin : List Cond := [.methodLink RX10 27 yX10_isAbove, .instanceMethod yX10_isAbove, .selects RX10 yX10_isAbove yX10_isAbove, .initialized RX10, .methodLink RX10 31 yX10_set, .instanceMethod yX10_set, .selects RX10 yX10_set yX10_set]
def wq_c_X10_keepWithin : List Cond := .code yX10_keepWithin cX10_keepWithin 3 none :: (ow_c_X10_keepWithin ++ (wq_c_X10_isAbove ++ (wq_c_X10_set ++ ([] : List Cond))))
theorem tb_c_X10_keepWithin : ∀ w ∈ wq_c_X10_keepWithin, q_g w := by
  unfold wq_c_X10_keepWithin ow_c_X10_keepWithin
  exact q_cons tw_358 (q_app (q_cons tw_357 (q_cons tw_356 (q_cons tw_355 (q_cons tw_26 (q_cons tw_354 (q_cons tw_28 (q_cons tw_27 q_nil))))))) (q_app tb_c_X10_isAbove (q_app tb_c_X10_set q_nil)))
set_option maxHeartbeats 4000000 in
set_option maxRecDepth 100000 in
theorem c_X10_keepWithin (l : Launch) (dC : Nat → ClassId) (dI : Nat → Nat → Nat) (g : kG) (A : Nat → Prop) (hG : kWf g) (f : Nat → va_E) (h0 : Nat) (p1 : Int64) (i_h0 : ik g 10 h0) : Met l yX10_keepWithin wq_c_X10_keepWithin ({ frames := 1, cells := 0, slots := 0, locals := 24 } : Room) (va_Pc [.ref h0, .long p1] (fun U => kIn dC dI g A f U)) (va_Qv (fun (_ : Unit) => True) (fun (_ : Unit) t => ∃ f1 : Nat → va_E, Iv dC dI g A f1 t.heap ∧ Kp g [10] f f1) A) 0 0 A := by
  refine Met.ofW (cc := cX10_keepWithin) (maxL := 3) (ret := none) (by decide) rfl ?_
  intro p e s m args below meth c s₁ B hml hv
  obtain ⟨rfl, hI, hK, hE⟩ := hv
  have hx := B.exec
  have hb := B.bytes
  have hr := B.returns
  have hts := atoms_spec (ws := wq_c_X10_keepWithin) B.pre
  have hown : s.vm.findClass RX10 = some m.cls := findClass_of_methodNamed B.named
  have hlocks := B.notSynchronized
  have hS : va_S A s.heap s.heap [] := va_S.rf
  have hk0 : Kp g [10] f f := Kp.rf
  have hl := lv_entry ([.ref h0, .long p1]) (n := 3) (Nat.le_of_ble_eq_true rfl)
  rw [lg_entry_eq]
  generalize (lg_sl ([.ref h0, .long p1]) ++ List.replicate (3 - (lg_sl ([.ref h0, .long p1])).length) Slot.unset).toArray = ls at hl ⊢
  have hl : lv_has ls 3 [(0, .ref h0), (1, .long p1)] := hl
  refine lv_aload_n hx hb dX10_keepWithin_0 rfl (lv_at hl 0 rfl) ?_
  refine lv_lload_n hx hb dX10_keepWithin_1 rfl (lv_at hl 1 rfl) ?_
  obtain ⟨x_2, x_3, k_1⟩ := op_10 hI i_h0
  refine va_calli (va_runV (As := [.long p1]) (rest := []) ⟨hx, hb, hml, hown, hts⟩ (c_X10_isAbove l dC dI g A hG f h0 p1 i_h0) (cwV 1 hts (gi_V (fun w_ h0_ => ⟨List.mem_cons_of_mem _ (List.mem_append_right _ (List.mem_append_left _ h0_)), (tb_c_X10_isAbove w_ h0_).2⟩) (List.mem_cons_of_mem _ (List.mem_append_left _ (List.mem_of_getElem? (i := 0) rfl))) (List.mem_cons_of_mem _ (List.mem_append_left _ (List.mem_of_getElem? (i := 1) rfl))) (List.mem_cons_of_mem _ (List.mem_append_left _ (List.mem_of_getElem? (i := 2) rfl))) (List.mem_cons_of_mem _ (List.mem_append_left _ (List.mem_of_getElem? (i := 3) rfl)))) rfl rfl rfl (by decide +kernel) ⟨Nat.le_of_ble_eq_true rfl, Nat.le_of_ble_eq_true rfl⟩) ⟨fun a U g mk q => ⟨q.1, q.2.calling rfl rfl⟩, k_recv hK hI i_h0.1 k_1 (ci := 10) rfl, fun U hU hW => ⟨rfl, kIn.of hI hK hE hS hU hW⟩⟩ rfl rfl hl.1 rfl (lv_room (Nat.le_of_ble_eq_true rfl)) dX10_keepWithin_2 ⟨Nat.le_of_ble_eq_true rfl, Nat.le_of_ble_eq_true rfl⟩) hS (fun q _ h => h) (fun q h => h) (fun r_5 u t H1 locs ht hvm w_4 hB hz1 hk1 hS => ?_)
  have hI : Iv dC dI g A f t.heap := hB
  rw [ht] at hI
  generalize H1 = H at hI hS ⊢
  refine W.widen (k := 0) (n := 0) (Nat.le_of_ble_eq_true rfl) (Nat.le_of_ble_eq_true rfl) ?_
  refine lv_if_eq (tgt := 16) hx hb dX10_keepWithin_5 (by decide) (fun c_6 => ?_) (fun c_6 => ?_)
  · have c_6 := kc_eq rfl (by decide : Int32.toInt 0 = 0) c_6
    refine lv_aload_n hx hb dX10_keepWithin_16 rfl (lv_at hl 0 rfl) ?_
    refine lv_lload_n hx hb dX10_keepWithin_17 rfl (lv_at hl 1 rfl) ?_
    refine lv_lneg hx hb dX10_keepWithin_18 ?_
    refine lv_topl (fun v_7 ev_7 => ?_)
    refine va_calli (va_runV (As := [.long v_7]) (rest := []) ⟨hx, hb, hml, hown, hts⟩ (c_X10_isAbove l dC dI g A hG f h0 v_7 i_h0) (cwV 1 hts (gi_V (fun w_ h0_ => ⟨List.mem_cons_of_mem _ (List.mem_append_right _ (List.mem_append_left _ h0_)), (tb_c_X10_isAbove w_ h0_).2⟩) (List.mem_cons_of_mem _ (List.mem_append_left _ (List.mem_of_getElem? (i := 0) rfl))) (List.mem_cons_of_mem _ (List.mem_append_left _ (List.mem_of_getElem? (i := 1) rfl))) (List.mem_cons_of_mem _ (List.mem_append_left _ (List.mem_of_getElem? (i := 2) rfl))) (List.mem_cons_of_mem _ (List.mem_append_left _ (List.mem_of_getElem? (i := 3) rfl)))) rfl rfl rfl (by decide +kernel) ⟨Nat.le_of_ble_eq_true rfl, Nat.le_of_ble_eq_true rfl⟩) ⟨fun a U g mk q => ⟨q.1, q.2.calling rfl rfl⟩, k_recv hK hI i_h0.1 k_1 (ci := 10) rfl, fun U hU hW => ⟨rfl, kIn.of hI hK hE hS hU hW⟩⟩ rfl rfl hl.1 rfl (lv_room (Nat.le_of_ble_eq_true rfl)) dX10_keepWithin_19 ⟨Nat.le_of_ble_eq_true rfl, Nat.le_of_ble_eq_true rfl⟩) hS (fun q _ h => h) (fun q h => h) (fun r_9 u t H1 locs ht hvm w_8 hB hz1 hk1 hS => ?_)
    have hI : Iv dC dI g A f t.heap := hB
    rw [ht] at hI
    generalize H1 = H at hI hS ⊢
    refine W.widen (k := 0) (n := 0) (Nat.le_of_ble_eq_true rfl) (Nat.le_of_ble_eq_true rfl) ?_
    refine lv_if_ne (tgt := 31) hx hb dX10_keepWithin_22 (by decide) (fun c_10 => ?_) (fun c_10 => ?_)
    · have c_10 := kn_eq rfl (by decide : Int32.toInt 0 = 0) c_10
      exact W.vret hx hb hr (fun t ht hW => ⟨⟨(), rfl, trivial, ⟨f, k_ret ht hI, hk0⟩⟩, hS.F ht⟩) hS.2.2 dX10_keepWithin_31
    · have c_10 := kc_eq rfl (by decide : Int32.toInt 0 = 0) c_10
      refine lv_aload_n hx hb dX10_keepWithin_25 rfl (lv_at hl 0 rfl) ?_
      refine lv_lload_n hx hb dX10_keepWithin_26 rfl (lv_at hl 1 rfl) ?_
      refine lv_lneg hx hb dX10_keepWithin_27 ?_
      refine lv_topl (fun v_11 ev_11 => ?_)
      refine va_callv (va_runV (As := [.long v_11]) (rest := []) ⟨hx, hb, hml, hown, hts⟩ (c_X10_set l dC dI g A hG f h0 v_11 i_h0) (cwV 1 hts (gi_V (fun w_ h0_ => ⟨List.mem_cons_of_mem _ (List.mem_append_right _ (List.mem_append_right _ (List.mem_append_left _ h0_))), (tb_c_X10_set w_ h0_).2⟩) (List.mem_cons_of_mem _ (List.mem_append_left _ (List.mem_of_getElem? (i := 4) rfl))) (List.mem_cons_of_mem _ (List.mem_append_left _ (List.mem_of_getElem? (i := 5) rfl))) (List.mem_cons_of_mem _ (List.mem_append_left _ (List.mem_of_getElem? (i := 6) rfl))) (List.mem_cons_of_mem _ (List.mem_append_left _ (List.mem_of_getElem? (i := 3) rfl)))) rfl rfl rfl (by decide +kernel) ⟨Nat.le_of_ble_eq_true rfl, Nat.le_of_ble_eq_true rfl⟩) ⟨fun a U g mk q => ⟨q.1, q.2.calling rfl rfl⟩, k_recv hK hI i_h0.1 k_1 (ci := 10) rfl, fun U hU hW => ⟨rfl, kIn.of hI hK hE hS hU hW⟩⟩ rfl rfl hl.1 rfl (lv_room (Nat.le_of_ble_eq_true rfl)) dX10_keepWithin_28 ⟨Nat.le_of_ble_eq_true rfl, Nat.le_of_ble_eq_true rfl⟩) hS (fun q _ h => h) (fun q h => h) (fun u t H1 locs ht hvm _ hB hz1 hk1 hS => ?_)
      obtain ⟨f_12, hI, kc_14⟩ := hB
      rw [ht] at hI
      have kp_15 := Kp.call hk0 kc_14 (by decide)
      generalize H1 = H at hI hS ⊢
      refine W.widen (k := 0) (n := 0) (Nat.le_of_ble_eq_true rfl) (Nat.le_of_ble_eq_true rfl) ?_
      exact W.vret hx hb hr (fun t ht hW => ⟨⟨(), rfl, trivial, ⟨f_12, k_ret ht hI, kp_15⟩⟩, hS.F ht⟩) hS.2.2 dX10_keepWithin_31
  · have c_6 := kn_eq rfl (by decide : Int32.toInt 0 = 0) c_6
    refine lv_aload_n hx hb dX10_keepWithin_8 rfl (lv_at hl 0 rfl) ?_
    refine lv_lload_n hx hb dX10_keepWithin_9 rfl (lv_at hl 1 rfl) ?_
    refine va_callv (va_runV (As := [.long p1]) (rest := []) ⟨hx, hb, hml, hown, hts⟩ (c_X10_set l dC dI g A hG f h0 p1 i_h0) (cwV 1 hts (gi_V (fun w_ h0_ => ⟨List.mem_cons_of_mem _ (List.mem_append_right _ (List.mem_append_right _ (List.mem_append_left _ h0_))), (tb_c_X10_set w_ h0_).2⟩) (List.mem_cons_of_mem _ (List.mem_append_left _ (List.mem_of_getElem? (i := 4) rfl))) (List.mem_cons_of_mem _ (List.mem_append_left _ (List.mem_of_getElem? (i := 5) rfl))) (List.mem_cons_of_mem _ (List.mem_append_left _ (List.mem_of_getElem? (i := 6) rfl))) (List.mem_cons_of_mem _ (List.mem_append_left _ (List.mem_of_getElem? (i := 3) rfl)))) rfl rfl rfl (by decide +kernel) ⟨Nat.le_of_ble_eq_true rfl, Nat.le_of_ble_eq_true rfl⟩) ⟨fun a U g mk q => ⟨q.1, q.2.calling rfl rfl⟩, k_recv hK hI i_h0.1 k_1 (ci := 10) rfl, fun U hU hW => ⟨rfl, kIn.of hI hK hE hS hU hW⟩⟩ rfl rfl hl.1 rfl (lv_room (Nat.le_of_ble_eq_true rfl)) dX10_keepWithin_10 ⟨Nat.le_of_ble_eq_true rfl, Nat.le_of_ble_eq_true rfl⟩) hS (fun q _ h => h) (fun q h => h) (fun u t H1 locs ht hvm _ hB hz1 hk1 hS => ?_)
    obtain ⟨f_16, hI, kc_18⟩ := hB
    rw [ht] at hI
    have kp_19 := Kp.call hk0 kc_18 (by decide)
    generalize H1 = H at hI hS ⊢
    refine W.widen (k := 0) (n := 0) (Nat.le_of_ble_eq_true rfl) (Nat.le_of_ble_eq_true rfl) ?_
    refine lv_goto (tgt := 31) hx hb dX10_keepWithin_13 (by decide) ?_
    exact W.vret hx hb hr (fun t ht hW => ⟨⟨(), rfl, trivial, ⟨f_16, k_ret ht hI, kp_19⟩⟩, hS.F ht⟩) hS.2.2 dX10_keepWithin_31
theorem tw_359 : q_g (.methodLink RX8 106 yX10_isAbove) := ⟨(List.mem_append_right _ (List.mem_of_getElem? (i := 512) (by decide +kernel))), good_of_word (by decide +kernel)⟩
theorem tw_360 : q_g (.selects RX10 yX10_keepWithin yX10_keepWithin) := ⟨(List.mem_append_right _ (List.mem_of_getElem? (i := 519) (by decide +kernel))), good_of_word (by decide +kernel)⟩
theorem tw_361 : q_g (.instanceMethod yX10_keepWithin) := ⟨(List.mem_append_right _ (List.mem_of_getElem? (i := 518) (by decide +kernel))), good_of_word (by decide +kernel)⟩
theorem tw_362 : q_g (.methodLink RX8 112 yX10_keepWithin) := ⟨(List.mem_append_right _ (List.mem_of_getElem? (i := 517) (by decide +kernel))), good_of_word (by decide +kernel)⟩
theorem tw_363 : q_g (.constantLong RX8 110 (5354228880)) := ⟨(List.mem_append_right _ (List.mem_of_getElem? (i := 516) (by decide +kernel))), good_of_word (by decide +kernel)⟩
theorem tw_364 : q_g (.code yX8_putCarried cX8_putCarried 3 none) := ⟨(List.mem_append_right _ (List.mem_of_getElem? (i := 511) (by decide +kernel))), good_of_word (by decide +kernel)⟩
def ow_c_X8_putCarried : List Cond := [.fieldLink RX8 21 "DeadlineShare$Task" "lag" "LDeadlineShare$Wide;", .methodLink RX8 81 yX10_copy, .instanceMethod yX10_copy, .selects RX10 yX10_copy yX10_copy, .initialized RX10, .methodLink RX8 48 yX10_set, .instanceMethod yX10_set, .selects RX10 yX10_set yX10_set, .fieldLink RX8 35 "DeadlineShare$Task" "slice" "I", .constantLong RX8 110 (5354228880), .fieldLink RX8 52 "DeadlineShare$Task" "lagWeight" "I", .methodLink RX8 112 yX10_keepWithin, .instanceMethod yX10_keepWithin, .selects RX10 yX10_keepWithin yX10_keepWithin, .methodLink RX8 106 yX10_isAbove, .instanceMethod yX10_isAbove, .selects RX10 yX10_isAbove yX10_isAbove]
def wq_c_X8_putCarried : List Cond := .code yX8_putCarried cX8_putCarried 3 none :: (ow_c_X8_putCarried ++ (u_ws RX8 TX8 18 ++ (wq_c_X10_copy ++ (wq_c_X10_set ++ (wq_c_X10_keepWithin ++ (wq_c_X10_isAbove ++ ([] : List Cond)))))))
theorem tb_c_X8_putCarried : ∀ w ∈ wq_c_X8_putCarried, q_g w := by
  unfold wq_c_X8_putCarried ow_c_X8_putCarried
  exact q_cons tw_364 (q_app (q_cons tw_131 (q_cons tw_130 (q_cons tw_129 (q_cons tw_128 (q_cons tw_26 (q_cons tw_315 (q_cons tw_28 (q_cons tw_27 (q_cons tw_132 (q_cons tw_363 (q_cons tw_127 (q_cons tw_362 (q_cons tw_361 (q_cons tw_360 (q_cons tw_359 (q_cons tw_356 (q_cons tw_355 q_nil))))))))))))))))) (q_app tu_X8 (q_app tb_c_X10_copy (q_app tb_c_X10_set (q_app tb_c_X10_keepWithin (q_app tb_c_X10_isAbove q_nil))))))
set_option maxHeartbeats 4000000 in
set_option maxRecDepth 100000 in
theorem c_X8_putCarried (l : Launch) (dC : Nat → ClassId) (dI : Nat → Nat → Nat) (g : kG) (A : Nat → Prop) (hG : kWf g) (f : Nat → va_E) (h0 : Nat) (p1 : Int32) (p2 : Nat) (i_h0 : ik g 8 h0) (i_p2 : ik g 10 p2) : Met l yX8_putCarried wq_c_X8_putCarried ({ frames := 2, cells := 0, slots := 0, locals := 46 } : Room) (va_Pc [.ref h0, .int p1, .ref p2] (fun U => kIn dC dI g A f U)) (va_Qv (fun (_ : Unit) => True) (fun (_ : Unit) t => ∃ f1 : Nat → va_E, Iv dC dI g A f1 t.heap ∧ Kp g [10] f f1) A) 0 0 A := by
  refine Met.ofW (cc := cX8_putCarried) (maxL := 3) (ret := none) (by decide) rfl ?_
  intro p e s m args below meth c s₁ B hml hv
  obtain ⟨rfl, hI, hK, hE⟩ := hv
  have hx := B.exec
  have hb := B.bytes
  have hr := B.returns
  have hts := atoms_spec (ws := wq_c_X8_putCarried) B.pre
  have hown : s.vm.findClass RX8 = some m.cls := findClass_of_methodNamed B.named
  have hlocks := B.notSynchronized
  have hS : va_S A s.heap s.heap [] := va_S.rf
  have hk0 : Kp g [10] f f := Kp.rf
  have hl := lv_entry ([.ref h0, .int p1, .ref p2]) (n := 3) (Nat.le_of_ble_eq_true rfl)
  rw [lg_entry_eq]
  generalize (lg_sl ([.ref h0, .int p1, .ref p2]) ++ List.replicate (3 - (lg_sl ([.ref h0, .int p1, .ref p2])).length) Slot.unset).toArray = ls at hl ⊢
  have hl : lv_has ls 3 [(0, .ref h0), (1, .int p1), (2, .ref p2)] := hl
  refine lv_aload_n hx hb dX8_putCarried_0 rfl (lv_at hl 2 rfl) ?_
  refine lv_aload_n hx hb dX8_putCarried_1 rfl (lv_at hl 0 rfl) ?_
  obtain ⟨x_2, x_3, x_4, x_5, x_6, x_7, x_8, x_9, x_10, x_11, x_12, x_13, x_14, x_15, x_16, x_17, k_1⟩ := op_8 hI i_h0
  refine k_get (ci := 8) (v := .ref (gr g h0 7)) (C := RX8) (T := TX8) (N := 18) hx hb hts (fun _ h0_ => List.mem_cons_of_mem _ (List.mem_append_right _ (List.mem_append_left _ h0_))) hown hK hI i_h0.1 k_1 rfl 7 (by decide) (hts (.fieldLink RX8 21 "DeadlineShare$Task" "lag" "LDeadlineShare$Wide;") (List.mem_cons_of_mem _ (List.mem_append_left _ (List.mem_of_getElem? (i := 0) rfl)))) (fun _ h9 => h9) rfl dX8_putCarried_2 ?_
  have i_19 := kw_8_7 hG i_h0
  obtain ⟨x_21, x_22, k_20⟩ := op_10 hI i_p2
  refine va_callv (va_runV (As := [.ref (gr g h0 7)]) (rest := []) ⟨hx, hb, hml, hown, hts⟩ (c_X10_copy l dC dI g A hG f p2 (gr g h0 7) i_p2 i_19) (cwV 1 hts (gi_V (fun w_ h0_ => ⟨List.mem_cons_of_mem _ (List.mem_append_right _ (List.mem_append_right _ (List.mem_append_left _ h0_))), (tb_c_X10_copy w_ h0_).2⟩) (List.mem_cons_of_mem _ (List.mem_append_left _ (List.mem_of_getElem? (i := 1) rfl))) (List.mem_cons_of_mem _ (List.mem_append_left _ (List.mem_of_getElem? (i := 2) rfl))) (List.mem_cons_of_mem _ (List.mem_append_left _ (List.mem_of_getElem? (i := 3) rfl))) (List.mem_cons_of_mem _ (List.mem_append_left _ (List.mem_of_getElem? (i := 4) rfl)))) rfl rfl rfl (by decide +kernel) ⟨Nat.le_of_ble_eq_true rfl, Nat.le_of_ble_eq_true rfl⟩) ⟨fun a U g mk q => ⟨q.1, q.2.calling rfl rfl⟩, k_recv hK hI i_p2.1 k_20 (ci := 10) rfl, fun U hU hW => ⟨rfl, kIn.of hI hK hE hS hU hW⟩⟩ rfl rfl hl.1 rfl (lv_room (Nat.le_of_ble_eq_true rfl)) dX8_putCarried_5 ⟨Nat.le_of_ble_eq_true rfl, Nat.le_of_ble_eq_true rfl⟩) hS (fun q _ h => h) (fun q h => h) (fun u t H1 locs ht hvm _ hB hz1 hk1 hS => ?_)
  obtain ⟨f_23, hI, kc_25⟩ := hB
  rw [ht] at hI
  have k_26 : f_23 h0 = .inr (8, [.int x_2, .ref (gr g h0 1), .int x_3, .int x_4, .int x_5, .long x_6, .int x_7, .ref (gr g h0 7), .int x_8, .int x_9, .int x_10, .int x_11, .int x_12, .int x_13, .int x_14, .int x_15, .int x_16, .int x_17]) := Kp.at kc_25 i_h0 (by decide) k_1
  have kp_27 := Kp.call hk0 kc_25 (by decide)
  generalize H1 = H at hI hS ⊢
  refine W.widen (k := 0) (n := 0) (Nat.le_of_ble_eq_true rfl) (Nat.le_of_ble_eq_true rfl) ?_
  refine lv_iload_n hx hb dX8_putCarried_8 rfl (lv_at hl 1 rfl) ?_
  have J_28 : ∀ (H : Heap) (locs : List Loc) (ls : Array Slot), Iv dC dI g A f_23 H → va_S A s.heap H locs → lv_has ls 3 [(0, .ref h0), (1, .int p1), (2, .ref p2)] → W p l e (headSpec wq_c_X8_putCarried ({ frames := 2, cells := 0, slots := 0, locals := 46 } : Room)).room s m ([.ref h0, .int p1, .ref p2].toArray) below meth c H locs 0 0 (MQ below (va_Qv (fun (_ : Unit) => True) (fun (_ : Unit) t => ∃ f1 : Nat → va_E, Iv dC dI g A f1 t.heap ∧ Kp g [10] f f1) A) ([.ref h0, .int p1, .ref p2].toArray) s 0 0 A) (F0 m 28 ls []) := by
    intro H locs ls hI hS  hl
    refine lv_aload_n hx hb dX8_putCarried_28 rfl (lv_at hl 2 rfl) ?_
    refine lv_lconst (v := 0) hx hb dX8_putCarried_29 (by decide) ?_
    obtain ⟨x_29, x_30, k_28⟩ := op_10 hI i_p2
    refine va_callv (va_runV (As := [.long 0]) (rest := []) ⟨hx, hb, hml, hown, hts⟩ (c_X10_set l dC dI g A hG f_23 p2 0 i_p2) (cwV 1 hts (gi_V (fun w_ h0_ => ⟨List.mem_cons_of_mem _ (List.mem_append_right _ (List.mem_append_right _ (List.mem_append_right _ (List.mem_append_left _ h0_)))), (tb_c_X10_set w_ h0_).2⟩) (List.mem_cons_of_mem _ (List.mem_append_left _ (List.mem_of_getElem? (i := 5) rfl))) (List.mem_cons_of_mem _ (List.mem_append_left _ (List.mem_of_getElem? (i := 6) rfl))) (List.mem_cons_of_mem _ (List.mem_append_left _ (List.mem_of_getElem? (i := 7) rfl))) (List.mem_cons_of_mem _ (List.mem_append_left _ (List.mem_of_getElem? (i := 4) rfl)))) rfl rfl rfl (by decide +kernel) ⟨Nat.le_of_ble_eq_true rfl, Nat.le_of_ble_eq_true rfl⟩) ⟨fun a U g mk q => ⟨q.1, q.2.calling rfl rfl⟩, k_recv hK hI i_p2.1 k_28 (ci := 10) rfl, fun U hU hW => ⟨rfl, kIn.of hI hK hE hS hU hW⟩⟩ rfl rfl hl.1 rfl (lv_room (Nat.le_of_ble_eq_true rfl)) dX8_putCarried_30 ⟨Nat.le_of_ble_eq_true rfl, Nat.le_of_ble_eq_true rfl⟩) hS (fun q _ h => h) (fun q h => h) (fun u t H1 locs ht hvm _ hB hz1 hk1 hS => ?_)
    obtain ⟨f_31, hI, kc_33⟩ := hB
    rw [ht] at hI
    have k_34 : f_31 h0 = .inr (8, [.int x_2, .ref (gr g h0 1), .int x_3, .int x_4, .int x_5, .long x_6, .int x_7, .ref (gr g h0 7), .int x_8, .int x_9, .int x_10, .int x_11, .int x_12, .int x_13, .int x_14, .int x_15, .int x_16, .int x_17]) := Kp.at kc_33 i_h0 (by decide) k_26
    have kp_35 := Kp.call kp_27 kc_33 (by decide)
    generalize H1 = H at hI hS ⊢
    refine W.widen (k := 0) (n := 0) (Nat.le_of_ble_eq_true rfl) (Nat.le_of_ble_eq_true rfl) ?_
    refine lv_goto (tgt := 60) hx hb dX8_putCarried_33 (by decide) ?_
    exact W.vret hx hb hr (fun t ht hW => ⟨⟨(), rfl, trivial, ⟨f_31, k_ret ht hI, kp_35⟩⟩, hS.F ht⟩) hS.2.2 dX8_putCarried_60
  refine lv_if_eq (tgt := 28) hx hb dX8_putCarried_9 (by decide) (fun c_36 => ?_) (fun c_36 => ?_)
  · have c_36 := kc_eq rfl (by decide : Int32.toInt 0 = 0) c_36
    exact J_28  _ _ _ hI hS  (lv_sub hl [0, 1, 2] rfl)
  · have c_36 := kn_eq rfl (by decide : Int32.toInt 0 = 0) c_36
    refine lv_iload_n hx hb dX8_putCarried_12 rfl (lv_at hl 1 rfl) ?_
    refine lv_iconst (v := 3) hx hb dX8_putCarried_13 (by decide) ?_
    have J_36 : ∀ (H : Heap) (locs : List Loc) (ls : Array Slot), Iv dC dI g A f_23 H → va_S A s.heap H locs → lv_has ls 3 [(0, .ref h0), (1, .int p1), (2, .ref p2)] → W p l e (headSpec wq_c_X8_putCarried ({ frames := 2, cells := 0, slots := 0, locals := 46 } : Room)).room s m ([.ref h0, .int p1, .ref p2].toArray) below meth c H locs 0 0 (MQ below (va_Qv (fun (_ : Unit) => True) (fun (_ : Unit) t => ∃ f1 : Nat → va_E, Iv dC dI g A f1 t.heap ∧ Kp g [10] f f1) A) ([.ref h0, .int p1, .ref p2].toArray) s 0 0 A) (F0 m 36 ls []) := by
      intro H locs ls hI hS  hl
      refine lv_iload_n hx hb dX8_putCarried_36 rfl (lv_at hl 1 rfl) ?_
      refine lv_iconst (v := 2) hx hb dX8_putCarried_37 (by decide) ?_
      refine lv_icmp_ne (tgt := 60) hx hb dX8_putCarried_38 (by decide) (fun c_37 => ?_) (fun c_37 => ?_)
      · have c_37 := kn_eq rfl (by decide : Int32.toInt 2 = 2) c_37
        exact W.vret hx hb hr (fun t ht hW => ⟨⟨(), rfl, trivial, ⟨f_23, k_ret ht hI, kp_27⟩⟩, hS.F ht⟩) hS.2.2 dX8_putCarried_60
      · have c_37 := kc_eq rfl (by decide : Int32.toInt 2 = 2) c_37
        refine lv_aload_n hx hb dX8_putCarried_41 rfl (lv_at hl 2 rfl) ?_
        refine lv_aload_n hx hb dX8_putCarried_42 rfl (lv_at hl 0 rfl) ?_
        refine k_get (ci := 8) (v := .int x_4) (C := RX8) (T := TX8) (N := 18) hx hb hts (fun _ h0_ => List.mem_cons_of_mem _ (List.mem_append_right _ (List.mem_append_left _ h0_))) hown hK hI i_h0.1 k_26 rfl 3 (by decide) (hts (.fieldLink RX8 35 "DeadlineShare$Task" "slice" "I") (List.mem_cons_of_mem _ (List.mem_append_left _ (List.mem_of_getElem? (i := 8) rfl)))) (fun _ h9 => h9) rfl dX8_putCarried_43 ?_
        refine lv_i2l (v := x_4.toInt64) hx hb dX8_putCarried_46 rfl ?_
        have t_38 := Int32.toInt_toInt64 x_4
        refine lv_ldc2 hx hb hown (hts (.constantLong RX8 110 (5354228880)) (List.mem_cons_of_mem _ (List.mem_append_left _ (List.mem_of_getElem? (i := 9) rfl)))) dX8_putCarried_47 ?_
        refine lv_lmul hx hb dX8_putCarried_50 ?_
        refine lv_topl (fun v_39 ev_39 => ?_)
        refine lv_aload_n hx hb dX8_putCarried_51 rfl (lv_at hl 0 rfl) ?_
        refine k_get (ci := 8) (v := .int x_8) (C := RX8) (T := TX8) (N := 18) hx hb hts (fun _ h0_ => List.mem_cons_of_mem _ (List.mem_append_right _ (List.mem_append_left _ h0_))) hown hK hI i_h0.1 k_26 rfl 8 (by decide) (hts (.fieldLink RX8 52 "DeadlineShare$Task" "lagWeight" "I") (List.mem_cons_of_mem _ (List.mem_append_left _ (List.mem_of_getElem? (i := 10) rfl)))) (fun _ h9 => h9) rfl dX8_putCarried_52 ?_
        refine lv_i2l (v := x_8.toInt64) hx hb dX8_putCarried_55 rfl ?_
        have t_40 := Int32.toInt_toInt64 x_8
        refine lv_lmul hx hb dX8_putCarried_56 ?_
        refine lv_topl (fun v_41 ev_41 => ?_)
        obtain ⟨x_43, x_44, k_42⟩ := op_10 hI i_p2
        refine va_callv (va_runV (As := [.long v_41]) (rest := []) ⟨hx, hb, hml, hown, hts⟩ (c_X10_keepWithin l dC dI g A hG f_23 p2 v_41 i_p2) (cwV 1 hts (gi_V (fun w_ h0_ => ⟨List.mem_cons_of_mem _ (List.mem_append_right _ (List.mem_append_right _ (List.mem_append_right _ (List.mem_append_right _ (List.mem_append_left _ h0_))))), (tb_c_X10_keepWithin w_ h0_).2⟩) (List.mem_cons_of_mem _ (List.mem_append_left _ (List.mem_of_getElem? (i := 11) rfl))) (List.mem_cons_of_mem _ (List.mem_append_left _ (List.mem_of_getElem? (i := 12) rfl))) (List.mem_cons_of_mem _ (List.mem_append_left _ (List.mem_of_getElem? (i := 13) rfl))) (List.mem_cons_of_mem _ (List.mem_append_left _ (List.mem_of_getElem? (i := 4) rfl)))) rfl rfl rfl (by decide +kernel) ⟨Nat.le_of_ble_eq_true rfl, Nat.le_of_ble_eq_true rfl⟩) ⟨fun a U g mk q => ⟨q.1, q.2.calling rfl rfl⟩, k_recv hK hI i_p2.1 k_42 (ci := 10) rfl, fun U hU hW => ⟨rfl, kIn.of hI hK hE hS hU hW⟩⟩ rfl rfl hl.1 rfl (lv_room (Nat.le_of_ble_eq_true rfl)) dX8_putCarried_57 ⟨Nat.le_of_ble_eq_true rfl, Nat.le_of_ble_eq_true rfl⟩) hS (fun q _ h => h) (fun q h => h) (fun u t H1 locs ht hvm _ hB hz1 hk1 hS => ?_)
        obtain ⟨f_45, hI, kc_47⟩ := hB
        rw [ht] at hI
        have k_48 : f_45 h0 = .inr (8, [.int x_2, .ref (gr g h0 1), .int x_3, .int x_4, .int x_5, .long x_6, .int x_7, .ref (gr g h0 7), .int x_8, .int x_9, .int x_10, .int x_11, .int x_12, .int x_13, .int x_14, .int x_15, .int x_16, .int x_17]) := Kp.at kc_47 i_h0 (by decide) k_26
        have kp_49 := Kp.call kp_27 kc_47 (by decide)
        generalize H1 = H at hI hS ⊢
        refine W.widen (k := 0) (n := 0) (Nat.le_of_ble_eq_true rfl) (Nat.le_of_ble_eq_true rfl) ?_
        exact W.vret hx hb hr (fun t ht hW => ⟨⟨(), rfl, trivial, ⟨f_45, k_ret ht hI, kp_49⟩⟩, hS.F ht⟩) hS.2.2 dX8_putCarried_60
    refine lv_icmp_ne (tgt := 36) hx hb dX8_putCarried_14 (by decide) (fun c_50 => ?_) (fun c_50 => ?_)
    · have c_50 := kn_eq rfl (by decide : Int32.toInt 3 = 3) c_50
      exact J_36  _ _ _ hI hS  (lv_sub hl [0, 1, 2] rfl)
    · have c_50 := kc_eq rfl (by decide : Int32.toInt 3 = 3) c_50
      refine lv_aload_n hx hb dX8_putCarried_17 rfl (lv_at hl 0 rfl) ?_
      refine k_get (ci := 8) (v := .ref (gr g h0 7)) (C := RX8) (T := TX8) (N := 18) hx hb hts (fun _ h0_ => List.mem_cons_of_mem _ (List.mem_append_right _ (List.mem_append_left _ h0_))) hown hK hI i_h0.1 k_26 rfl 7 (by decide) (hts (.fieldLink RX8 21 "DeadlineShare$Task" "lag" "LDeadlineShare$Wide;") (List.mem_cons_of_mem _ (List.mem_append_left _ (List.mem_of_getElem? (i := 0) rfl)))) (fun _ h9 => h9) rfl dX8_putCarried_18 ?_
      refine lv_lconst (v := 0) hx hb dX8_putCarried_21 (by decide) ?_
      obtain ⟨x_54, x_55, k_53⟩ := op_10 hI i_19
      refine va_calli (va_runV (As := [.long 0]) (rest := []) ⟨hx, hb, hml, hown, hts⟩ (c_X10_isAbove l dC dI g A hG f_23 (gr g h0 7) 0 i_19) (cwV 1 hts (gi_V (fun w_ h0_ => ⟨List.mem_cons_of_mem _ (List.mem_append_right _ (List.mem_append_right _ (List.mem_append_right _ (List.mem_append_right _ (List.mem_append_right _ (List.mem_append_left _ h0_)))))), (tb_c_X10_isAbove w_ h0_).2⟩) (List.mem_cons_of_mem _ (List.mem_append_left _ (List.mem_of_getElem? (i := 14) rfl))) (List.mem_cons_of_mem _ (List.mem_append_left _ (List.mem_of_getElem? (i := 15) rfl))) (List.mem_cons_of_mem _ (List.mem_append_left _ (List.mem_of_getElem? (i := 16) rfl))) (List.mem_cons_of_mem _ (List.mem_append_left _ (List.mem_of_getElem? (i := 4) rfl)))) rfl rfl rfl (by decide +kernel) ⟨Nat.le_of_ble_eq_true rfl, Nat.le_of_ble_eq_true rfl⟩) ⟨fun a U g mk q => ⟨q.1, q.2.calling rfl rfl⟩, k_recv hK hI i_19.1 k_53 (ci := 10) rfl, fun U hU hW => ⟨rfl, kIn.of hI hK hE hS hU hW⟩⟩ rfl rfl hl.1 rfl (lv_room (Nat.le_of_ble_eq_true rfl)) dX8_putCarried_22 ⟨Nat.le_of_ble_eq_true rfl, Nat.le_of_ble_eq_true rfl⟩) hS (fun q _ h => h) (fun q h => h) (fun r_57 u t H1 locs ht hvm w_56 hB hz1 hk1 hS => ?_)
      have hI : Iv dC dI g A f_23 t.heap := hB
      rw [ht] at hI
      generalize H1 = H at hI hS ⊢
      refine W.widen (k := 0) (n := 0) (Nat.le_of_ble_eq_true rfl) (Nat.le_of_ble_eq_true rfl) ?_
      refine lv_if_eq (tgt := 36) hx hb dX8_putCarried_25 (by decide) (fun c_58 => ?_) (fun c_58 => ?_)
      · have c_58 := kc_eq rfl (by decide : Int32.toInt 0 = 0) c_58
        exact J_36  _ _ _ hI hS  (lv_sub hl [0, 1, 2] rfl)
      · have c_58 := kn_eq rfl (by decide : Int32.toInt 0 = 0) c_58
        exact J_28  _ _ _ hI hS  (lv_sub hl [0, 1, 2] rfl)
theorem tw_365 : q_g (.code yX10_addTimesWide cX10_addTimesWide 6 none) := ⟨(List.mem_append_right _ (List.mem_of_getElem? (i := 530) (by decide +kernel))), good_of_word (by decide +kernel)⟩
def ow_c_X10_addTimesWide : List Cond := [.fieldLink RX10 15 "DeadlineShare$Wide" "low" "J", .fieldLink RX10 9 "DeadlineShare$Wide" "high" "J", .constantLong RX10 13 (4294967295)]
def wq_c_X10_addTimesWide : List Cond := .code yX10_addTimesWide cX10_addTimesWide 6 none :: (ow_c_X10_addTimesWide ++ (u_ws RX10 TX10 2 ++ ([] : List Cond)))
theorem tb_c_X10_addTimesWide : ∀ w ∈ wq_c_X10_addTimesWide, q_g w := by
  unfold wq_c_X10_addTimesWide ow_c_X10_addTimesWide
  exact q_cons tw_365 (q_app (q_cons tw_15 (q_cons tw_17 (q_cons tw_16 q_nil))) (q_app tu_X10 q_nil))
set_option maxHeartbeats 4000000 in
set_option maxRecDepth 100000 in
theorem c_X10_addTimesWide (l : Launch) (dC : Nat → ClassId) (dI : Nat → Nat → Nat) (g : kG) (A : Nat → Prop) (hG : kWf g) (f : Nat → va_E) (h0 : Nat) (p1 : Int64) (p2 : Nat) (i_h0 : ik g 10 h0) (i_p2 : ik g 10 p2) : Met l yX10_addTimesWide wq_c_X10_addTimesWide ({ frames := 0, cells := 0, slots := 0, locals := 0 } : Room) (va_Pc [.ref h0, .long p1, .ref p2] (fun U => kIn dC dI g A f U)) (va_Qv (fun (_ : Unit) => True) (fun (_ : Unit) t => ∃ f1 : Nat → va_E, Iv dC dI g A f1 t.heap ∧ Kp g [10] f f1) A) 0 0 A := by
  refine Met.ofW (cc := cX10_addTimesWide) (maxL := 6) (ret := none) (by decide) rfl ?_
  intro p e s m args below meth c s₁ B hml hv
  obtain ⟨rfl, hI, hK, hE⟩ := hv
  have hx := B.exec
  have hb := B.bytes
  have hr := B.returns
  have hts := atoms_spec (ws := wq_c_X10_addTimesWide) B.pre
  have hown : s.vm.findClass RX10 = some m.cls := findClass_of_methodNamed B.named
  have hlocks := B.notSynchronized
  have hS : va_S A s.heap s.heap [] := va_S.rf
  have hk0 : Kp g [10] f f := Kp.rf
  have hl := lv_entry ([.ref h0, .long p1, .ref p2]) (n := 6) (Nat.le_of_ble_eq_true rfl)
  rw [lg_entry_eq]
  generalize (lg_sl ([.ref h0, .long p1, .ref p2]) ++ List.replicate (6 - (lg_sl ([.ref h0, .long p1, .ref p2])).length) Slot.unset).toArray = ls at hl ⊢
  have hl : lv_has ls 6 [(0, .ref h0), (1, .long p1), (3, .ref p2)] := hl
  refine lv_aload_n hx hb dX10_addTimesWide_0 rfl (lv_at hl 0 rfl) ?_
  obtain ⟨x_2, x_3, k_1⟩ := op_10 hI i_h0
  refine k_get (ci := 10) (v := .long x_3) (C := RX10) (T := TX10) (N := 2) hx hb hts (fun _ h0_ => List.mem_cons_of_mem _ (List.mem_append_right _ (List.mem_append_left _ h0_))) hown hK hI i_h0.1 k_1 rfl 1 (by decide) (hts (.fieldLink RX10 15 "DeadlineShare$Wide" "low" "J") (List.mem_cons_of_mem _ (List.mem_append_left _ (List.mem_of_getElem? (i := 0) rfl)))) (fun _ h9 => h9) rfl dX10_addTimesWide_1 ?_
  refine lv_lload_n hx hb dX10_addTimesWide_4 rfl (lv_at hl 1 rfl) ?_
  refine lv_aload_n hx hb dX10_addTimesWide_5 rfl (lv_at hl 2 rfl) ?_
  obtain ⟨x_5, x_6, k_4⟩ := op_10 hI i_p2
  refine k_get (ci := 10) (v := .long x_6) (C := RX10) (T := TX10) (N := 2) hx hb hts (fun _ h0_ => List.mem_cons_of_mem _ (List.mem_append_right _ (List.mem_append_left _ h0_))) hown hK hI i_p2.1 k_4 rfl 1 (by decide) (hts (.fieldLink RX10 15 "DeadlineShare$Wide" "low" "J") (List.mem_cons_of_mem _ (List.mem_append_left _ (List.mem_of_getElem? (i := 0) rfl)))) (fun _ h9 => h9) rfl dX10_addTimesWide_6 ?_
  refine lv_lmul hx hb dX10_addTimesWide_9 ?_
  refine lv_topl (fun v_7 ev_7 => ?_)
  refine lv_ladd hx hb dX10_addTimesWide_10 ?_
  refine lv_topl (fun v_8 ev_8 => ?_)
  refine lv_lstore (lv' := [(4, .long v_8), (0, .ref h0), (1, .long p1), (3, .ref p2)]) hx hb dX10_addTimesWide_11 hl (by decide) rfl (fun ls hl => ?_)
  refine lv_aload_n hx hb dX10_addTimesWide_13 rfl (lv_at hl 1 rfl) ?_
  refine lv_dup hx hb dX10_addTimesWide_14 rfl ?_
  refine k_get (ci := 10) (v := .long x_2) (C := RX10) (T := TX10) (N := 2) hx hb hts (fun _ h0_ => List.mem_cons_of_mem _ (List.mem_append_right _ (List.mem_append_left _ h0_))) hown hK hI i_h0.1 k_1 rfl 0 (by decide) (hts (.fieldLink RX10 9 "DeadlineShare$Wide" "high" "J") (List.mem_cons_of_mem _ (List.mem_append_left _ (List.mem_of_getElem? (i := 1) rfl)))) (fun _ h9 => h9) rfl dX10_addTimesWide_15 ?_
  refine lv_lload_n hx hb dX10_addTimesWide_18 rfl (lv_at hl 2 rfl) ?_
  refine lv_aload_n hx hb dX10_addTimesWide_19 rfl (lv_at hl 3 rfl) ?_
  refine k_get (ci := 10) (v := .long x_5) (C := RX10) (T := TX10) (N := 2) hx hb hts (fun _ h0_ => List.mem_cons_of_mem _ (List.mem_append_right _ (List.mem_append_left _ h0_))) hown hK hI i_p2.1 k_4 rfl 0 (by decide) (hts (.fieldLink RX10 9 "DeadlineShare$Wide" "high" "J") (List.mem_cons_of_mem _ (List.mem_append_left _ (List.mem_of_getElem? (i := 1) rfl)))) (fun _ h9 => h9) rfl dX10_addTimesWide_20 ?_
  refine lv_lmul hx hb dX10_addTimesWide_23 ?_
  refine lv_topl (fun v_9 ev_9 => ?_)
  refine lv_lload hx hb dX10_addTimesWide_24 (lv_at hl 0 rfl) ?_
  refine lv_bipush (v := 32) hx hb dX10_addTimesWide_26 (by decide) ?_
  refine lv_lshr hx hb dX10_addTimesWide_28 rfl ?_
  refine lv_topl (fun v_10 ev_10 => ?_)
  refine lv_ladd hx hb dX10_addTimesWide_29 ?_
  refine lv_topl (fun v_11 ev_11 => ?_)
  refine lv_ladd hx hb dX10_addTimesWide_30 ?_
  refine lv_topl (fun v_12 ev_12 => ?_)
  refine k_put (ci := 10) (v := .long v_12) (ty := .long) (C := RX10) (T := TX10) (N := 2) hx hb hts (fun _ h0_ => List.mem_cons_of_mem _ (List.mem_append_right _ (List.mem_append_left _ h0_))) tyX10 tyX10_ok nmX10 hown hK hI hS i_h0.1 k_1 rfl 0 (by decide) (hts (.fieldLink RX10 9 "DeadlineShare$Wide" "high" "J") (List.mem_cons_of_mem _ (List.mem_append_left _ (List.mem_of_getElem? (i := 1) rfl)))) (fun _ h9 => h9) rfl (by decide +kernel) rfl rfl (Nat.le_of_ble_eq_true rfl) rfl (cl_10 i_h0) dX10_addTimesWide_31 (fun f_13 H locs e_14 hI hS => ?_)
  have k_16 : f_13 h0 = .inr (10, [.long v_12, .long x_3]) := by rw [e_14]; exact va_up_self _ _ _
  have kp_15 := Kp.put hk0 i_h0 (by decide) e_14
  refine lv_aload_n hx hb dX10_addTimesWide_34 rfl (lv_at hl 1 rfl) ?_
  refine lv_lload hx hb dX10_addTimesWide_35 (lv_at hl 0 rfl) ?_
  refine lv_ldc2 hx hb hown (hts (.constantLong RX10 13 (4294967295)) (List.mem_cons_of_mem _ (List.mem_append_left _ (List.mem_of_getElem? (i := 2) rfl)))) dX10_addTimesWide_37 ?_
  refine lv_land hx hb dX10_addTimesWide_40 ?_
  refine lv_topl (fun v_17 ev_17 => ?_)
  refine k_put (ci := 10) (v := .long v_17) (ty := .long) (C := RX10) (T := TX10) (N := 2) hx hb hts (fun _ h0_ => List.mem_cons_of_mem _ (List.mem_append_right _ (List.mem_append_left _ h0_))) tyX10 tyX10_ok nmX10 hown hK hI hS i_h0.1 k_16 rfl 1 (by decide) (hts (.fieldLink RX10 15 "DeadlineShare$Wide" "low" "J") (List.mem_cons_of_mem _ (List.mem_append_left _ (List.mem_of_getElem? (i := 0) rfl)))) (fun _ h9 => h9) rfl (by decide +kernel) rfl rfl (Nat.le_of_ble_eq_true rfl) rfl (cl_10 i_h0) dX10_addTimesWide_41 (fun f_18 H locs e_19 hI hS => ?_)
  have k_21 : f_18 h0 = .inr (10, [.long v_12, .long v_17]) := by rw [e_19]; exact va_up_self _ _ _
  have kp_20 := Kp.put kp_15 i_h0 (by decide) e_19
  exact W.vret hx hb hr (fun t ht hW => ⟨⟨(), rfl, trivial, ⟨f_18, k_ret ht hI, kp_20⟩⟩, hS.F ht⟩) hS.2.2 dX10_addTimesWide_44
theorem tw_366 : q_g (.fieldLink RX6 159 "DeadlineShare$Task" "wait" "I") := ⟨(List.mem_append_right _ (List.mem_of_getElem? (i := 182) (by decide +kernel))), good_of_word (by decide +kernel)⟩
theorem tw_367 : q_g (.fieldLink RX6 156 "DeadlineShare$Task" "left" "I") := ⟨(List.mem_append_right _ (List.mem_of_getElem? (i := 168) (by decide +kernel))), good_of_word (by decide +kernel)⟩
theorem tw_368 : q_g (.fieldLink RX6 153 "DeadlineShare$Task" "slice" "I") := ⟨(List.mem_append_right _ (List.mem_of_getElem? (i := 159) (by decide +kernel))), good_of_word (by decide +kernel)⟩
theorem tw_369 : q_g (.selects RX10 yX10_addTimesWide yX10_addTimesWide) := ⟨(List.mem_append_right _ (List.mem_of_getElem? (i := 529) (by decide +kernel))), good_of_word (by decide +kernel)⟩
theorem tw_370 : q_g (.instanceMethod yX10_addTimesWide) := ⟨(List.mem_append_right _ (List.mem_of_getElem? (i := 528) (by decide +kernel))), good_of_word (by decide +kernel)⟩
theorem tw_371 : q_g (.methodLink RX6 149 yX10_addTimesWide) := ⟨(List.mem_append_right _ (List.mem_of_getElem? (i := 527) (by decide +kernel))), good_of_word (by decide +kernel)⟩
theorem tw_372 : q_g (.selects RX8 yX8_putCarried yX8_putCarried) := ⟨(List.mem_append_right _ (List.mem_of_getElem? (i := 510) (by decide +kernel))), good_of_word (by decide +kernel)⟩
theorem tw_373 : q_g (.instanceMethod yX8_putCarried) := ⟨(List.mem_append_right _ (List.mem_of_getElem? (i := 509) (by decide +kernel))), good_of_word (by decide +kernel)⟩
theorem tw_374 : q_g (.methodLink RX6 145 yX8_putCarried) := ⟨(List.mem_append_right _ (List.mem_of_getElem? (i := 508) (by decide +kernel))), good_of_word (by decide +kernel)⟩
theorem tw_375 : q_g (.fieldLink RX6 140 "DeadlineShare$Terms" "carry" "I") := ⟨(List.mem_append_right _ (List.mem_of_getElem? (i := 38) (by decide +kernel))), good_of_word (by decide +kernel)⟩
theorem tw_376 : q_g (.fieldLink RX6 41 "DeadlineShare$State" "terms" "LDeadlineShare$Terms;") := ⟨(List.mem_append_right _ (List.mem_of_getElem? (i := 229) (by decide +kernel))), good_of_word (by decide +kernel)⟩
theorem tw_377 : q_g (.fieldLink RX6 137 "DeadlineShare$Task" "lagWeight" "I") := ⟨(List.mem_append_right _ (List.mem_of_getElem? (i := 173) (by decide +kernel))), good_of_word (by decide +kernel)⟩
theorem tw_378 : q_g (.code yX6_enter cX6_enter 4 none) := ⟨(List.mem_append_right _ (List.mem_of_getElem? (i := 498) (by decide +kernel))), good_of_word (by decide +kernel)⟩
def ow_c_X6_enter : List Cond := [.methodLink RX6 86 yX6_sumUp, .instanceMethod yX6_sumUp, .selects RX6 yX6_sumUp yX6_sumUp, .initialized RX6, .fieldLink RX6 137 "DeadlineShare$Task" "lagWeight" "I", .fieldLink RX6 72 "DeadlineShare$Task" "weight" "I", .fieldLink RX6 41 "DeadlineShare$State" "terms" "LDeadlineShare$Terms;", .fieldLink RX6 140 "DeadlineShare$Terms" "carry" "I", .fieldLink RX6 31 "DeadlineShare$State" "part" "LDeadlineShare$Wide;", .methodLink RX6 145 yX8_putCarried, .instanceMethod yX8_putCarried, .selects RX8 yX8_putCarried yX8_putCarried, .initialized RX8, .fieldLink RX6 27 "DeadlineShare$State" "sum" "LDeadlineShare$Wide;", .methodLink RX6 101 yX10_multiply, .instanceMethod yX10_multiply, .selects RX10 yX10_multiply yX10_multiply, .initialized RX10, .methodLink RX6 149 yX10_addTimesWide, .instanceMethod yX10_addTimesWide, .selects RX10 yX10_addTimesWide yX10_addTimesWide, .methodLink RX6 90 yX10_divide, .instanceMethod yX10_divide, .selects RX10 yX10_divide yX10_divide, .methodLink RX6 93 yX10_asLong, .instanceMethod yX10_asLong, .selects RX10 yX10_asLong yX10_asLong, .fieldLink RX6 79 "DeadlineShare$Task" "v" "J", .fieldLink RX6 153 "DeadlineShare$Task" "slice" "I", .fieldLink RX6 156 "DeadlineShare$Task" "left" "I", .fieldLink RX6 159 "DeadlineShare$Task" "wait" "I", .fieldLink RX6 69 "DeadlineShare$Task" "state" "I"]
def wq_c_X6_enter : List Cond := .code yX6_enter cX6_enter 4 none :: (ow_c_X6_enter ++ (wq_c_X6_sumUp ++ (u_ws RX8 TX8 18 ++ (u_ws RX6 TX6 10 ++ (u_ws RX9 TX9 3 ++ (wq_c_X8_putCarried ++ (wq_c_X10_multiply ++ (wq_c_X10_addTimesWide ++ (wq_c_X10_divide ++ (wq_c_X10_asLong ++ ([] : List Cond)))))))))))
theorem tb_c_X6_enter : ∀ w ∈ wq_c_X6_enter, q_g w := by
  unfold wq_c_X6_enter ow_c_X6_enter
  exact q_cons tw_378 (q_app (q_cons tw_50 (q_cons tw_49 (q_cons tw_48 (q_cons tw_47 (q_cons tw_377 (q_cons tw_23 (q_cons tw_376 (q_cons tw_375 (q_cons tw_335 (q_cons tw_374 (q_cons tw_373 (q_cons tw_372 (q_cons tw_8 (q_cons tw_30 (q_cons tw_330 (q_cons tw_329 (q_cons tw_328 (q_cons tw_26 (q_cons tw_371 (q_cons tw_370 (q_cons tw_369 (q_cons tw_46 (q_cons tw_45 (q_cons tw_44 (q_cons tw_43 (q_cons tw_42 (q_cons tw_41 (q_cons tw_7 (q_cons tw_368 (q_cons tw_367 (q_cons tw_366 (q_cons tw_24 q_nil)))))))))))))))))))))))))))))))) (q_app tb_c_X6_sumUp (q_app tu_X8 (q_app tu_X6 (q_app tu_X9 (q_app tb_c_X8_putCarried (q_app tb_c_X10_multiply (q_app tb_c_X10_addTimesWide (q_app tb_c_X10_divide (q_app tb_c_X10_asLong q_nil))))))))))
set_option maxHeartbeats 4000000 in
set_option maxRecDepth 100000 in
theorem c_X6_enter (l : Launch) (dC : Nat → ClassId) (dI : Nat → Nat → Nat) (g : kG) (A : Nat → Prop) (hG : kWf g) (f : Nat → va_E) (h0 : Nat) (p1 : Nat) (i_h0 : ik g 6 h0) (i_p1 : ik g 8 p1) : Met l yX6_enter wq_c_X6_enter ({ frames := 3, cells := 0, slots := 0, locals := 68 } : Room) (va_Pc [.ref h0, .ref p1] (fun U => kIn dC dI g A f U)) (va_Qv (fun (_ : Unit) => True) (fun (_ : Unit) t => ∃ f1 : Nat → va_E, Iv dC dI g A f1 t.heap ∧ Kp g [8, 10] f f1) A) 0 0 A := by
  refine Met.ofW (cc := cX6_enter) (maxL := 4) (ret := none) (by decide) rfl ?_
  intro p e s m args below meth c s₁ B hml hv
  obtain ⟨rfl, hI, hK, hE⟩ := hv
  have hx := B.exec
  have hb := B.bytes
  have hr := B.returns
  have hts := atoms_spec (ws := wq_c_X6_enter) B.pre
  have hown : s.vm.findClass RX6 = some m.cls := findClass_of_methodNamed B.named
  have hlocks := B.notSynchronized
  have hS : va_S A s.heap s.heap [] := va_S.rf
  have hk0 : Kp g [8, 10] f f := Kp.rf
  have hl := lv_entry ([.ref h0, .ref p1]) (n := 4) (Nat.le_of_ble_eq_true rfl)
  rw [lg_entry_eq]
  generalize (lg_sl ([.ref h0, .ref p1]) ++ List.replicate (4 - (lg_sl ([.ref h0, .ref p1])).length) Slot.unset).toArray = ls at hl ⊢
  have hl : lv_has ls 4 [(0, .ref h0), (1, .ref p1)] := hl
  refine lv_aload_n hx hb dX6_enter_0 rfl (lv_at hl 0 rfl) ?_
  obtain ⟨x_2, x_3, x_4, x_5, x_6, k_1, b_7, b_8⟩ := op_6 hI i_h0
  refine va_calli (va_runV (As := []) (rest := []) ⟨hx, hb, hml, hown, hts⟩ (c_X6_sumUp l dC dI g A hG f h0 i_h0) (cwV 0 hts (gi_V (fun w_ h0_ => ⟨List.mem_cons_of_mem _ (List.mem_append_right _ (List.mem_append_left _ h0_)), (tb_c_X6_sumUp w_ h0_).2⟩) (List.mem_cons_of_mem _ (List.mem_append_left _ (List.mem_of_getElem? (i := 0) rfl))) (List.mem_cons_of_mem _ (List.mem_append_left _ (List.mem_of_getElem? (i := 1) rfl))) (List.mem_cons_of_mem _ (List.mem_append_left _ (List.mem_of_getElem? (i := 2) rfl))) (List.mem_cons_of_mem _ (List.mem_append_left _ (List.mem_of_getElem? (i := 3) rfl)))) rfl rfl rfl (by decide +kernel) ⟨Nat.le_of_ble_eq_true rfl, Nat.le_of_ble_eq_true rfl⟩) ⟨fun a U g mk q => ⟨q.1, q.2.calling rfl rfl⟩, k_recv hK hI i_h0.1 k_1 (ci := 6) rfl, fun U hU hW => ⟨rfl, kIn.of hI hK hE hS hU hW⟩⟩ rfl rfl hl.1 rfl (lv_room (Nat.le_of_ble_eq_true rfl)) dX6_enter_1 ⟨Nat.le_of_ble_eq_true rfl, Nat.le_of_ble_eq_true rfl⟩) hS (fun q _ h => h) (fun q h => h) (fun r_11 u t H1 locs ht hvm w_10 hB hz1 hk1 hS => ?_)
  obtain ⟨f_9, hI, kc_12⟩ := hB
  rw [ht] at hI
  have k_13 : f_9 h0 = .inr (6, [.ref (gr g h0 0), .ref (gr g h0 1), .ref (gr g h0 2), .ref (gr g h0 3), .ref (gr g h0 4), .int x_2, .int x_3, .long x_4, .int x_5, .int x_6]) := Kp.at kc_12 i_h0 (by decide) k_1
  have kp_14 := Kp.call hk0 kc_12 (by decide)
  generalize H1 = H at hI hS ⊢
  refine W.widen (k := 0) (n := 0) (Nat.le_of_ble_eq_true rfl) (Nat.le_of_ble_eq_true rfl) ?_
  refine lv_istore_n (lv' := [(2, .int r_11), (0, .ref h0), (1, .ref p1)]) hx hb dX6_enter_4 rfl hl (by decide) rfl (fun ls hl => ?_)
  refine lv_aload_n hx hb dX6_enter_5 rfl (lv_at hl 2 rfl) ?_
  obtain ⟨x_16, x_17, x_18, x_19, x_20, x_21, x_22, x_23, x_24, x_25, x_26, x_27, x_28, x_29, x_30, x_31, k_15⟩ := op_8 hI i_p1
  refine k_get (ci := 8) (v := .int x_22) (C := RX8) (T := TX8) (N := 18) hx hb hts (fun _ h0_ => List.mem_cons_of_mem _ (List.mem_append_right _ (List.mem_append_right _ (List.mem_append_left _ h0_)))) hown hK hI i_p1.1 k_15 rfl 8 (by decide) (hts (.fieldLink RX6 137 "DeadlineShare$Task" "lagWeight" "I") (List.mem_cons_of_mem _ (List.mem_append_left _ (List.mem_of_getElem? (i := 4) rfl)))) (fun _ h9 => h9) rfl dX6_enter_6 ?_
  refine lv_aload_n hx hb dX6_enter_9 rfl (lv_at hl 2 rfl) ?_
  refine k_get (ci := 8) (v := .int x_17) (C := RX8) (T := TX8) (N := 18) hx hb hts (fun _ h0_ => List.mem_cons_of_mem _ (List.mem_append_right _ (List.mem_append_right _ (List.mem_append_left _ h0_)))) hown hK hI i_p1.1 k_15 rfl 2 (by decide) (hts (.fieldLink RX6 72 "DeadlineShare$Task" "weight" "I") (List.mem_cons_of_mem _ (List.mem_append_left _ (List.mem_of_getElem? (i := 5) rfl)))) (fun _ h9 => h9) rfl dX6_enter_10 ?_
  refine lv_imul hx hb dX6_enter_13 ?_
  refine lv_topi (fun v_32 ev_32 => ?_)
  refine lv_istore_n (lv' := [(3, .int v_32), (2, .int r_11), (0, .ref h0), (1, .ref p1)]) hx hb dX6_enter_14 rfl hl (by decide) rfl (fun ls hl => ?_)
  refine lv_aload_n hx hb dX6_enter_15 rfl (lv_at hl 3 rfl) ?_
  refine lv_aload_n hx hb dX6_enter_16 rfl (lv_at hl 2 rfl) ?_
  refine k_get (ci := 6) (v := .ref (gr g h0 0)) (C := RX6) (T := TX6) (N := 10) hx hb hts (fun _ h0_ => List.mem_cons_of_mem _ (List.mem_append_right _ (List.mem_append_right _ (List.mem_append_right _ (List.mem_append_left _ h0_))))) hown hK hI i_h0.1 k_13 rfl 0 (by decide) (hts (.fieldLink RX6 41 "DeadlineShare$State" "terms" "LDeadlineShare$Terms;") (List.mem_cons_of_mem _ (List.mem_append_left _ (List.mem_of_getElem? (i := 6) rfl)))) (fun _ h9 => h9) rfl dX6_enter_17 ?_
  have i_34 := kw_6_0 hG i_h0
  obtain ⟨x_36, x_37, x_38, k_35⟩ := op_9 hI i_34
  refine k_get (ci := 9) (v := .int x_37) (C := RX9) (T := TX9) (N := 3) hx hb hts (fun _ h0_ => List.mem_cons_of_mem _ (List.mem_append_right _ (List.mem_append_right _ (List.mem_append_right _ (List.mem_append_right _ (List.mem_append_left _ h0_)))))) hown hK hI i_34.1 k_35 rfl 1 (by decide) (hts (.fieldLink RX6 140 "DeadlineShare$Terms" "carry" "I") (List.mem_cons_of_mem _ (List.mem_append_left _ (List.mem_of_getElem? (i := 7) rfl)))) (fun _ h9 => h9) rfl dX6_enter_20 ?_
  refine lv_aload_n hx hb dX6_enter_23 rfl (lv_at hl 2 rfl) ?_
  refine k_get (ci := 6) (v := .ref (gr g h0 4)) (C := RX6) (T := TX6) (N := 10) hx hb hts (fun _ h0_ => List.mem_cons_of_mem _ (List.mem_append_right _ (List.mem_append_right _ (List.mem_append_right _ (List.mem_append_left _ h0_))))) hown hK hI i_h0.1 k_13 rfl 4 (by decide) (hts (.fieldLink RX6 31 "DeadlineShare$State" "part" "LDeadlineShare$Wide;") (List.mem_cons_of_mem _ (List.mem_append_left _ (List.mem_of_getElem? (i := 8) rfl)))) (fun _ h9 => h9) rfl dX6_enter_24 ?_
  have i_40 := kw_6_4 hG i_h0
  refine va_callv (va_runV (As := [.int x_37, .ref (gr g h0 4)]) (rest := []) ⟨hx, hb, hml, hown, hts⟩ (c_X8_putCarried l dC dI g A hG f_9 p1 x_37 (gr g h0 4) i_p1 i_40) (cwV 2 hts (gi_V (fun w_ h0_ => ⟨List.mem_cons_of_mem _ (List.mem_append_right _ (List.mem_append_right _ (List.mem_append_right _ (List.mem_append_right _ (List.mem_append_right _ (List.mem_append_left _ h0_)))))), (tb_c_X8_putCarried w_ h0_).2⟩) (List.mem_cons_of_mem _ (List.mem_append_left _ (List.mem_of_getElem? (i := 9) rfl))) (List.mem_cons_of_mem _ (List.mem_append_left _ (List.mem_of_getElem? (i := 10) rfl))) (List.mem_cons_of_mem _ (List.mem_append_left _ (List.mem_of_getElem? (i := 11) rfl))) (List.mem_cons_of_mem _ (List.mem_append_left _ (List.mem_of_getElem? (i := 12) rfl)))) rfl rfl rfl (by decide +kernel) ⟨Nat.le_of_ble_eq_true rfl, Nat.le_of_ble_eq_true rfl⟩) ⟨fun a U g mk q => ⟨q.1, q.2.calling rfl rfl⟩, k_recv hK hI i_p1.1 k_15 (ci := 8) rfl, fun U hU hW => ⟨rfl, kIn.of hI hK hE hS hU hW⟩⟩ rfl rfl hl.1 rfl (lv_room (Nat.le_of_ble_eq_true rfl)) dX6_enter_27 ⟨Nat.le_of_ble_eq_true rfl, Nat.le_of_ble_eq_true rfl⟩) hS (fun q _ h => h) (fun q h => h) (fun u t H1 locs ht hvm _ hB hz1 hk1 hS => ?_)
  obtain ⟨f_41, hI, kc_43⟩ := hB
  rw [ht] at hI
  have k_44 : f_41 h0 = .inr (6, [.ref (gr g h0 0), .ref (gr g h0 1), .ref (gr g h0 2), .ref (gr g h0 3), .ref (gr g h0 4), .int x_2, .int x_3, .long x_4, .int x_5, .int x_6]) := Kp.at kc_43 i_h0 (by decide) k_13
  have k_45 : f_41 p1 = .inr (8, [.int x_16, .ref (gr g p1 1), .int x_17, .int x_18, .int x_19, .long x_20, .int x_21, .ref (gr g p1 7), .int x_22, .int x_23, .int x_24, .int x_25, .int x_26, .int x_27, .int x_28, .int x_29, .int x_30, .int x_31]) := Kp.at kc_43 i_p1 (by decide) k_15
  have k_46 : f_41 (gr g h0 0) = .inr (9, [.int x_36, .int x_37, .int x_38]) := Kp.at kc_43 i_34 (by decide) k_35
  have kp_47 := Kp.call kp_14 kc_43 (by decide)
  generalize H1 = H at hI hS ⊢
  refine W.widen (k := 0) (n := 0) (Nat.le_of_ble_eq_true rfl) (Nat.le_of_ble_eq_true rfl) ?_
  refine lv_aload_n hx hb dX6_enter_30 rfl (lv_at hl 2 rfl) ?_
  refine k_get (ci := 6) (v := .ref (gr g h0 3)) (C := RX6) (T := TX6) (N := 10) hx hb hts (fun _ h0_ => List.mem_cons_of_mem _ (List.mem_append_right _ (List.mem_append_right _ (List.mem_append_right _ (List.mem_append_left _ h0_))))) hown hK hI i_h0.1 k_44 rfl 3 (by decide) (hts (.fieldLink RX6 27 "DeadlineShare$State" "sum" "LDeadlineShare$Wide;") (List.mem_cons_of_mem _ (List.mem_append_left _ (List.mem_of_getElem? (i := 13) rfl)))) (fun _ h9 => h9) rfl dX6_enter_31 ?_
  have i_49 := kw_6_3 hG i_h0
  refine lv_iload_n hx hb dX6_enter_34 rfl (lv_at hl 0 rfl) ?_
  refine lv_i2l (v := v_32.toInt64) hx hb dX6_enter_35 rfl ?_
  have t_50 := Int32.toInt_toInt64 v_32
  obtain ⟨x_52, x_53, k_51⟩ := op_10 hI i_49
  refine va_callv (va_runV (As := [.long v_32.toInt64]) (rest := []) ⟨hx, hb, hml, hown, hts⟩ (c_X10_multiply l dC dI g A hG f_41 (gr g h0 3) v_32.toInt64 i_49) (cwV 1 hts (gi_V (fun w_ h0_ => ⟨List.mem_cons_of_mem _ (List.mem_append_right _ (List.mem_append_right _ (List.mem_append_right _ (List.mem_append_right _ (List.mem_append_right _ (List.mem_append_right _ (List.mem_append_left _ h0_))))))), (tb_c_X10_multiply w_ h0_).2⟩) (List.mem_cons_of_mem _ (List.mem_append_left _ (List.mem_of_getElem? (i := 14) rfl))) (List.mem_cons_of_mem _ (List.mem_append_left _ (List.mem_of_getElem? (i := 15) rfl))) (List.mem_cons_of_mem _ (List.mem_append_left _ (List.mem_of_getElem? (i := 16) rfl))) (List.mem_cons_of_mem _ (List.mem_append_left _ (List.mem_of_getElem? (i := 17) rfl)))) rfl rfl rfl (by decide +kernel) ⟨Nat.le_of_ble_eq_true rfl, Nat.le_of_ble_eq_true rfl⟩) ⟨fun a U g mk q => ⟨q.1, q.2.calling rfl rfl⟩, k_recv hK hI i_49.1 k_51 (ci := 10) rfl, fun U hU hW => ⟨rfl, kIn.of hI hK hE hS hU hW⟩⟩ rfl rfl hl.1 rfl (lv_room (Nat.le_of_ble_eq_true rfl)) dX6_enter_36 ⟨Nat.le_of_ble_eq_true rfl, Nat.le_of_ble_eq_true rfl⟩) hS (fun q _ h => h) (fun q h => h) (fun u t H1 locs ht hvm _ hB hz1 hk1 hS => ?_)
  obtain ⟨f_54, hI, kc_56⟩ := hB
  rw [ht] at hI
  have k_57 : f_54 h0 = .inr (6, [.ref (gr g h0 0), .ref (gr g h0 1), .ref (gr g h0 2), .ref (gr g h0 3), .ref (gr g h0 4), .int x_2, .int x_3, .long x_4, .int x_5, .int x_6]) := Kp.at kc_56 i_h0 (by decide) k_44
  have k_58 : f_54 p1 = .inr (8, [.int x_16, .ref (gr g p1 1), .int x_17, .int x_18, .int x_19, .long x_20, .int x_21, .ref (gr g p1 7), .int x_22, .int x_23, .int x_24, .int x_25, .int x_26, .int x_27, .int x_28, .int x_29, .int x_30, .int x_31]) := Kp.at kc_56 i_p1 (by decide) k_45
  have k_59 : f_54 (gr g h0 0) = .inr (9, [.int x_36, .int x_37, .int x_38]) := Kp.at kc_56 i_34 (by decide) k_46
  have kp_60 := Kp.call kp_47 kc_56 (by decide)
  generalize H1 = H at hI hS ⊢
  refine W.widen (k := 0) (n := 0) (Nat.le_of_ble_eq_true rfl) (Nat.le_of_ble_eq_true rfl) ?_
  refine lv_aload_n hx hb dX6_enter_39 rfl (lv_at hl 2 rfl) ?_
  refine k_get (ci := 6) (v := .ref (gr g h0 3)) (C := RX6) (T := TX6) (N := 10) hx hb hts (fun _ h0_ => List.mem_cons_of_mem _ (List.mem_append_right _ (List.mem_append_right _ (List.mem_append_right _ (List.mem_append_left _ h0_))))) hown hK hI i_h0.1 k_57 rfl 3 (by decide) (hts (.fieldLink RX6 27 "DeadlineShare$State" "sum" "LDeadlineShare$Wide;") (List.mem_cons_of_mem _ (List.mem_append_left _ (List.mem_of_getElem? (i := 13) rfl)))) (fun _ h9 => h9) rfl dX6_enter_40 ?_
  refine lv_iload_n hx hb dX6_enter_43 rfl (lv_at hl 1 rfl) ?_
  refine lv_ineg hx hb dX6_enter_44 ?_
  refine lv_topi (fun v_63 ev_63 => ?_)
  refine lv_i2l (v := v_63.toInt64) hx hb dX6_enter_45 rfl ?_
  have t_64 := Int32.toInt_toInt64 v_63
  refine lv_aload_n hx hb dX6_enter_46 rfl (lv_at hl 2 rfl) ?_
  refine k_get (ci := 6) (v := .ref (gr g h0 4)) (C := RX6) (T := TX6) (N := 10) hx hb hts (fun _ h0_ => List.mem_cons_of_mem _ (List.mem_append_right _ (List.mem_append_right _ (List.mem_append_right _ (List.mem_append_left _ h0_))))) hown hK hI i_h0.1 k_57 rfl 4 (by decide) (hts (.fieldLink RX6 31 "DeadlineShare$State" "part" "LDeadlineShare$Wide;") (List.mem_cons_of_mem _ (List.mem_append_left _ (List.mem_of_getElem? (i := 8) rfl)))) (fun _ h9 => h9) rfl dX6_enter_47 ?_
  obtain ⟨x_68, x_69, k_67⟩ := op_10 hI i_49
  refine va_callv (va_runV (As := [.long v_63.toInt64, .ref (gr g h0 4)]) (rest := []) ⟨hx, hb, hml, hown, hts⟩ (c_X10_addTimesWide l dC dI g A hG f_54 (gr g h0 3) v_63.toInt64 (gr g h0 4) i_49 i_40) (cwV 2 hts (gi_V (fun w_ h0_ => ⟨List.mem_cons_of_mem _ (List.mem_append_right _ (List.mem_append_right _ (List.mem_append_right _ (List.mem_append_right _ (List.mem_append_right _ (List.mem_append_right _ (List.mem_append_right _ (List.mem_append_left _ h0_)))))))), (tb_c_X10_addTimesWide w_ h0_).2⟩) (List.mem_cons_of_mem _ (List.mem_append_left _ (List.mem_of_getElem? (i := 18) rfl))) (List.mem_cons_of_mem _ (List.mem_append_left _ (List.mem_of_getElem? (i := 19) rfl))) (List.mem_cons_of_mem _ (List.mem_append_left _ (List.mem_of_getElem? (i := 20) rfl))) (List.mem_cons_of_mem _ (List.mem_append_left _ (List.mem_of_getElem? (i := 17) rfl)))) rfl rfl rfl (by decide +kernel) ⟨Nat.le_of_ble_eq_true rfl, Nat.le_of_ble_eq_true rfl⟩) ⟨fun a U g mk q => ⟨q.1, q.2.calling rfl rfl⟩, k_recv hK hI i_49.1 k_67 (ci := 10) rfl, fun U hU hW => ⟨rfl, kIn.of hI hK hE hS hU hW⟩⟩ rfl rfl hl.1 rfl (lv_room (Nat.le_of_ble_eq_true rfl)) dX6_enter_50 ⟨Nat.le_of_ble_eq_true rfl, Nat.le_of_ble_eq_true rfl⟩) hS (fun q _ h => h) (fun q h => h) (fun u t H1 locs ht hvm _ hB hz1 hk1 hS => ?_)
  obtain ⟨f_70, hI, kc_72⟩ := hB
  rw [ht] at hI
  have k_73 : f_70 h0 = .inr (6, [.ref (gr g h0 0), .ref (gr g h0 1), .ref (gr g h0 2), .ref (gr g h0 3), .ref (gr g h0 4), .int x_2, .int x_3, .long x_4, .int x_5, .int x_6]) := Kp.at kc_72 i_h0 (by decide) k_57
  have k_74 : f_70 p1 = .inr (8, [.int x_16, .ref (gr g p1 1), .int x_17, .int x_18, .int x_19, .long x_20, .int x_21, .ref (gr g p1 7), .int x_22, .int x_23, .int x_24, .int x_25, .int x_26, .int x_27, .int x_28, .int x_29, .int x_30, .int x_31]) := Kp.at kc_72 i_p1 (by decide) k_58
  have k_75 : f_70 (gr g h0 0) = .inr (9, [.int x_36, .int x_37, .int x_38]) := Kp.at kc_72 i_34 (by decide) k_59
  have kp_76 := Kp.call kp_60 kc_72 (by decide)
  generalize H1 = H at hI hS ⊢
  refine W.widen (k := 0) (n := 0) (Nat.le_of_ble_eq_true rfl) (Nat.le_of_ble_eq_true rfl) ?_
  refine lv_aload_n hx hb dX6_enter_53 rfl (lv_at hl 2 rfl) ?_
  refine k_get (ci := 6) (v := .ref (gr g h0 3)) (C := RX6) (T := TX6) (N := 10) hx hb hts (fun _ h0_ => List.mem_cons_of_mem _ (List.mem_append_right _ (List.mem_append_right _ (List.mem_append_right _ (List.mem_append_left _ h0_))))) hown hK hI i_h0.1 k_73 rfl 3 (by decide) (hts (.fieldLink RX6 27 "DeadlineShare$State" "sum" "LDeadlineShare$Wide;") (List.mem_cons_of_mem _ (List.mem_append_left _ (List.mem_of_getElem? (i := 13) rfl)))) (fun _ h9 => h9) rfl dX6_enter_54 ?_
  refine lv_iload_n hx hb dX6_enter_57 rfl (lv_at hl 1 rfl) ?_
  refine lv_iload_n hx hb dX6_enter_58 rfl (lv_at hl 0 rfl) ?_
  refine lv_imul hx hb dX6_enter_59 ?_
  refine lv_topi (fun v_79 ev_79 => ?_)
  refine lv_i2l (v := v_79.toInt64) hx hb dX6_enter_60 rfl ?_
  have t_80 := Int32.toInt_toInt64 v_79
  obtain ⟨x_82, x_83, k_81⟩ := op_10 hI i_49
  refine va_callv (va_runV (As := [.long v_79.toInt64]) (rest := []) ⟨hx, hb, hml, hown, hts⟩ (c_X10_divide l dC dI g A hG f_70 (gr g h0 3) v_79.toInt64 i_49) (cwV 1 hts (gi_V (fun w_ h0_ => ⟨List.mem_cons_of_mem _ (List.mem_append_right _ (List.mem_append_right _ (List.mem_append_right _ (List.mem_append_right _ (List.mem_append_right _ (List.mem_append_right _ (List.mem_append_right _ (List.mem_append_right _ (List.mem_append_left _ h0_))))))))), (tb_c_X10_divide w_ h0_).2⟩) (List.mem_cons_of_mem _ (List.mem_append_left _ (List.mem_of_getElem? (i := 21) rfl))) (List.mem_cons_of_mem _ (List.mem_append_left _ (List.mem_of_getElem? (i := 22) rfl))) (List.mem_cons_of_mem _ (List.mem_append_left _ (List.mem_of_getElem? (i := 23) rfl))) (List.mem_cons_of_mem _ (List.mem_append_left _ (List.mem_of_getElem? (i := 17) rfl)))) rfl rfl rfl (by decide +kernel) ⟨Nat.le_of_ble_eq_true rfl, Nat.le_of_ble_eq_true rfl⟩) ⟨fun a U g mk q => ⟨q.1, q.2.calling rfl rfl⟩, k_recv hK hI i_49.1 k_81 (ci := 10) rfl, fun U hU hW => ⟨rfl, kIn.of hI hK hE hS hU hW⟩⟩ rfl rfl hl.1 rfl (lv_room (Nat.le_of_ble_eq_true rfl)) dX6_enter_61 ⟨Nat.le_of_ble_eq_true rfl, Nat.le_of_ble_eq_true rfl⟩) hS (fun q _ h => h) (fun q h => h) (fun u t H1 locs ht hvm _ hB hz1 hk1 hS => ?_)
  obtain ⟨f_84, hI, kc_86⟩ := hB
  rw [ht] at hI
  have k_87 : f_84 h0 = .inr (6, [.ref (gr g h0 0), .ref (gr g h0 1), .ref (gr g h0 2), .ref (gr g h0 3), .ref (gr g h0 4), .int x_2, .int x_3, .long x_4, .int x_5, .int x_6]) := Kp.at kc_86 i_h0 (by decide) k_73
  have k_88 : f_84 p1 = .inr (8, [.int x_16, .ref (gr g p1 1), .int x_17, .int x_18, .int x_19, .long x_20, .int x_21, .ref (gr g p1 7), .int x_22, .int x_23, .int x_24, .int x_25, .int x_26, .int x_27, .int x_28, .int x_29, .int x_30, .int x_31]) := Kp.at kc_86 i_p1 (by decide) k_74
  have k_89 : f_84 (gr g h0 0) = .inr (9, [.int x_36, .int x_37, .int x_38]) := Kp.at kc_86 i_34 (by decide) k_75
  have kp_90 := Kp.call kp_76 kc_86 (by decide)
  generalize H1 = H at hI hS ⊢
  refine W.widen (k := 0) (n := 0) (Nat.le_of_ble_eq_true rfl) (Nat.le_of_ble_eq_true rfl) ?_
  refine lv_aload_n hx hb dX6_enter_64 rfl (lv_at hl 3 rfl) ?_
  refine lv_aload_n hx hb dX6_enter_65 rfl (lv_at hl 2 rfl) ?_
  refine k_get (ci := 6) (v := .ref (gr g h0 3)) (C := RX6) (T := TX6) (N := 10) hx hb hts (fun _ h0_ => List.mem_cons_of_mem _ (List.mem_append_right _ (List.mem_append_right _ (List.mem_append_right _ (List.mem_append_left _ h0_))))) hown hK hI i_h0.1 k_87 rfl 3 (by decide) (hts (.fieldLink RX6 27 "DeadlineShare$State" "sum" "LDeadlineShare$Wide;") (List.mem_cons_of_mem _ (List.mem_append_left _ (List.mem_of_getElem? (i := 13) rfl)))) (fun _ h9 => h9) rfl dX6_enter_66 ?_
  obtain ⟨x_94, x_95, k_93⟩ := op_10 hI i_49
  refine va_calll (va_runV (As := []) (rest := [.ref p1]) ⟨hx, hb, hml, hown, hts⟩ (c_X10_asLong l dC dI g A hG f_84 (gr g h0 3) i_49) (cwV 0 hts (gi_V (fun w_ h0_ => ⟨List.mem_cons_of_mem _ (List.mem_append_right _ (List.mem_append_right _ (List.mem_append_right _ (List.mem_append_right _ (List.mem_append_right _ (List.mem_append_right _ (List.mem_append_right _ (List.mem_append_right _ (List.mem_append_right _ (List.mem_append_left _ h0_)))))))))), (tb_c_X10_asLong w_ h0_).2⟩) (List.mem_cons_of_mem _ (List.mem_append_left _ (List.mem_of_getElem? (i := 24) rfl))) (List.mem_cons_of_mem _ (List.mem_append_left _ (List.mem_of_getElem? (i := 25) rfl))) (List.mem_cons_of_mem _ (List.mem_append_left _ (List.mem_of_getElem? (i := 26) rfl))) (List.mem_cons_of_mem _ (List.mem_append_left _ (List.mem_of_getElem? (i := 17) rfl)))) rfl rfl rfl (by decide +kernel) ⟨Nat.le_of_ble_eq_true rfl, Nat.le_of_ble_eq_true rfl⟩) ⟨fun a U g mk q => ⟨q.1, q.2.calling rfl rfl⟩, k_recv hK hI i_49.1 k_93 (ci := 10) rfl, fun U hU hW => ⟨rfl, kIn.of hI hK hE hS hU hW⟩⟩ rfl rfl hl.1 rfl (lv_room (Nat.le_of_ble_eq_true rfl)) dX6_enter_69 ⟨Nat.le_of_ble_eq_true rfl, Nat.le_of_ble_eq_true rfl⟩) hS (fun q _ h => h) (fun q h => h) (fun r_97 u t H1 locs ht hvm w_96 hB hz1 hk1 hS => ?_)
  have hI : Iv dC dI g A f_84 t.heap := hB
  rw [ht] at hI
  generalize H1 = H at hI hS ⊢
  refine W.widen (k := 0) (n := 0) (Nat.le_of_ble_eq_true rfl) (Nat.le_of_ble_eq_true rfl) ?_
  refine k_put (ci := 8) (v := .long r_97) (ty := .long) (C := RX8) (T := TX8) (N := 18) hx hb hts (fun _ h0_ => List.mem_cons_of_mem _ (List.mem_append_right _ (List.mem_append_right _ (List.mem_append_left _ h0_)))) tyX8 tyX8_ok nmX8 hown hK hI hS i_p1.1 k_88 rfl 5 (by decide) (hts (.fieldLink RX6 79 "DeadlineShare$Task" "v" "J") (List.mem_cons_of_mem _ (List.mem_append_left _ (List.mem_of_getElem? (i := 27) rfl)))) (fun _ h9 => h9) rfl (by decide +kernel) rfl rfl (Nat.le_of_ble_eq_true rfl) rfl (cl_8 i_p1) dX6_enter_72 (fun f_98 H locs e_99 hI hS => ?_)
  have k_101 : f_98 h0 = .inr (6, [.ref (gr g h0 0), .ref (gr g h0 1), .ref (gr g h0 2), .ref (gr g h0 3), .ref (gr g h0 4), .int x_2, .int x_3, .long x_4, .int x_5, .int x_6]) := by rw [e_99, va_up_ne _ _ (ik_ne i_h0 i_p1 (by decide))]; exact k_87
  have k_102 : f_98 p1 = .inr (8, [.int x_16, .ref (gr g p1 1), .int x_17, .int x_18, .int x_19, .long r_97, .int x_21, .ref (gr g p1 7), .int x_22, .int x_23, .int x_24, .int x_25, .int x_26, .int x_27, .int x_28, .int x_29, .int x_30, .int x_31]) := by rw [e_99]; exact va_up_self _ _ _
  have k_103 : f_98 (gr g h0 0) = .inr (9, [.int x_36, .int x_37, .int x_38]) := by rw [e_99, va_up_ne _ _ (ik_ne i_34 i_p1 (by decide))]; exact k_89
  have k_104 : f_98 (gr g h0 3) = .inr (10, [.long x_94, .long x_95]) := by rw [e_99, va_up_ne _ _ (ik_ne i_49 i_p1 (by decide))]; exact k_93
  have kp_100 := Kp.put kp_90 i_p1 (by decide) e_99
  refine lv_aload_n hx hb dX6_enter_75 rfl (lv_at hl 3 rfl) ?_
  refine lv_aload_n hx hb dX6_enter_76 rfl (lv_at hl 3 rfl) ?_
  refine k_get (ci := 8) (v := .int x_18) (C := RX8) (T := TX8) (N := 18) hx hb hts (fun _ h0_ => List.mem_cons_of_mem _ (List.mem_append_right _ (List.mem_append_right _ (List.mem_append_left _ h0_)))) hown hK hI i_p1.1 k_102 rfl 3 (by decide) (hts (.fieldLink RX6 153 "DeadlineShare$Task" "slice" "I") (List.mem_cons_of_mem _ (List.mem_append_left _ (List.mem_of_getElem? (i := 28) rfl)))) (fun _ h9 => h9) rfl dX6_enter_77 ?_
  refine k_put (ci := 8) (v := .int x_18) (ty := .int) (C := RX8) (T := TX8) (N := 18) hx hb hts (fun _ h0_ => List.mem_cons_of_mem _ (List.mem_append_right _ (List.mem_append_right _ (List.mem_append_left _ h0_)))) tyX8 tyX8_ok nmX8 hown hK hI hS i_p1.1 k_102 rfl 6 (by decide) (hts (.fieldLink RX6 156 "DeadlineShare$Task" "left" "I") (List.mem_cons_of_mem _ (List.mem_append_left _ (List.mem_of_getElem? (i := 29) rfl)))) (fun _ h9 => h9) rfl (by decide +kernel) rfl rfl (Nat.le_of_ble_eq_true rfl) rfl (cl_8 i_p1) dX6_enter_80 (fun f_105 H locs e_106 hI hS => ?_)
  have k_108 : f_105 h0 = .inr (6, [.ref (gr g h0 0), .ref (gr g h0 1), .ref (gr g h0 2), .ref (gr g h0 3), .ref (gr g h0 4), .int x_2, .int x_3, .long x_4, .int x_5, .int x_6]) := by rw [e_106, va_up_ne _ _ (ik_ne i_h0 i_p1 (by decide))]; exact k_101
  have k_109 : f_105 p1 = .inr (8, [.int x_16, .ref (gr g p1 1), .int x_17, .int x_18, .int x_19, .long r_97, .int x_18, .ref (gr g p1 7), .int x_22, .int x_23, .int x_24, .int x_25, .int x_26, .int x_27, .int x_28, .int x_29, .int x_30, .int x_31]) := by rw [e_106]; exact va_up_self _ _ _
  have k_110 : f_105 (gr g h0 0) = .inr (9, [.int x_36, .int x_37, .int x_38]) := by rw [e_106, va_up_ne _ _ (ik_ne i_34 i_p1 (by decide))]; exact k_103
  have k_111 : f_105 (gr g h0 3) = .inr (10, [.long x_94, .long x_95]) := by rw [e_106, va_up_ne _ _ (ik_ne i_49 i_p1 (by decide))]; exact k_104
  have kp_107 := Kp.put kp_100 i_p1 (by decide) e_106
  refine lv_aload_n hx hb dX6_enter_83 rfl (lv_at hl 3 rfl) ?_
  refine lv_iconst (v := 0) hx hb dX6_enter_84 (by decide) ?_
  refine k_put (ci := 8) (v := .int 0) (ty := .int) (C := RX8) (T := TX8) (N := 18) hx hb hts (fun _ h0_ => List.mem_cons_of_mem _ (List.mem_append_right _ (List.mem_append_right _ (List.mem_append_left _ h0_)))) tyX8 tyX8_ok nmX8 hown hK hI hS i_p1.1 k_109 rfl 12 (by decide) (hts (.fieldLink RX6 159 "DeadlineShare$Task" "wait" "I") (List.mem_cons_of_mem _ (List.mem_append_left _ (List.mem_of_getElem? (i := 30) rfl)))) (fun _ h9 => h9) rfl (by decide +kernel) rfl rfl (Nat.le_of_ble_eq_true rfl) rfl (cl_8 i_p1) dX6_enter_85 (fun f_112 H locs e_113 hI hS => ?_)
  have k_115 : f_112 h0 = .inr (6, [.ref (gr g h0 0), .ref (gr g h0 1), .ref (gr g h0 2), .ref (gr g h0 3), .ref (gr g h0 4), .int x_2, .int x_3, .long x_4, .int x_5, .int x_6]) := by rw [e_113, va_up_ne _ _ (ik_ne i_h0 i_p1 (by decide))]; exact k_108
  have k_116 : f_112 p1 = .inr (8, [.int x_16, .ref (gr g p1 1), .int x_17, .int x_18, .int x_19, .long r_97, .int x_18, .ref (gr g p1 7), .int x_22, .int x_23, .int x_24, .int x_25, .int 0, .int x_27, .int x_28, .int x_29, .int x_30, .int x_31]) := by rw [e_113]; exact va_up_self _ _ _
  have k_117 : f_112 (gr g h0 0) = .inr (9, [.int x_36, .int x_37, .int x_38]) := by rw [e_113, va_up_ne _ _ (ik_ne i_34 i_p1 (by decide))]; exact k_110
  have k_118 : f_112 (gr g h0 3) = .inr (10, [.long x_94, .long x_95]) := by rw [e_113, va_up_ne _ _ (ik_ne i_49 i_p1 (by decide))]; exact k_111
  have kp_114 := Kp.put kp_107 i_p1 (by decide) e_113
  refine lv_aload_n hx hb dX6_enter_88 rfl (lv_at hl 3 rfl) ?_
  refine lv_iconst (v := 1) hx hb dX6_enter_89 (by decide) ?_
  refine k_put (ci := 8) (v := .int 1) (ty := .int) (C := RX8) (T := TX8) (N := 18) hx hb hts (fun _ h0_ => List.mem_cons_of_mem _ (List.mem_append_right _ (List.mem_append_right _ (List.mem_append_left _ h0_)))) tyX8 tyX8_ok nmX8 hown hK hI hS i_p1.1 k_116 rfl 4 (by decide) (hts (.fieldLink RX6 69 "DeadlineShare$Task" "state" "I") (List.mem_cons_of_mem _ (List.mem_append_left _ (List.mem_of_getElem? (i := 31) rfl)))) (fun _ h9 => h9) rfl (by decide +kernel) rfl rfl (Nat.le_of_ble_eq_true rfl) rfl (cl_8 i_p1) dX6_enter_90 (fun f_119 H locs e_120 hI hS => ?_)
  have k_122 : f_119 h0 = .inr (6, [.ref (gr g h0 0), .ref (gr g h0 1), .ref (gr g h0 2), .ref (gr g h0 3), .ref (gr g h0 4), .int x_2, .int x_3, .long x_4, .int x_5, .int x_6]) := by rw [e_120, va_up_ne _ _ (ik_ne i_h0 i_p1 (by decide))]; exact k_115
  have k_123 : f_119 p1 = .inr (8, [.int x_16, .ref (gr g p1 1), .int x_17, .int x_18, .int 1, .long r_97, .int x_18, .ref (gr g p1 7), .int x_22, .int x_23, .int x_24, .int x_25, .int 0, .int x_27, .int x_28, .int x_29, .int x_30, .int x_31]) := by rw [e_120]; exact va_up_self _ _ _
  have k_124 : f_119 (gr g h0 0) = .inr (9, [.int x_36, .int x_37, .int x_38]) := by rw [e_120, va_up_ne _ _ (ik_ne i_34 i_p1 (by decide))]; exact k_117
  have k_125 : f_119 (gr g h0 3) = .inr (10, [.long x_94, .long x_95]) := by rw [e_120, va_up_ne _ _ (ik_ne i_49 i_p1 (by decide))]; exact k_118
  have kp_121 := Kp.put kp_114 i_p1 (by decide) e_120
  exact W.vret hx hb hr (fun t ht hW => ⟨⟨(), rfl, trivial, ⟨f_119, k_ret ht hI, kp_121⟩⟩, hS.F ht⟩) hS.2.2 dX6_enter_93
theorem tw_379 : q_g (.fieldLink RX6 165 "DeadlineShare$Task" "number" "I") := ⟨(List.mem_append_right _ (List.mem_of_getElem? (i := 150) (by decide +kernel))), good_of_word (by decide +kernel)⟩
theorem tw_380 : q_g (.fieldLink RX6 162 "DeadlineShare$Task" "lag" "LDeadlineShare$Wide;") := ⟨(List.mem_append_right _ (List.mem_of_getElem? (i := 170) (by decide +kernel))), good_of_word (by decide +kernel)⟩
theorem tw_381 : q_g (.code yX6_depart cX6_depart 3 none) := ⟨(List.mem_append_right _ (List.mem_of_getElem? (i := 557) (by decide +kernel))), good_of_word (by decide +kernel)⟩
def ow_c_X6_depart : List Cond := [.fieldLink RX6 162 "DeadlineShare$Task" "lag" "LDeadlineShare$Wide;", .methodLink RX6 104 yX6_putLag, .instanceMethod yX6_putLag, .selects RX6 yX6_putLag yX6_putLag, .initialized RX6, .methodLink RX6 108 yX6_weightOfAll, .instanceMethod yX6_weightOfAll, .selects RX6 yX6_weightOfAll yX6_weightOfAll, .fieldLink RX6 137 "DeadlineShare$Task" "lagWeight" "I", .fieldLink RX6 72 "DeadlineShare$Task" "weight" "I", .fieldLink RX6 69 "DeadlineShare$Task" "state" "I", .fieldLink RX6 38 "DeadlineShare$State" "holder" "I", .fieldLink RX6 165 "DeadlineShare$Task" "number" "I", .fieldLink RX6 79 "DeadlineShare$Task" "v" "J", .fieldLink RX6 61 "DeadlineShare$State" "rest" "J"]
def wq_c_X6_depart : List Cond := .code yX6_depart cX6_depart 3 none :: (ow_c_X6_depart ++ (u_ws RX8 TX8 18 ++ (wq_c_X6_putLag ++ (wq_c_X6_weightOfAll ++ (u_ws RX6 TX6 10 ++ ([] : List Cond))))))
theorem tb_c_X6_depart : ∀ w ∈ wq_c_X6_depart, q_g w := by
  unfold wq_c_X6_depart ow_c_X6_depart
  exact q_cons tw_381 (q_app (q_cons tw_380 (q_cons tw_334 (q_cons tw_333 (q_cons tw_332 (q_cons tw_47 (q_cons tw_343 (q_cons tw_88 (q_cons tw_87 (q_cons tw_377 (q_cons tw_23 (q_cons tw_24 (q_cons tw_145 (q_cons tw_379 (q_cons tw_7 (q_cons tw_25 q_nil))))))))))))))) (q_app tu_X8 (q_app tb_c_X6_putLag (q_app tb_c_X6_weightOfAll (q_app tu_X6 q_nil)))))
set_option maxHeartbeats 4000000 in
set_option maxRecDepth 100000 in
theorem c_X6_depart (l : Launch) (dC : Nat → ClassId) (dI : Nat → Nat → Nat) (g : kG) (A : Nat → Prop) (hG : kWf g) (f : Nat → va_E) (h0 : Nat) (p1 : Nat) (p2 : Int32) (i_h0 : ik g 6 h0) (i_p1 : ik g 8 p1) : Met l yX6_depart wq_c_X6_depart ({ frames := 2, cells := 0, slots := 0, locals := 49 } : Room) (va_Pc [.ref h0, .ref p1, .int p2] (fun U => kIn dC dI g A f U)) (va_Qv (fun (_ : Unit) => True) (fun (_ : Unit) t => ∃ f1 : Nat → va_E, Iv dC dI g A f1 t.heap ∧ Kp g [6, 8, 10] f f1) A) 0 0 A := by
  refine Met.ofW (cc := cX6_depart) (maxL := 3) (ret := none) (by decide) rfl ?_
  intro p e s m args below meth c s₁ B hml hv
  obtain ⟨rfl, hI, hK, hE⟩ := hv
  have hx := B.exec
  have hb := B.bytes
  have hr := B.returns
  have hts := atoms_spec (ws := wq_c_X6_depart) B.pre
  have hown : s.vm.findClass RX6 = some m.cls := findClass_of_methodNamed B.named
  have hlocks := B.notSynchronized
  have hS : va_S A s.heap s.heap [] := va_S.rf
  have hk0 : Kp g [6, 8, 10] f f := Kp.rf
  have hl := lv_entry ([.ref h0, .ref p1, .int p2]) (n := 3) (Nat.le_of_ble_eq_true rfl)
  rw [lg_entry_eq]
  generalize (lg_sl ([.ref h0, .ref p1, .int p2]) ++ List.replicate (3 - (lg_sl ([.ref h0, .ref p1, .int p2])).length) Slot.unset).toArray = ls at hl ⊢
  have hl : lv_has ls 3 [(0, .ref h0), (1, .ref p1), (2, .int p2)] := hl
  refine lv_aload_n hx hb dX6_depart_0 rfl (lv_at hl 0 rfl) ?_
  refine lv_aload_n hx hb dX6_depart_1 rfl (lv_at hl 1 rfl) ?_
  refine lv_aload_n hx hb dX6_depart_2 rfl (lv_at hl 1 rfl) ?_
  obtain ⟨x_2, x_3, x_4, x_5, x_6, x_7, x_8, x_9, x_10, x_11, x_12, x_13, x_14, x_15, x_16, x_17, k_1⟩ := op_8 hI i_p1
  refine k_get (ci := 8) (v := .ref (gr g p1 7)) (C := RX8) (T := TX8) (N := 18) hx hb hts (fun _ h0_ => List.mem_cons_of_mem _ (List.mem_append_right _ (List.mem_append_left _ h0_))) hown hK hI i_p1.1 k_1 rfl 7 (by decide) (hts (.fieldLink RX6 162 "DeadlineShare$Task" "lag" "LDeadlineShare$Wide;") (List.mem_cons_of_mem _ (List.mem_append_left _ (List.mem_of_getElem? (i := 0) rfl)))) (fun _ h9 => h9) rfl dX6_depart_3 ?_
  have i_19 := kw_8_7 hG i_p1
  obtain ⟨x_21, x_22, x_23, x_24, x_25, k_20, b_26, b_27⟩ := op_6 hI i_h0
  refine va_callv (va_runV (As := [.ref p1, .ref (gr g p1 7)]) (rest := []) ⟨hx, hb, hml, hown, hts⟩ (c_X6_putLag l dC dI g A hG f h0 p1 (gr g p1 7) i_h0 i_p1 i_19) (cwV 2 hts (gi_V (fun w_ h0_ => ⟨List.mem_cons_of_mem _ (List.mem_append_right _ (List.mem_append_right _ (List.mem_append_left _ h0_))), (tb_c_X6_putLag w_ h0_).2⟩) (List.mem_cons_of_mem _ (List.mem_append_left _ (List.mem_of_getElem? (i := 1) rfl))) (List.mem_cons_of_mem _ (List.mem_append_left _ (List.mem_of_getElem? (i := 2) rfl))) (List.mem_cons_of_mem _ (List.mem_append_left _ (List.mem_of_getElem? (i := 3) rfl))) (List.mem_cons_of_mem _ (List.mem_append_left _ (List.mem_of_getElem? (i := 4) rfl)))) rfl rfl rfl (by decide +kernel) ⟨Nat.le_of_ble_eq_true rfl, Nat.le_of_ble_eq_true rfl⟩) ⟨fun a U g mk q => ⟨q.1, q.2.calling rfl rfl⟩, k_recv hK hI i_h0.1 k_20 (ci := 6) rfl, fun U hU hW => ⟨rfl, kIn.of hI hK hE hS hU hW⟩⟩ rfl rfl hl.1 rfl (lv_room (Nat.le_of_ble_eq_true rfl)) dX6_depart_6 ⟨Nat.le_of_ble_eq_true rfl, Nat.le_of_ble_eq_true rfl⟩) hS (fun q _ h => h) (fun q h => h) (fun u t H1 locs ht hvm _ hB hz1 hk1 hS => ?_)
  obtain ⟨f_28, hI, kc_30⟩ := hB
  rw [ht] at hI
  have k_31 : f_28 p1 = .inr (8, [.int x_2, .ref (gr g p1 1), .int x_3, .int x_4, .int x_5, .long x_6, .int x_7, .ref (gr g p1 7), .int x_8, .int x_9, .int x_10, .int x_11, .int x_12, .int x_13, .int x_14, .int x_15, .int x_16, .int x_17]) := Kp.at kc_30 i_p1 (by decide) k_1
  have k_32 : f_28 h0 = .inr (6, [.ref (gr g h0 0), .ref (gr g h0 1), .ref (gr g h0 2), .ref (gr g h0 3), .ref (gr g h0 4), .int x_21, .int x_22, .long x_23, .int x_24, .int x_25]) := Kp.at kc_30 i_h0 (by decide) k_20
  have kp_33 := Kp.call hk0 kc_30 (by decide)
  generalize H1 = H at hI hS ⊢
  refine W.widen (k := 0) (n := 0) (Nat.le_of_ble_eq_true rfl) (Nat.le_of_ble_eq_true rfl) ?_
  refine lv_aload_n hx hb dX6_depart_9 rfl (lv_at hl 1 rfl) ?_
  refine lv_aload_n hx hb dX6_depart_10 rfl (lv_at hl 0 rfl) ?_
  refine va_calli (va_runV (As := []) (rest := [.ref p1]) ⟨hx, hb, hml, hown, hts⟩ (c_X6_weightOfAll l dC dI g A hG f_28 h0 i_h0) (cwV 0 hts (gi_V (fun w_ h0_ => ⟨List.mem_cons_of_mem _ (List.mem_append_right _ (List.mem_append_right _ (List.mem_append_right _ (List.mem_append_left _ h0_)))), (tb_c_X6_weightOfAll w_ h0_).2⟩) (List.mem_cons_of_mem _ (List.mem_append_left _ (List.mem_of_getElem? (i := 5) rfl))) (List.mem_cons_of_mem _ (List.mem_append_left _ (List.mem_of_getElem? (i := 6) rfl))) (List.mem_cons_of_mem _ (List.mem_append_left _ (List.mem_of_getElem? (i := 7) rfl))) (List.mem_cons_of_mem _ (List.mem_append_left _ (List.mem_of_getElem? (i := 4) rfl)))) rfl rfl rfl (by decide +kernel) ⟨Nat.le_of_ble_eq_true rfl, Nat.le_of_ble_eq_true rfl⟩) ⟨fun a U g mk q => ⟨q.1, q.2.calling rfl rfl⟩, k_recv hK hI i_h0.1 k_32 (ci := 6) rfl, fun U hU hW => ⟨rfl, kIn.of hI hK hE hS hU hW⟩⟩ rfl rfl hl.1 rfl (lv_room (Nat.le_of_ble_eq_true rfl)) dX6_depart_11 ⟨Nat.le_of_ble_eq_true rfl, Nat.le_of_ble_eq_true rfl⟩) hS (fun q _ h => h) (fun q h => h) (fun r_35 u t H1 locs ht hvm w_34 hB hz1 hk1 hS => ?_)
  have hI : Iv dC dI g A f_28 t.heap := hB
  rw [ht] at hI
  generalize H1 = H at hI hS ⊢
  refine W.widen (k := 0) (n := 0) (Nat.le_of_ble_eq_true rfl) (Nat.le_of_ble_eq_true rfl) ?_
  refine k_put (ci := 8) (v := .int r_35) (ty := .int) (C := RX8) (T := TX8) (N := 18) hx hb hts (fun _ h0_ => List.mem_cons_of_mem _ (List.mem_append_right _ (List.mem_append_left _ h0_))) tyX8 tyX8_ok nmX8 hown hK hI hS i_p1.1 k_31 rfl 8 (by decide) (hts (.fieldLink RX6 137 "DeadlineShare$Task" "lagWeight" "I") (List.mem_cons_of_mem _ (List.mem_append_left _ (List.mem_of_getElem? (i := 8) rfl)))) (fun _ h9 => h9) rfl (by decide +kernel) rfl rfl (Nat.le_of_ble_eq_true rfl) rfl (cl_8 i_p1) dX6_depart_14 (fun f_36 H locs e_37 hI hS => ?_)
  have k_39 : f_36 p1 = .inr (8, [.int x_2, .ref (gr g p1 1), .int x_3, .int x_4, .int x_5, .long x_6, .int x_7, .ref (gr g p1 7), .int r_35, .int x_9, .int x_10, .int x_11, .int x_12, .int x_13, .int x_14, .int x_15, .int x_16, .int x_17]) := by rw [e_37]; exact va_up_self _ _ _
  have k_40 : f_36 h0 = .inr (6, [.ref (gr g h0 0), .ref (gr g h0 1), .ref (gr g h0 2), .ref (gr g h0 3), .ref (gr g h0 4), .int x_21, .int x_22, .long x_23, .int x_24, .int x_25]) := by rw [e_37, va_up_ne _ _ (ik_ne i_h0 i_p1 (by decide))]; exact k_32
  have kp_38 := Kp.put kp_33 i_p1 (by decide) e_37
  refine lv_aload_n hx hb dX6_depart_17 rfl (lv_at hl 1 rfl) ?_
  refine k_get (ci := 8) (v := .int r_35) (C := RX8) (T := TX8) (N := 18) hx hb hts (fun _ h0_ => List.mem_cons_of_mem _ (List.mem_append_right _ (List.mem_append_left _ h0_))) hown hK hI i_p1.1 k_39 rfl 8 (by decide) (hts (.fieldLink RX6 137 "DeadlineShare$Task" "lagWeight" "I") (List.mem_cons_of_mem _ (List.mem_append_left _ (List.mem_of_getElem? (i := 8) rfl)))) (fun _ h9 => h9) rfl dX6_depart_18 ?_
  refine lv_aload_n hx hb dX6_depart_21 rfl (lv_at hl 1 rfl) ?_
  refine k_get (ci := 8) (v := .int x_3) (C := RX8) (T := TX8) (N := 18) hx hb hts (fun _ h0_ => List.mem_cons_of_mem _ (List.mem_append_right _ (List.mem_append_left _ h0_))) hown hK hI i_p1.1 k_39 rfl 2 (by decide) (hts (.fieldLink RX6 72 "DeadlineShare$Task" "weight" "I") (List.mem_cons_of_mem _ (List.mem_append_left _ (List.mem_of_getElem? (i := 9) rfl)))) (fun _ h9 => h9) rfl dX6_depart_22 ?_
  refine lv_icmp_ne (tgt := 36) hx hb dX6_depart_25 (by decide) (fun c_41 => ?_) (fun c_41 => ?_)
  · have c_41 := kn_eq rfl rfl c_41
    refine lv_aload_n hx hb dX6_depart_36 rfl (lv_at hl 1 rfl) ?_
    refine lv_iload_n hx hb dX6_depart_37 rfl (lv_at hl 2 rfl) ?_
    refine k_put (ci := 8) (v := .int p2) (ty := .int) (C := RX8) (T := TX8) (N := 18) hx hb hts (fun _ h0_ => List.mem_cons_of_mem _ (List.mem_append_right _ (List.mem_append_left _ h0_))) tyX8 tyX8_ok nmX8 hown hK hI hS i_p1.1 k_39 rfl 4 (by decide) (hts (.fieldLink RX6 69 "DeadlineShare$Task" "state" "I") (List.mem_cons_of_mem _ (List.mem_append_left _ (List.mem_of_getElem? (i := 10) rfl)))) (fun _ h9 => h9) rfl (by decide +kernel) rfl rfl (Nat.le_of_ble_eq_true rfl) rfl (cl_8 i_p1) dX6_depart_38 (fun f_42 H locs e_43 hI hS => ?_)
    have k_45 : f_42 p1 = .inr (8, [.int x_2, .ref (gr g p1 1), .int x_3, .int x_4, .int p2, .long x_6, .int x_7, .ref (gr g p1 7), .int r_35, .int x_9, .int x_10, .int x_11, .int x_12, .int x_13, .int x_14, .int x_15, .int x_16, .int x_17]) := by rw [e_43]; exact va_up_self _ _ _
    have k_46 : f_42 h0 = .inr (6, [.ref (gr g h0 0), .ref (gr g h0 1), .ref (gr g h0 2), .ref (gr g h0 3), .ref (gr g h0 4), .int x_21, .int x_22, .long x_23, .int x_24, .int x_25]) := by rw [e_43, va_up_ne _ _ (ik_ne i_h0 i_p1 (by decide))]; exact k_40
    have kp_44 := Kp.put kp_38 i_p1 (by decide) e_43
    refine lv_aload_n hx hb dX6_depart_41 rfl (lv_at hl 0 rfl) ?_
    refine k_get (ci := 6) (v := .int x_25) (C := RX6) (T := TX6) (N := 10) hx hb hts (fun _ h0_ => List.mem_cons_of_mem _ (List.mem_append_right _ (List.mem_append_right _ (List.mem_append_right _ (List.mem_append_right _ (List.mem_append_left _ h0_)))))) hown hK hI i_h0.1 k_46 rfl 9 (by decide) (hts (.fieldLink RX6 38 "DeadlineShare$State" "holder" "I") (List.mem_cons_of_mem _ (List.mem_append_left _ (List.mem_of_getElem? (i := 11) rfl)))) (fun _ h9 => h9) rfl dX6_depart_42 ?_
    refine lv_aload_n hx hb dX6_depart_45 rfl (lv_at hl 1 rfl) ?_
    refine k_get (ci := 8) (v := .int x_2) (C := RX8) (T := TX8) (N := 18) hx hb hts (fun _ h0_ => List.mem_cons_of_mem _ (List.mem_append_right _ (List.mem_append_left _ h0_))) hown hK hI i_p1.1 k_45 rfl 0 (by decide) (hts (.fieldLink RX6 165 "DeadlineShare$Task" "number" "I") (List.mem_cons_of_mem _ (List.mem_append_left _ (List.mem_of_getElem? (i := 12) rfl)))) (fun _ h9 => h9) rfl dX6_depart_46 ?_
    refine lv_icmp_ne (tgt := 57) hx hb dX6_depart_49 (by decide) (fun c_47 => ?_) (fun c_47 => ?_)
    · have c_47 := kn_eq rfl rfl c_47
      exact W.vret hx hb hr (fun t ht hW => ⟨⟨(), rfl, trivial, ⟨f_42, k_ret ht hI, kp_44⟩⟩, hS.F ht⟩) hS.2.2 dX6_depart_57
    · have c_47 := kc_eq rfl rfl c_47
      refine lv_aload_n hx hb dX6_depart_52 rfl (lv_at hl 0 rfl) ?_
      refine lv_iconst (v := (-1)) hx hb dX6_depart_53 (by decide) ?_
      refine k_put (ci := 6) (v := .int (-1)) (ty := .int) (C := RX6) (T := TX6) (N := 10) hx hb hts (fun _ h0_ => List.mem_cons_of_mem _ (List.mem_append_right _ (List.mem_append_right _ (List.mem_append_right _ (List.mem_append_right _ (List.mem_append_left _ h0_)))))) tyX6 tyX6_ok nmX6 hown hK hI hS i_h0.1 k_46 rfl 9 (by decide) (hts (.fieldLink RX6 38 "DeadlineShare$State" "holder" "I") (List.mem_cons_of_mem _ (List.mem_append_left _ (List.mem_of_getElem? (i := 11) rfl)))) (fun _ h9 => h9) rfl (by decide +kernel) rfl rfl (Nat.le_of_ble_eq_true rfl) rfl (cl_6 i_h0 (by omega)) dX6_depart_54 (fun f_48 H locs e_49 hI hS => ?_)
      have k_51 : f_48 p1 = .inr (8, [.int x_2, .ref (gr g p1 1), .int x_3, .int x_4, .int p2, .long x_6, .int x_7, .ref (gr g p1 7), .int r_35, .int x_9, .int x_10, .int x_11, .int x_12, .int x_13, .int x_14, .int x_15, .int x_16, .int x_17]) := by rw [e_49, va_up_ne _ _ (ik_ne i_p1 i_h0 (by decide))]; exact k_45
      have k_52 : f_48 h0 = .inr (6, [.ref (gr g h0 0), .ref (gr g h0 1), .ref (gr g h0 2), .ref (gr g h0 3), .ref (gr g h0 4), .int x_21, .int x_22, .long x_23, .int x_24, .int (-1)]) := by rw [e_49]; exact va_up_self _ _ _
      have kp_50 := Kp.put kp_44 i_h0 (by decide) e_49
      exact W.vret hx hb hr (fun t ht hW => ⟨⟨(), rfl, trivial, ⟨f_48, k_ret ht hI, kp_50⟩⟩, hS.F ht⟩) hS.2.2 dX6_depart_57
  · have c_41 := kc_eq rfl rfl c_41
    refine lv_aload_n hx hb dX6_depart_28 rfl (lv_at hl 0 rfl) ?_
    refine lv_aload_n hx hb dX6_depart_29 rfl (lv_at hl 1 rfl) ?_
    refine k_get (ci := 8) (v := .long x_6) (C := RX8) (T := TX8) (N := 18) hx hb hts (fun _ h0_ => List.mem_cons_of_mem _ (List.mem_append_right _ (List.mem_append_left _ h0_))) hown hK hI i_p1.1 k_39 rfl 5 (by decide) (hts (.fieldLink RX6 79 "DeadlineShare$Task" "v" "J") (List.mem_cons_of_mem _ (List.mem_append_left _ (List.mem_of_getElem? (i := 13) rfl)))) (fun _ h9 => h9) rfl dX6_depart_30 ?_
    refine k_put (ci := 6) (v := .long x_6) (ty := .long) (C := RX6) (T := TX6) (N := 10) hx hb hts (fun _ h0_ => List.mem_cons_of_mem _ (List.mem_append_right _ (List.mem_append_right _ (List.mem_append_right _ (List.mem_append_right _ (List.mem_append_left _ h0_)))))) tyX6 tyX6_ok nmX6 hown hK hI hS i_h0.1 k_40 rfl 7 (by decide) (hts (.fieldLink RX6 61 "DeadlineShare$State" "rest" "J") (List.mem_cons_of_mem _ (List.mem_append_left _ (List.mem_of_getElem? (i := 14) rfl)))) (fun _ h9 => h9) rfl (by decide +kernel) rfl rfl (Nat.le_of_ble_eq_true rfl) rfl (cl_6 i_h0 (by omega)) dX6_depart_33 (fun f_53 H locs e_54 hI hS => ?_)
    have k_56 : f_53 p1 = .inr (8, [.int x_2, .ref (gr g p1 1), .int x_3, .int x_4, .int x_5, .long x_6, .int x_7, .ref (gr g p1 7), .int r_35, .int x_9, .int x_10, .int x_11, .int x_12, .int x_13, .int x_14, .int x_15, .int x_16, .int x_17]) := by rw [e_54, va_up_ne _ _ (ik_ne i_p1 i_h0 (by decide))]; exact k_39
    have k_57 : f_53 h0 = .inr (6, [.ref (gr g h0 0), .ref (gr g h0 1), .ref (gr g h0 2), .ref (gr g h0 3), .ref (gr g h0 4), .int x_21, .int x_22, .long x_6, .int x_24, .int x_25]) := by rw [e_54]; exact va_up_self _ _ _
    have kp_55 := Kp.put kp_38 i_h0 (by decide) e_54
    refine lv_aload_n hx hb dX6_depart_36 rfl (lv_at hl 1 rfl) ?_
    refine lv_iload_n hx hb dX6_depart_37 rfl (lv_at hl 2 rfl) ?_
    refine k_put (ci := 8) (v := .int p2) (ty := .int) (C := RX8) (T := TX8) (N := 18) hx hb hts (fun _ h0_ => List.mem_cons_of_mem _ (List.mem_append_right _ (List.mem_append_left _ h0_))) tyX8 tyX8_ok nmX8 hown hK hI hS i_p1.1 k_56 rfl 4 (by decide) (hts (.fieldLink RX6 69 "DeadlineShare$Task" "state" "I") (List.mem_cons_of_mem _ (List.mem_append_left _ (List.mem_of_getElem? (i := 10) rfl)))) (fun _ h9 => h9) rfl (by decide +kernel) rfl rfl (Nat.le_of_ble_eq_true rfl) rfl (cl_8 i_p1) dX6_depart_38 (fun f_58 H locs e_59 hI hS => ?_)
    have k_61 : f_58 p1 = .inr (8, [.int x_2, .ref (gr g p1 1), .int x_3, .int x_4, .int p2, .long x_6, .int x_7, .ref (gr g p1 7), .int r_35, .int x_9, .int x_10, .int x_11, .int x_12, .int x_13, .int x_14, .int x_15, .int x_16, .int x_17]) := by rw [e_59]; exact va_up_self _ _ _
    have k_62 : f_58 h0 = .inr (6, [.ref (gr g h0 0), .ref (gr g h0 1), .ref (gr g h0 2), .ref (gr g h0 3), .ref (gr g h0 4), .int x_21, .int x_22, .long x_6, .int x_24, .int x_25]) := by rw [e_59, va_up_ne _ _ (ik_ne i_h0 i_p1 (by decide))]; exact k_57
    have kp_60 := Kp.put kp_55 i_p1 (by decide) e_59
    refine lv_aload_n hx hb dX6_depart_41 rfl (lv_at hl 0 rfl) ?_
    refine k_get (ci := 6) (v := .int x_25) (C := RX6) (T := TX6) (N := 10) hx hb hts (fun _ h0_ => List.mem_cons_of_mem _ (List.mem_append_right _ (List.mem_append_right _ (List.mem_append_right _ (List.mem_append_right _ (List.mem_append_left _ h0_)))))) hown hK hI i_h0.1 k_62 rfl 9 (by decide) (hts (.fieldLink RX6 38 "DeadlineShare$State" "holder" "I") (List.mem_cons_of_mem _ (List.mem_append_left _ (List.mem_of_getElem? (i := 11) rfl)))) (fun _ h9 => h9) rfl dX6_depart_42 ?_
    refine lv_aload_n hx hb dX6_depart_45 rfl (lv_at hl 1 rfl) ?_
    refine k_get (ci := 8) (v := .int x_2) (C := RX8) (T := TX8) (N := 18) hx hb hts (fun _ h0_ => List.mem_cons_of_mem _ (List.mem_append_right _ (List.mem_append_left _ h0_))) hown hK hI i_p1.1 k_61 rfl 0 (by decide) (hts (.fieldLink RX6 165 "DeadlineShare$Task" "number" "I") (List.mem_cons_of_mem _ (List.mem_append_left _ (List.mem_of_getElem? (i := 12) rfl)))) (fun _ h9 => h9) rfl dX6_depart_46 ?_
    refine lv_icmp_ne (tgt := 57) hx hb dX6_depart_49 (by decide) (fun c_63 => ?_) (fun c_63 => ?_)
    · have c_63 := kn_eq rfl rfl c_63
      exact W.vret hx hb hr (fun t ht hW => ⟨⟨(), rfl, trivial, ⟨f_58, k_ret ht hI, kp_60⟩⟩, hS.F ht⟩) hS.2.2 dX6_depart_57
    · have c_63 := kc_eq rfl rfl c_63
      refine lv_aload_n hx hb dX6_depart_52 rfl (lv_at hl 0 rfl) ?_
      refine lv_iconst (v := (-1)) hx hb dX6_depart_53 (by decide) ?_
      refine k_put (ci := 6) (v := .int (-1)) (ty := .int) (C := RX6) (T := TX6) (N := 10) hx hb hts (fun _ h0_ => List.mem_cons_of_mem _ (List.mem_append_right _ (List.mem_append_right _ (List.mem_append_right _ (List.mem_append_right _ (List.mem_append_left _ h0_)))))) tyX6 tyX6_ok nmX6 hown hK hI hS i_h0.1 k_62 rfl 9 (by decide) (hts (.fieldLink RX6 38 "DeadlineShare$State" "holder" "I") (List.mem_cons_of_mem _ (List.mem_append_left _ (List.mem_of_getElem? (i := 11) rfl)))) (fun _ h9 => h9) rfl (by decide +kernel) rfl rfl (Nat.le_of_ble_eq_true rfl) rfl (cl_6 i_h0 (by omega)) dX6_depart_54 (fun f_64 H locs e_65 hI hS => ?_)
      have k_67 : f_64 p1 = .inr (8, [.int x_2, .ref (gr g p1 1), .int x_3, .int x_4, .int p2, .long x_6, .int x_7, .ref (gr g p1 7), .int r_35, .int x_9, .int x_10, .int x_11, .int x_12, .int x_13, .int x_14, .int x_15, .int x_16, .int x_17]) := by rw [e_65, va_up_ne _ _ (ik_ne i_p1 i_h0 (by decide))]; exact k_61
      have k_68 : f_64 h0 = .inr (6, [.ref (gr g h0 0), .ref (gr g h0 1), .ref (gr g h0 2), .ref (gr g h0 3), .ref (gr g h0 4), .int x_21, .int x_22, .long x_6, .int x_24, .int (-1)]) := by rw [e_65]; exact va_up_self _ _ _
      have kp_66 := Kp.put kp_60 i_h0 (by decide) e_65
      exact W.vret hx hb hr (fun t ht hW => ⟨⟨(), rfl, trivial, ⟨f_64, k_ret ht hI, kp_66⟩⟩, hS.F ht⟩) hS.2.2 dX6_depart_57
theorem tw_382 : q_g (.code yX6_weighAnew cX6_weighAnew 4 none) := ⟨(List.mem_append_right _ (List.mem_of_getElem? (i := 575) (by decide +kernel))), good_of_word (by decide +kernel)⟩
def ow_c_X6_weighAnew : List Cond := [.methodLink RX6 111 yX8_isOn, .instanceMethod yX8_isOn, .selects RX8 yX8_isOn yX8_isOn, .initialized RX8, .fieldLink RX6 72 "DeadlineShare$Task" "weight" "I", .methodLink RX6 86 yX6_sumUp, .instanceMethod yX6_sumUp, .selects RX6 yX6_sumUp yX6_sumUp, .initialized RX6, .fieldLink RX6 27 "DeadlineShare$State" "sum" "LDeadlineShare$Wide;", .methodLink RX6 101 yX10_multiply, .instanceMethod yX10_multiply, .selects RX10 yX10_multiply yX10_multiply, .initialized RX10, .fieldLink RX6 79 "DeadlineShare$Task" "v" "J", .methodLink RX6 82 yX10_addTimes, .instanceMethod yX10_addTimes, .selects RX10 yX10_addTimes yX10_addTimes, .methodLink RX6 90 yX10_divide, .instanceMethod yX10_divide, .selects RX10 yX10_divide yX10_divide, .methodLink RX6 93 yX10_asLong, .instanceMethod yX10_asLong, .selects RX10 yX10_asLong yX10_asLong]
def wq_c_X6_weighAnew : List Cond := .code yX6_weighAnew cX6_weighAnew 4 none :: (ow_c_X6_weighAnew ++ (wq_c_X8_isOn ++ (u_ws RX8 TX8 18 ++ (wq_c_X6_sumUp ++ (u_ws RX6 TX6 10 ++ (wq_c_X10_multiply ++ (wq_c_X10_addTimes ++ (wq_c_X10_divide ++ (wq_c_X10_asLong ++ ([] : List Cond))))))))))
theorem tb_c_X6_weighAnew : ∀ w ∈ wq_c_X6_weighAnew, q_g w := by
  unfold wq_c_X6_weighAnew ow_c_X6_weighAnew
  exact q_cons tw_382 (q_app (q_cons tw_11 (q_cons tw_10 (q_cons tw_9 (q_cons tw_8 (q_cons tw_23 (q_cons tw_50 (q_cons tw_49 (q_cons tw_48 (q_cons tw_47 (q_cons tw_30 (q_cons tw_330 (q_cons tw_329 (q_cons tw_328 (q_cons tw_26 (q_cons tw_7 (q_cons tw_22 (q_cons tw_21 (q_cons tw_20 (q_cons tw_46 (q_cons tw_45 (q_cons tw_44 (q_cons tw_43 (q_cons tw_42 (q_cons tw_41 q_nil)))))))))))))))))))))))) (q_app tb_c_X8_isOn (q_app tu_X8 (q_app tb_c_X6_sumUp (q_app tu_X6 (q_app tb_c_X10_multiply (q_app tb_c_X10_addTimes (q_app tb_c_X10_divide (q_app tb_c_X10_asLong q_nil)))))))))
set_option maxHeartbeats 4000000 in
set_option maxRecDepth 100000 in
theorem c_X6_weighAnew (l : Launch) (dC : Nat → ClassId) (dI : Nat → Nat → Nat) (g : kG) (A : Nat → Prop) (hG : kWf g) (f : Nat → va_E) (h0 : Nat) (p1 : Nat) (p2 : Int32) (i_h0 : ik g 6 h0) (i_p1 : ik g 8 p1) : Met l yX6_weighAnew wq_c_X6_weighAnew ({ frames := 2, cells := 0, slots := 0, locals := 48 } : Room) (va_Pc [.ref h0, .ref p1, .int p2] (fun U => kIn dC dI g A f U)) (va_Qv (fun (_ : Unit) => True) (fun (_ : Unit) t => ∃ f1 : Nat → va_E, Iv dC dI g A f1 t.heap ∧ Kp g [8, 10] f f1) A) 0 0 A := by
  refine Met.ofW (cc := cX6_weighAnew) (maxL := 4) (ret := none) (by decide) rfl ?_
  intro p e s m args below meth c s₁ B hml hv
  obtain ⟨rfl, hI, hK, hE⟩ := hv
  have hx := B.exec
  have hb := B.bytes
  have hr := B.returns
  have hts := atoms_spec (ws := wq_c_X6_weighAnew) B.pre
  have hown : s.vm.findClass RX6 = some m.cls := findClass_of_methodNamed B.named
  have hlocks := B.notSynchronized
  have hS : va_S A s.heap s.heap [] := va_S.rf
  have hk0 : Kp g [8, 10] f f := Kp.rf
  have hl := lv_entry ([.ref h0, .ref p1, .int p2]) (n := 4) (Nat.le_of_ble_eq_true rfl)
  rw [lg_entry_eq]
  generalize (lg_sl ([.ref h0, .ref p1, .int p2]) ++ List.replicate (4 - (lg_sl ([.ref h0, .ref p1, .int p2])).length) Slot.unset).toArray = ls at hl ⊢
  have hl : lv_has ls 4 [(0, .ref h0), (1, .ref p1), (2, .int p2)] := hl
  refine lv_aload_n hx hb dX6_weighAnew_0 rfl (lv_at hl 1 rfl) ?_
  obtain ⟨x_2, x_3, x_4, x_5, x_6, x_7, x_8, x_9, x_10, x_11, x_12, x_13, x_14, x_15, x_16, x_17, k_1⟩ := op_8 hI i_p1
  refine va_calli (va_runV (As := []) (rest := []) ⟨hx, hb, hml, hown, hts⟩ (c_X8_isOn l dC dI g A hG f p1 i_p1) (cwV 0 hts (gi_V (fun w_ h0_ => ⟨List.mem_cons_of_mem _ (List.mem_append_right _ (List.mem_append_left _ h0_)), (tb_c_X8_isOn w_ h0_).2⟩) (List.mem_cons_of_mem _ (List.mem_append_left _ (List.mem_of_getElem? (i := 0) rfl))) (List.mem_cons_of_mem _ (List.mem_append_left _ (List.mem_of_getElem? (i := 1) rfl))) (List.mem_cons_of_mem _ (List.mem_append_left _ (List.mem_of_getElem? (i := 2) rfl))) (List.mem_cons_of_mem _ (List.mem_append_left _ (List.mem_of_getElem? (i := 3) rfl)))) rfl rfl rfl (by decide +kernel) ⟨Nat.le_of_ble_eq_true rfl, Nat.le_of_ble_eq_true rfl⟩) ⟨fun a U g mk q => ⟨q.1, q.2.calling rfl rfl⟩, k_recv hK hI i_p1.1 k_1 (ci := 8) rfl, fun U hU hW => ⟨rfl, kIn.of hI hK hE hS hU hW⟩⟩ rfl rfl hl.1 rfl (lv_room (Nat.le_of_ble_eq_true rfl)) dX6_weighAnew_1 ⟨Nat.le_of_ble_eq_true rfl, Nat.le_of_ble_eq_true rfl⟩) hS (fun q _ h => h) (fun q h => h) (fun r_19 u t H1 locs ht hvm w_18 hB hz1 hk1 hS => ?_)
  have hI : Iv dC dI g A f t.heap := hB
  rw [ht] at hI
  generalize H1 = H at hI hS ⊢
  refine W.widen (k := 0) (n := 0) (Nat.le_of_ble_eq_true rfl) (Nat.le_of_ble_eq_true rfl) ?_
  refine lv_if_eq (tgt := 66) hx hb dX6_weighAnew_4 (by decide) (fun c_20 => ?_) (fun c_20 => ?_)
  · have c_20 := kc_eq rfl (by decide : Int32.toInt 0 = 0) c_20
    refine lv_aload_n hx hb dX6_weighAnew_66 rfl (lv_at hl 1 rfl) ?_
    refine lv_iload_n hx hb dX6_weighAnew_67 rfl (lv_at hl 2 rfl) ?_
    refine k_put (ci := 8) (v := .int p2) (ty := .int) (C := RX8) (T := TX8) (N := 18) hx hb hts (fun _ h0_ => List.mem_cons_of_mem _ (List.mem_append_right _ (List.mem_append_right _ (List.mem_append_left _ h0_)))) tyX8 tyX8_ok nmX8 hown hK hI hS i_p1.1 k_1 rfl 2 (by decide) (hts (.fieldLink RX6 72 "DeadlineShare$Task" "weight" "I") (List.mem_cons_of_mem _ (List.mem_append_left _ (List.mem_of_getElem? (i := 4) rfl)))) (fun _ h9 => h9) rfl (by decide +kernel) rfl rfl (Nat.le_of_ble_eq_true rfl) rfl (cl_8 i_p1) dX6_weighAnew_68 (fun f_21 H locs e_22 hI hS => ?_)
    have k_24 : f_21 p1 = .inr (8, [.int x_2, .ref (gr g p1 1), .int p2, .int x_4, .int x_5, .long x_6, .int x_7, .ref (gr g p1 7), .int x_8, .int x_9, .int x_10, .int x_11, .int x_12, .int x_13, .int x_14, .int x_15, .int x_16, .int x_17]) := by rw [e_22]; exact va_up_self _ _ _
    have kp_23 := Kp.put hk0 i_p1 (by decide) e_22
    exact W.vret hx hb hr (fun t ht hW => ⟨⟨(), rfl, trivial, ⟨f_21, k_ret ht hI, kp_23⟩⟩, hS.F ht⟩) hS.2.2 dX6_weighAnew_71
  · have c_20 := kn_eq rfl (by decide : Int32.toInt 0 = 0) c_20
    refine lv_aload_n hx hb dX6_weighAnew_7 rfl (lv_at hl 0 rfl) ?_
    obtain ⟨x_26, x_27, x_28, x_29, x_30, k_25, b_31, b_32⟩ := op_6 hI i_h0
    refine va_calli (va_runV (As := []) (rest := []) ⟨hx, hb, hml, hown, hts⟩ (c_X6_sumUp l dC dI g A hG f h0 i_h0) (cwV 0 hts (gi_V (fun w_ h0_ => ⟨List.mem_cons_of_mem _ (List.mem_append_right _ (List.mem_append_right _ (List.mem_append_right _ (List.mem_append_left _ h0_)))), (tb_c_X6_sumUp w_ h0_).2⟩) (List.mem_cons_of_mem _ (List.mem_append_left _ (List.mem_of_getElem? (i := 5) rfl))) (List.mem_cons_of_mem _ (List.mem_append_left _ (List.mem_of_getElem? (i := 6) rfl))) (List.mem_cons_of_mem _ (List.mem_append_left _ (List.mem_of_getElem? (i := 7) rfl))) (List.mem_cons_of_mem _ (List.mem_append_left _ (List.mem_of_getElem? (i := 8) rfl)))) rfl rfl rfl (by decide +kernel) ⟨Nat.le_of_ble_eq_true rfl, Nat.le_of_ble_eq_true rfl⟩) ⟨fun a U g mk q => ⟨q.1, q.2.calling rfl rfl⟩, k_recv hK hI i_h0.1 k_25 (ci := 6) rfl, fun U hU hW => ⟨rfl, kIn.of hI hK hE hS hU hW⟩⟩ rfl rfl hl.1 rfl (lv_room (Nat.le_of_ble_eq_true rfl)) dX6_weighAnew_8 ⟨Nat.le_of_ble_eq_true rfl, Nat.le_of_ble_eq_true rfl⟩) hS (fun q _ h => h) (fun q h => h) (fun r_35 u t H1 locs ht hvm w_34 hB hz1 hk1 hS => ?_)
    obtain ⟨f_33, hI, kc_36⟩ := hB
    rw [ht] at hI
    have k_37 : f_33 p1 = .inr (8, [.int x_2, .ref (gr g p1 1), .int x_3, .int x_4, .int x_5, .long x_6, .int x_7, .ref (gr g p1 7), .int x_8, .int x_9, .int x_10, .int x_11, .int x_12, .int x_13, .int x_14, .int x_15, .int x_16, .int x_17]) := Kp.at kc_36 i_p1 (by decide) k_1
    have k_38 : f_33 h0 = .inr (6, [.ref (gr g h0 0), .ref (gr g h0 1), .ref (gr g h0 2), .ref (gr g h0 3), .ref (gr g h0 4), .int x_26, .int x_27, .long x_28, .int x_29, .int x_30]) := Kp.at kc_36 i_h0 (by decide) k_25
    have kp_39 := Kp.call hk0 kc_36 (by decide)
    generalize H1 = H at hI hS ⊢
    refine W.widen (k := 0) (n := 0) (Nat.le_of_ble_eq_true rfl) (Nat.le_of_ble_eq_true rfl) ?_
    refine lv_istore_n (lv' := [(3, .int r_35), (0, .ref h0), (1, .ref p1), (2, .int p2)]) hx hb dX6_weighAnew_11 rfl hl (by decide) rfl (fun ls hl => ?_)
    refine lv_aload_n hx hb dX6_weighAnew_12 rfl (lv_at hl 1 rfl) ?_
    refine k_get (ci := 6) (v := .ref (gr g h0 3)) (C := RX6) (T := TX6) (N := 10) hx hb hts (fun _ h0_ => List.mem_cons_of_mem _ (List.mem_append_right _ (List.mem_append_right _ (List.mem_append_right _ (List.mem_append_right _ (List.mem_append_left _ h0_)))))) hown hK hI i_h0.1 k_38 rfl 3 (by decide) (hts (.fieldLink RX6 27 "DeadlineShare$State" "sum" "LDeadlineShare$Wide;") (List.mem_cons_of_mem _ (List.mem_append_left _ (List.mem_of_getElem? (i := 9) rfl)))) (fun _ h9 => h9) rfl dX6_weighAnew_13 ?_
    have i_41 := kw_6_3 hG i_h0
    refine lv_iload_n hx hb dX6_weighAnew_16 rfl (lv_at hl 3 rfl) ?_
    refine lv_aload_n hx hb dX6_weighAnew_17 rfl (lv_at hl 2 rfl) ?_
    refine k_get (ci := 8) (v := .int x_3) (C := RX8) (T := TX8) (N := 18) hx hb hts (fun _ h0_ => List.mem_cons_of_mem _ (List.mem_append_right _ (List.mem_append_right _ (List.mem_append_left _ h0_)))) hown hK hI i_p1.1 k_37 rfl 2 (by decide) (hts (.fieldLink RX6 72 "DeadlineShare$Task" "weight" "I") (List.mem_cons_of_mem _ (List.mem_append_left _ (List.mem_of_getElem? (i := 4) rfl)))) (fun _ h9 => h9) rfl dX6_weighAnew_18 ?_
    refine lv_isub hx hb dX6_weighAnew_21 ?_
    refine lv_topi (fun v_42 ev_42 => ?_)
    have tv_42 := k_sb p2 x_3
    rw [← ev_42] at tv_42
    refine lv_i2l (v := v_42.toInt64) hx hb dX6_weighAnew_22 rfl ?_
    have t_43 := Int32.toInt_toInt64 v_42
    obtain ⟨x_45, x_46, k_44⟩ := op_10 hI i_41
    refine va_callv (va_runV (As := [.long v_42.toInt64]) (rest := []) ⟨hx, hb, hml, hown, hts⟩ (c_X10_multiply l dC dI g A hG f_33 (gr g h0 3) v_42.toInt64 i_41) (cwV 1 hts (gi_V (fun w_ h0_ => ⟨List.mem_cons_of_mem _ (List.mem_append_right _ (List.mem_append_right _ (List.mem_append_right _ (List.mem_append_right _ (List.mem_append_right _ (List.mem_append_left _ h0_)))))), (tb_c_X10_multiply w_ h0_).2⟩) (List.mem_cons_of_mem _ (List.mem_append_left _ (List.mem_of_getElem? (i := 10) rfl))) (List.mem_cons_of_mem _ (List.mem_append_left _ (List.mem_of_getElem? (i := 11) rfl))) (List.mem_cons_of_mem _ (List.mem_append_left _ (List.mem_of_getElem? (i := 12) rfl))) (List.mem_cons_of_mem _ (List.mem_append_left _ (List.mem_of_getElem? (i := 13) rfl)))) rfl rfl rfl (by decide +kernel) ⟨Nat.le_of_ble_eq_true rfl, Nat.le_of_ble_eq_true rfl⟩) ⟨fun a U g mk q => ⟨q.1, q.2.calling rfl rfl⟩, k_recv hK hI i_41.1 k_44 (ci := 10) rfl, fun U hU hW => ⟨rfl, kIn.of hI hK hE hS hU hW⟩⟩ rfl rfl hl.1 rfl (lv_room (Nat.le_of_ble_eq_true rfl)) dX6_weighAnew_23 ⟨Nat.le_of_ble_eq_true rfl, Nat.le_of_ble_eq_true rfl⟩) hS (fun q _ h => h) (fun q h => h) (fun u t H1 locs ht hvm _ hB hz1 hk1 hS => ?_)
    obtain ⟨f_47, hI, kc_49⟩ := hB
    rw [ht] at hI
    have k_50 : f_47 p1 = .inr (8, [.int x_2, .ref (gr g p1 1), .int x_3, .int x_4, .int x_5, .long x_6, .int x_7, .ref (gr g p1 7), .int x_8, .int x_9, .int x_10, .int x_11, .int x_12, .int x_13, .int x_14, .int x_15, .int x_16, .int x_17]) := Kp.at kc_49 i_p1 (by decide) k_37
    have k_51 : f_47 h0 = .inr (6, [.ref (gr g h0 0), .ref (gr g h0 1), .ref (gr g h0 2), .ref (gr g h0 3), .ref (gr g h0 4), .int x_26, .int x_27, .long x_28, .int x_29, .int x_30]) := Kp.at kc_49 i_h0 (by decide) k_38
    have kp_52 := Kp.call kp_39 kc_49 (by decide)
    generalize H1 = H at hI hS ⊢
    refine W.widen (k := 0) (n := 0) (Nat.le_of_ble_eq_true rfl) (Nat.le_of_ble_eq_true rfl) ?_
    refine lv_aload_n hx hb dX6_weighAnew_26 rfl (lv_at hl 1 rfl) ?_
    refine k_get (ci := 6) (v := .ref (gr g h0 3)) (C := RX6) (T := TX6) (N := 10) hx hb hts (fun _ h0_ => List.mem_cons_of_mem _ (List.mem_append_right _ (List.mem_append_right _ (List.mem_append_right _ (List.mem_append_right _ (List.mem_append_left _ h0_)))))) hown hK hI i_h0.1 k_51 rfl 3 (by decide) (hts (.fieldLink RX6 27 "DeadlineShare$State" "sum" "LDeadlineShare$Wide;") (List.mem_cons_of_mem _ (List.mem_append_left _ (List.mem_of_getElem? (i := 9) rfl)))) (fun _ h9 => h9) rfl dX6_weighAnew_27 ?_
    refine lv_aload_n hx hb dX6_weighAnew_30 rfl (lv_at hl 2 rfl) ?_
    refine k_get (ci := 8) (v := .int x_3) (C := RX8) (T := TX8) (N := 18) hx hb hts (fun _ h0_ => List.mem_cons_of_mem _ (List.mem_append_right _ (List.mem_append_right _ (List.mem_append_left _ h0_)))) hown hK hI i_p1.1 k_50 rfl 2 (by decide) (hts (.fieldLink RX6 72 "DeadlineShare$Task" "weight" "I") (List.mem_cons_of_mem _ (List.mem_append_left _ (List.mem_of_getElem? (i := 4) rfl)))) (fun _ h9 => h9) rfl dX6_weighAnew_31 ?_
    refine lv_iload_n hx hb dX6_weighAnew_34 rfl (lv_at hl 0 rfl) ?_
    refine lv_imul hx hb dX6_weighAnew_35 ?_
    refine lv_topi (fun v_55 ev_55 => ?_)
    refine lv_i2l (v := v_55.toInt64) hx hb dX6_weighAnew_36 rfl ?_
    have t_56 := Int32.toInt_toInt64 v_55
    refine lv_aload_n hx hb dX6_weighAnew_37 rfl (lv_at hl 2 rfl) ?_
    refine k_get (ci := 8) (v := .long x_6) (C := RX8) (T := TX8) (N := 18) hx hb hts (fun _ h0_ => List.mem_cons_of_mem _ (List.mem_append_right _ (List.mem_append_right _ (List.mem_append_left _ h0_)))) hown hK hI i_p1.1 k_50 rfl 5 (by decide) (hts (.fieldLink RX6 79 "DeadlineShare$Task" "v" "J") (List.mem_cons_of_mem _ (List.mem_append_left _ (List.mem_of_getElem? (i := 14) rfl)))) (fun _ h9 => h9) rfl dX6_weighAnew_38 ?_
    obtain ⟨x_58, x_59, k_57⟩ := op_10 hI i_41
    refine va_callv (va_runV (As := [.long v_55.toInt64, .long x_6]) (rest := []) ⟨hx, hb, hml, hown, hts⟩ (c_X10_addTimes l dC dI g A hG f_47 (gr g h0 3) v_55.toInt64 x_6 i_41) (cwV 2 hts (gi_V (fun w_ h0_ => ⟨List.mem_cons_of_mem _ (List.mem_append_right _ (List.mem_append_right _ (List.mem_append_right _ (List.mem_append_right _ (List.mem_append_right _ (List.mem_append_right _ (List.mem_append_left _ h0_))))))), (tb_c_X10_addTimes w_ h0_).2⟩) (List.mem_cons_of_mem _ (List.mem_append_left _ (List.mem_of_getElem? (i := 15) rfl))) (List.mem_cons_of_mem _ (List.mem_append_left _ (List.mem_of_getElem? (i := 16) rfl))) (List.mem_cons_of_mem _ (List.mem_append_left _ (List.mem_of_getElem? (i := 17) rfl))) (List.mem_cons_of_mem _ (List.mem_append_left _ (List.mem_of_getElem? (i := 13) rfl)))) rfl rfl rfl (by decide +kernel) ⟨Nat.le_of_ble_eq_true rfl, Nat.le_of_ble_eq_true rfl⟩) ⟨fun a U g mk q => ⟨q.1, q.2.calling rfl rfl⟩, k_recv hK hI i_41.1 k_57 (ci := 10) rfl, fun U hU hW => ⟨rfl, kIn.of hI hK hE hS hU hW⟩⟩ rfl rfl hl.1 rfl (lv_room (Nat.le_of_ble_eq_true rfl)) dX6_weighAnew_41 ⟨Nat.le_of_ble_eq_true rfl, Nat.le_of_ble_eq_true rfl⟩) hS (fun q _ h => h) (fun q h => h) (fun u t H1 locs ht hvm _ hB hz1 hk1 hS => ?_)
    obtain ⟨f_60, hI, kc_62⟩ := hB
    rw [ht] at hI
    have k_63 : f_60 p1 = .inr (8, [.int x_2, .ref (gr g p1 1), .int x_3, .int x_4, .int x_5, .long x_6, .int x_7, .ref (gr g p1 7), .int x_8, .int x_9, .int x_10, .int x_11, .int x_12, .int x_13, .int x_14, .int x_15, .int x_16, .int x_17]) := Kp.at kc_62 i_p1 (by decide) k_50
    have k_64 : f_60 h0 = .inr (6, [.ref (gr g h0 0), .ref (gr g h0 1), .ref (gr g h0 2), .ref (gr g h0 3), .ref (gr g h0 4), .int x_26, .int x_27, .long x_28, .int x_29, .int x_30]) := Kp.at kc_62 i_h0 (by decide) k_51
    have kp_65 := Kp.call kp_52 kc_62 (by decide)
    generalize H1 = H at hI hS ⊢
    refine W.widen (k := 0) (n := 0) (Nat.le_of_ble_eq_true rfl) (Nat.le_of_ble_eq_true rfl) ?_
    refine lv_aload_n hx hb dX6_weighAnew_44 rfl (lv_at hl 1 rfl) ?_
    refine k_get (ci := 6) (v := .ref (gr g h0 3)) (C := RX6) (T := TX6) (N := 10) hx hb hts (fun _ h0_ => List.mem_cons_of_mem _ (List.mem_append_right _ (List.mem_append_right _ (List.mem_append_right _ (List.mem_append_right _ (List.mem_append_left _ h0_)))))) hown hK hI i_h0.1 k_64 rfl 3 (by decide) (hts (.fieldLink RX6 27 "DeadlineShare$State" "sum" "LDeadlineShare$Wide;") (List.mem_cons_of_mem _ (List.mem_append_left _ (List.mem_of_getElem? (i := 9) rfl)))) (fun _ h9 => h9) rfl dX6_weighAnew_45 ?_
    refine lv_iload_n hx hb dX6_weighAnew_48 rfl (lv_at hl 0 rfl) ?_
    refine lv_iload_n hx hb dX6_weighAnew_49 rfl (lv_at hl 3 rfl) ?_
    refine lv_imul hx hb dX6_weighAnew_50 ?_
    refine lv_topi (fun v_68 ev_68 => ?_)
    refine lv_i2l (v := v_68.toInt64) hx hb dX6_weighAnew_51 rfl ?_
    have t_69 := Int32.toInt_toInt64 v_68
    obtain ⟨x_71, x_72, k_70⟩ := op_10 hI i_41
    refine va_callv (va_runV (As := [.long v_68.toInt64]) (rest := []) ⟨hx, hb, hml, hown, hts⟩ (c_X10_divide l dC dI g A hG f_60 (gr g h0 3) v_68.toInt64 i_41) (cwV 1 hts (gi_V (fun w_ h0_ => ⟨List.mem_cons_of_mem _ (List.mem_append_right _ (List.mem_append_right _ (List.mem_append_right _ (List.mem_append_right _ (List.mem_append_right _ (List.mem_append_right _ (List.mem_append_right _ (List.mem_append_left _ h0_)))))))), (tb_c_X10_divide w_ h0_).2⟩) (List.mem_cons_of_mem _ (List.mem_append_left _ (List.mem_of_getElem? (i := 18) rfl))) (List.mem_cons_of_mem _ (List.mem_append_left _ (List.mem_of_getElem? (i := 19) rfl))) (List.mem_cons_of_mem _ (List.mem_append_left _ (List.mem_of_getElem? (i := 20) rfl))) (List.mem_cons_of_mem _ (List.mem_append_left _ (List.mem_of_getElem? (i := 13) rfl)))) rfl rfl rfl (by decide +kernel) ⟨Nat.le_of_ble_eq_true rfl, Nat.le_of_ble_eq_true rfl⟩) ⟨fun a U g mk q => ⟨q.1, q.2.calling rfl rfl⟩, k_recv hK hI i_41.1 k_70 (ci := 10) rfl, fun U hU hW => ⟨rfl, kIn.of hI hK hE hS hU hW⟩⟩ rfl rfl hl.1 rfl (lv_room (Nat.le_of_ble_eq_true rfl)) dX6_weighAnew_52 ⟨Nat.le_of_ble_eq_true rfl, Nat.le_of_ble_eq_true rfl⟩) hS (fun q _ h => h) (fun q h => h) (fun u t H1 locs ht hvm _ hB hz1 hk1 hS => ?_)
    obtain ⟨f_73, hI, kc_75⟩ := hB
    rw [ht] at hI
    have k_76 : f_73 p1 = .inr (8, [.int x_2, .ref (gr g p1 1), .int x_3, .int x_4, .int x_5, .long x_6, .int x_7, .ref (gr g p1 7), .int x_8, .int x_9, .int x_10, .int x_11, .int x_12, .int x_13, .int x_14, .int x_15, .int x_16, .int x_17]) := Kp.at kc_75 i_p1 (by decide) k_63
    have k_77 : f_73 h0 = .inr (6, [.ref (gr g h0 0), .ref (gr g h0 1), .ref (gr g h0 2), .ref (gr g h0 3), .ref (gr g h0 4), .int x_26, .int x_27, .long x_28, .int x_29, .int x_30]) := Kp.at kc_75 i_h0 (by decide) k_64
    have kp_78 := Kp.call kp_65 kc_75 (by decide)
    generalize H1 = H at hI hS ⊢
    refine W.widen (k := 0) (n := 0) (Nat.le_of_ble_eq_true rfl) (Nat.le_of_ble_eq_true rfl) ?_
    refine lv_aload_n hx hb dX6_weighAnew_55 rfl (lv_at hl 2 rfl) ?_
    refine lv_aload_n hx hb dX6_weighAnew_56 rfl (lv_at hl 1 rfl) ?_
    refine k_get (ci := 6) (v := .ref (gr g h0 3)) (C := RX6) (T := TX6) (N := 10) hx hb hts (fun _ h0_ => List.mem_cons_of_mem _ (List.mem_append_right _ (List.mem_append_right _ (List.mem_append_right _ (List.mem_append_right _ (List.mem_append_left _ h0_)))))) hown hK hI i_h0.1 k_77 rfl 3 (by decide) (hts (.fieldLink RX6 27 "DeadlineShare$State" "sum" "LDeadlineShare$Wide;") (List.mem_cons_of_mem _ (List.mem_append_left _ (List.mem_of_getElem? (i := 9) rfl)))) (fun _ h9 => h9) rfl dX6_weighAnew_57 ?_
    obtain ⟨x_82, x_83, k_81⟩ := op_10 hI i_41
    refine va_calll (va_runV (As := []) (rest := [.ref p1]) ⟨hx, hb, hml, hown, hts⟩ (c_X10_asLong l dC dI g A hG f_73 (gr g h0 3) i_41) (cwV 0 hts (gi_V (fun w_ h0_ => ⟨List.mem_cons_of_mem _ (List.mem_append_right _ (List.mem_append_right _ (List.mem_append_right _ (List.mem_append_right _ (List.mem_append_right _ (List.mem_append_right _ (List.mem_append_right _ (List.mem_append_right _ (List.mem_append_left _ h0_))))))))), (tb_c_X10_asLong w_ h0_).2⟩) (List.mem_cons_of_mem _ (List.mem_append_left _ (List.mem_of_getElem? (i := 21) rfl))) (List.mem_cons_of_mem _ (List.mem_append_left _ (List.mem_of_getElem? (i := 22) rfl))) (List.mem_cons_of_mem _ (List.mem_append_left _ (List.mem_of_getElem? (i := 23) rfl))) (List.mem_cons_of_mem _ (List.mem_append_left _ (List.mem_of_getElem? (i := 13) rfl)))) rfl rfl rfl (by decide +kernel) ⟨Nat.le_of_ble_eq_true rfl, Nat.le_of_ble_eq_true rfl⟩) ⟨fun a U g mk q => ⟨q.1, q.2.calling rfl rfl⟩, k_recv hK hI i_41.1 k_81 (ci := 10) rfl, fun U hU hW => ⟨rfl, kIn.of hI hK hE hS hU hW⟩⟩ rfl rfl hl.1 rfl (lv_room (Nat.le_of_ble_eq_true rfl)) dX6_weighAnew_60 ⟨Nat.le_of_ble_eq_true rfl, Nat.le_of_ble_eq_true rfl⟩) hS (fun q _ h => h) (fun q h => h) (fun r_85 u t H1 locs ht hvm w_84 hB hz1 hk1 hS => ?_)
    have hI : Iv dC dI g A f_73 t.heap := hB
    rw [ht] at hI
    generalize H1 = H at hI hS ⊢
    refine W.widen (k := 0) (n := 0) (Nat.le_of_ble_eq_true rfl) (Nat.le_of_ble_eq_true rfl) ?_
    refine k_put (ci := 8) (v := .long r_85) (ty := .long) (C := RX8) (T := TX8) (N := 18) hx hb hts (fun _ h0_ => List.mem_cons_of_mem _ (List.mem_append_right _ (List.mem_append_right _ (List.mem_append_left _ h0_)))) tyX8 tyX8_ok nmX8 hown hK hI hS i_p1.1 k_76 rfl 5 (by decide) (hts (.fieldLink RX6 79 "DeadlineShare$Task" "v" "J") (List.mem_cons_of_mem _ (List.mem_append_left _ (List.mem_of_getElem? (i := 14) rfl)))) (fun _ h9 => h9) rfl (by decide +kernel) rfl rfl (Nat.le_of_ble_eq_true rfl) rfl (cl_8 i_p1) dX6_weighAnew_63 (fun f_86 H locs e_87 hI hS => ?_)
    have k_89 : f_86 p1 = .inr (8, [.int x_2, .ref (gr g p1 1), .int x_3, .int x_4, .int x_5, .long r_85, .int x_7, .ref (gr g p1 7), .int x_8, .int x_9, .int x_10, .int x_11, .int x_12, .int x_13, .int x_14, .int x_15, .int x_16, .int x_17]) := by rw [e_87]; exact va_up_self _ _ _
    have k_90 : f_86 h0 = .inr (6, [.ref (gr g h0 0), .ref (gr g h0 1), .ref (gr g h0 2), .ref (gr g h0 3), .ref (gr g h0 4), .int x_26, .int x_27, .long x_28, .int x_29, .int x_30]) := by rw [e_87, va_up_ne _ _ (ik_ne i_h0 i_p1 (by decide))]; exact k_77
    have k_91 : f_86 (gr g h0 3) = .inr (10, [.long x_82, .long x_83]) := by rw [e_87, va_up_ne _ _ (ik_ne i_41 i_p1 (by decide))]; exact k_81
    have kp_88 := Kp.put kp_78 i_p1 (by decide) e_87
    refine lv_aload_n hx hb dX6_weighAnew_66 rfl (lv_at hl 2 rfl) ?_
    refine lv_iload_n hx hb dX6_weighAnew_67 rfl (lv_at hl 3 rfl) ?_
    refine k_put (ci := 8) (v := .int p2) (ty := .int) (C := RX8) (T := TX8) (N := 18) hx hb hts (fun _ h0_ => List.mem_cons_of_mem _ (List.mem_append_right _ (List.mem_append_right _ (List.mem_append_left _ h0_)))) tyX8 tyX8_ok nmX8 hown hK hI hS i_p1.1 k_89 rfl 2 (by decide) (hts (.fieldLink RX6 72 "DeadlineShare$Task" "weight" "I") (List.mem_cons_of_mem _ (List.mem_append_left _ (List.mem_of_getElem? (i := 4) rfl)))) (fun _ h9 => h9) rfl (by decide +kernel) rfl rfl (Nat.le_of_ble_eq_true rfl) rfl (cl_8 i_p1) dX6_weighAnew_68 (fun f_92 H locs e_93 hI hS => ?_)
    have k_95 : f_92 p1 = .inr (8, [.int x_2, .ref (gr g p1 1), .int p2, .int x_4, .int x_5, .long r_85, .int x_7, .ref (gr g p1 7), .int x_8, .int x_9, .int x_10, .int x_11, .int x_12, .int x_13, .int x_14, .int x_15, .int x_16, .int x_17]) := by rw [e_93]; exact va_up_self _ _ _
    have k_96 : f_92 h0 = .inr (6, [.ref (gr g h0 0), .ref (gr g h0 1), .ref (gr g h0 2), .ref (gr g h0 3), .ref (gr g h0 4), .int x_26, .int x_27, .long x_28, .int x_29, .int x_30]) := by rw [e_93, va_up_ne _ _ (ik_ne i_h0 i_p1 (by decide))]; exact k_90
    have k_97 : f_92 (gr g h0 3) = .inr (10, [.long x_82, .long x_83]) := by rw [e_93, va_up_ne _ _ (ik_ne i_41 i_p1 (by decide))]; exact k_91
    have kp_94 := Kp.put kp_88 i_p1 (by decide) e_93
    exact W.vret hx hb hr (fun t ht hW => ⟨⟨(), rfl, trivial, ⟨f_92, k_ret ht hI, kp_94⟩⟩, hS.F ht⟩) hS.2.2 dX6_weighAnew_71
theorem tw_383 : q_g (.methodLink RX6 168 yX8_deadline) := ⟨(List.mem_append_right _ (List.mem_of_getElem? (i := 605) (by decide +kernel))), good_of_word (by decide +kernel)⟩
theorem tw_384 : q_g (.code yX6_giveUpRequest cX6_giveUpRequest 2 none) := ⟨(List.mem_append_right _ (List.mem_of_getElem? (i := 604) (by decide +kernel))), good_of_word (by decide +kernel)⟩
def ow_c_X6_giveUpRequest : List Cond := [.methodLink RX6 168 yX8_deadline, .instanceMethod yX8_deadline, .selects RX8 yX8_deadline yX8_deadline, .initialized RX8, .fieldLink RX6 79 "DeadlineShare$Task" "v" "J", .fieldLink RX6 153 "DeadlineShare$Task" "slice" "I", .fieldLink RX6 156 "DeadlineShare$Task" "left" "I", .fieldLink RX6 38 "DeadlineShare$State" "holder" "I", .fieldLink RX6 165 "DeadlineShare$Task" "number" "I"]
def wq_c_X6_giveUpRequest : List Cond := .code yX6_giveUpRequest cX6_giveUpRequest 2 none :: (ow_c_X6_giveUpRequest ++ (wq_c_X8_deadline ++ (u_ws RX8 TX8 18 ++ (u_ws RX6 TX6 10 ++ ([] : List Cond)))))
theorem tb_c_X6_giveUpRequest : ∀ w ∈ wq_c_X6_giveUpRequest, q_g w := by
  unfold wq_c_X6_giveUpRequest ow_c_X6_giveUpRequest
  exact q_cons tw_384 (q_app (q_cons tw_383 (q_cons tw_63 (q_cons tw_62 (q_cons tw_8 (q_cons tw_7 (q_cons tw_368 (q_cons tw_367 (q_cons tw_145 (q_cons tw_379 q_nil))))))))) (q_app tb_c_X8_deadline (q_app tu_X8 (q_app tu_X6 q_nil))))
set_option maxHeartbeats 4000000 in
set_option maxRecDepth 100000 in
theorem c_X6_giveUpRequest (l : Launch) (dC : Nat → ClassId) (dI : Nat → Nat → Nat) (g : kG) (A : Nat → Prop) (hG : kWf g) (f : Nat → va_E) (h0 : Nat) (p1 : Nat) (i_h0 : ik g 6 h0) (i_p1 : ik g 8 p1) : Met l yX6_giveUpRequest wq_c_X6_giveUpRequest ({ frames := 2, cells := 0, slots := 0, locals := 40 } : Room) (va_Pc [.ref h0, .ref p1] (fun U => kIn dC dI g A f U)) (va_Qv (fun (_ : Unit) => True) (fun (_ : Unit) t => ∃ f1 : Nat → va_E, Iv dC dI g A f1 t.heap ∧ Kp g [6, 8] f f1) A) 0 0 A := by
  refine Met.ofW (cc := cX6_giveUpRequest) (maxL := 2) (ret := none) (by decide) rfl ?_
  intro p e s m args below meth c s₁ B hml hv
  obtain ⟨rfl, hI, hK, hE⟩ := hv
  have hx := B.exec
  have hb := B.bytes
  have hr := B.returns
  have hts := atoms_spec (ws := wq_c_X6_giveUpRequest) B.pre
  have hown : s.vm.findClass RX6 = some m.cls := findClass_of_methodNamed B.named
  have hlocks := B.notSynchronized
  have hS : va_S A s.heap s.heap [] := va_S.rf
  have hk0 : Kp g [6, 8] f f := Kp.rf
  have hl := lv_entry ([.ref h0, .ref p1]) (n := 2) (Nat.le_of_ble_eq_true rfl)
  rw [lg_entry_eq]
  generalize (lg_sl ([.ref h0, .ref p1]) ++ List.replicate (2 - (lg_sl ([.ref h0, .ref p1])).length) Slot.unset).toArray = ls at hl ⊢
  have hl : lv_has ls 2 [(0, .ref h0), (1, .ref p1)] := hl
  refine lv_aload_n hx hb dX6_giveUpRequest_0 rfl (lv_at hl 1 rfl) ?_
  refine lv_aload_n hx hb dX6_giveUpRequest_1 rfl (lv_at hl 1 rfl) ?_
  obtain ⟨x_2, x_3, x_4, x_5, x_6, x_7, x_8, x_9, x_10, x_11, x_12, x_13, x_14, x_15, x_16, x_17, k_1⟩ := op_8 hI i_p1
  refine va_calll (va_runV (As := []) (rest := [.ref p1]) ⟨hx, hb, hml, hown, hts⟩ (c_X8_deadline l dC dI g A hG f p1 i_p1) (cwV 0 hts (gi_V (fun w_ h0_ => ⟨List.mem_cons_of_mem _ (List.mem_append_right _ (List.mem_append_left _ h0_)), (tb_c_X8_deadline w_ h0_).2⟩) (List.mem_cons_of_mem _ (List.mem_append_left _ (List.mem_of_getElem? (i := 0) rfl))) (List.mem_cons_of_mem _ (List.mem_append_left _ (List.mem_of_getElem? (i := 1) rfl))) (List.mem_cons_of_mem _ (List.mem_append_left _ (List.mem_of_getElem? (i := 2) rfl))) (List.mem_cons_of_mem _ (List.mem_append_left _ (List.mem_of_getElem? (i := 3) rfl)))) rfl rfl rfl (by decide +kernel) ⟨Nat.le_of_ble_eq_true rfl, Nat.le_of_ble_eq_true rfl⟩) ⟨fun a U g mk q => ⟨q.1, q.2.calling rfl rfl⟩, k_recv hK hI i_p1.1 k_1 (ci := 8) rfl, fun U hU hW => ⟨rfl, kIn.of hI hK hE hS hU hW⟩⟩ rfl rfl hl.1 rfl (lv_room (Nat.le_of_ble_eq_true rfl)) dX6_giveUpRequest_2 ⟨Nat.le_of_ble_eq_true rfl, Nat.le_of_ble_eq_true rfl⟩) hS (fun q _ h => h) (fun q h => h) (fun r_19 u t H1 locs ht hvm w_18 hB hz1 hk1 hS => ?_)
  have hI : Iv dC dI g A f t.heap := hB
  rw [ht] at hI
  generalize H1 = H at hI hS ⊢
  refine W.widen (k := 0) (n := 0) (Nat.le_of_ble_eq_true rfl) (Nat.le_of_ble_eq_true rfl) ?_
  refine k_put (ci := 8) (v := .long r_19) (ty := .long) (C := RX8) (T := TX8) (N := 18) hx hb hts (fun _ h0_ => List.mem_cons_of_mem _ (List.mem_append_right _ (List.mem_append_right _ (List.mem_append_left _ h0_)))) tyX8 tyX8_ok nmX8 hown hK hI hS i_p1.1 k_1 rfl 5 (by decide) (hts (.fieldLink RX6 79 "DeadlineShare$Task" "v" "J") (List.mem_cons_of_mem _ (List.mem_append_left _ (List.mem_of_getElem? (i := 4) rfl)))) (fun _ h9 => h9) rfl (by decide +kernel) rfl rfl (Nat.le_of_ble_eq_true rfl) rfl (cl_8 i_p1) dX6_giveUpRequest_5 (fun f_20 H locs e_21 hI hS => ?_)
  have k_23 : f_20 p1 = .inr (8, [.int x_2, .ref (gr g p1 1), .int x_3, .int x_4, .int x_5, .long r_19, .int x_7, .ref (gr g p1 7), .int x_8, .int x_9, .int x_10, .int x_11, .int x_12, .int x_13, .int x_14, .int x_15, .int x_16, .int x_17]) := by rw [e_21]; exact va_up_self _ _ _
  have kp_22 := Kp.put hk0 i_p1 (by decide) e_21
  refine lv_aload_n hx hb dX6_giveUpRequest_8 rfl (lv_at hl 1 rfl) ?_
  refine lv_aload_n hx hb dX6_giveUpRequest_9 rfl (lv_at hl 1 rfl) ?_
  refine k_get (ci := 8) (v := .int x_4) (C := RX8) (T := TX8) (N := 18) hx hb hts (fun _ h0_ => List.mem_cons_of_mem _ (List.mem_append_right _ (List.mem_append_right _ (List.mem_append_left _ h0_)))) hown hK hI i_p1.1 k_23 rfl 3 (by decide) (hts (.fieldLink RX6 153 "DeadlineShare$Task" "slice" "I") (List.mem_cons_of_mem _ (List.mem_append_left _ (List.mem_of_getElem? (i := 5) rfl)))) (fun _ h9 => h9) rfl dX6_giveUpRequest_10 ?_
  refine k_put (ci := 8) (v := .int x_4) (ty := .int) (C := RX8) (T := TX8) (N := 18) hx hb hts (fun _ h0_ => List.mem_cons_of_mem _ (List.mem_append_right _ (List.mem_append_right _ (List.mem_append_left _ h0_)))) tyX8 tyX8_ok nmX8 hown hK hI hS i_p1.1 k_23 rfl 6 (by decide) (hts (.fieldLink RX6 156 "DeadlineShare$Task" "left" "I") (List.mem_cons_of_mem _ (List.mem_append_left _ (List.mem_of_getElem? (i := 6) rfl)))) (fun _ h9 => h9) rfl (by decide +kernel) rfl rfl (Nat.le_of_ble_eq_true rfl) rfl (cl_8 i_p1) dX6_giveUpRequest_13 (fun f_24 H locs e_25 hI hS => ?_)
  have k_27 : f_24 p1 = .inr (8, [.int x_2, .ref (gr g p1 1), .int x_3, .int x_4, .int x_5, .long r_19, .int x_4, .ref (gr g p1 7), .int x_8, .int x_9, .int x_10, .int x_11, .int x_12, .int x_13, .int x_14, .int x_15, .int x_16, .int x_17]) := by rw [e_25]; exact va_up_self _ _ _
  have kp_26 := Kp.put kp_22 i_p1 (by decide) e_25
  refine lv_aload_n hx hb dX6_giveUpRequest_16 rfl (lv_at hl 0 rfl) ?_
  obtain ⟨x_29, x_30, x_31, x_32, x_33, k_28, b_34, b_35⟩ := op_6 hI i_h0
  refine k_get (ci := 6) (v := .int x_33) (C := RX6) (T := TX6) (N := 10) hx hb hts (fun _ h0_ => List.mem_cons_of_mem _ (List.mem_append_right _ (List.mem_append_right _ (List.mem_append_right _ (List.mem_append_left _ h0_))))) hown hK hI i_h0.1 k_28 rfl 9 (by decide) (hts (.fieldLink RX6 38 "DeadlineShare$State" "holder" "I") (List.mem_cons_of_mem _ (List.mem_append_left _ (List.mem_of_getElem? (i := 7) rfl)))) (fun _ h9 => h9) rfl dX6_giveUpRequest_17 ?_
  refine lv_aload_n hx hb dX6_giveUpRequest_20 rfl (lv_at hl 1 rfl) ?_
  refine k_get (ci := 8) (v := .int x_2) (C := RX8) (T := TX8) (N := 18) hx hb hts (fun _ h0_ => List.mem_cons_of_mem _ (List.mem_append_right _ (List.mem_append_right _ (List.mem_append_left _ h0_)))) hown hK hI i_p1.1 k_27 rfl 0 (by decide) (hts (.fieldLink RX6 165 "DeadlineShare$Task" "number" "I") (List.mem_cons_of_mem _ (List.mem_append_left _ (List.mem_of_getElem? (i := 8) rfl)))) (fun _ h9 => h9) rfl dX6_giveUpRequest_21 ?_
  refine lv_icmp_ne (tgt := 32) hx hb dX6_giveUpRequest_24 (by decide) (fun c_36 => ?_) (fun c_36 => ?_)
  · have c_36 := kn_eq rfl rfl c_36
    exact W.vret hx hb hr (fun t ht hW => ⟨⟨(), rfl, trivial, ⟨f_24, k_ret ht hI, kp_26⟩⟩, hS.F ht⟩) hS.2.2 dX6_giveUpRequest_32
  · have c_36 := kc_eq rfl rfl c_36
    refine lv_aload_n hx hb dX6_giveUpRequest_27 rfl (lv_at hl 0 rfl) ?_
    refine lv_iconst (v := (-1)) hx hb dX6_giveUpRequest_28 (by decide) ?_
    refine k_put (ci := 6) (v := .int (-1)) (ty := .int) (C := RX6) (T := TX6) (N := 10) hx hb hts (fun _ h0_ => List.mem_cons_of_mem _ (List.mem_append_right _ (List.mem_append_right _ (List.mem_append_right _ (List.mem_append_left _ h0_))))) tyX6 tyX6_ok nmX6 hown hK hI hS i_h0.1 k_28 rfl 9 (by decide) (hts (.fieldLink RX6 38 "DeadlineShare$State" "holder" "I") (List.mem_cons_of_mem _ (List.mem_append_left _ (List.mem_of_getElem? (i := 7) rfl)))) (fun _ h9 => h9) rfl (by decide +kernel) rfl rfl (Nat.le_of_ble_eq_true rfl) rfl (cl_6 i_h0 (by omega)) dX6_giveUpRequest_29 (fun f_37 H locs e_38 hI hS => ?_)
    have k_40 : f_37 p1 = .inr (8, [.int x_2, .ref (gr g p1 1), .int x_3, .int x_4, .int x_5, .long r_19, .int x_4, .ref (gr g p1 7), .int x_8, .int x_9, .int x_10, .int x_11, .int x_12, .int x_13, .int x_14, .int x_15, .int x_16, .int x_17]) := by rw [e_38, va_up_ne _ _ (ik_ne i_p1 i_h0 (by decide))]; exact k_27
    have k_41 : f_37 h0 = .inr (6, [.ref (gr g h0 0), .ref (gr g h0 1), .ref (gr g h0 2), .ref (gr g h0 3), .ref (gr g h0 4), .int x_29, .int x_30, .long x_31, .int x_32, .int (-1)]) := by rw [e_38]; exact va_up_self _ _ _
    have kp_39 := Kp.put kp_26 i_h0 (by decide) e_38
    exact W.vret hx hb hr (fun t ht hW => ⟨⟨(), rfl, trivial, ⟨f_37, k_ret ht hI, kp_39⟩⟩, hS.F ht⟩) hS.2.2 dX6_giveUpRequest_32
theorem tw_385 : q_g (.code Lib.Math.max.name Lib.Math.max.code 2 (some .int)) := ⟨(List.mem_append_right _ (List.mem_of_getElem? (i := 596) (by decide +kernel))), good_of_word (by decide +kernel)⟩
theorem tw_386 : q_g (.static Lib.Math.max.name) := ⟨(List.mem_append_right _ (List.mem_of_getElem? (i := 595) (by decide +kernel))), good_of_word (by decide +kernel)⟩
theorem tw_387 : q_g (.methodLink RX6 174 Lib.Math.max.name) := ⟨(List.mem_append_right _ (List.mem_of_getElem? (i := 594) (by decide +kernel))), good_of_word (by decide +kernel)⟩
theorem tw_388 : q_g (.methodLink RX6 171 Lib.Math.min.name) := ⟨(List.mem_append_right _ (List.mem_of_getElem? (i := 593) (by decide +kernel))), good_of_word (by decide +kernel)⟩
theorem tw_389 : q_g (.code yX6_sliceToBeServedIn cX6_sliceToBeServedIn 5 (some .int)) := ⟨(List.mem_append_right _ (List.mem_of_getElem? (i := 592) (by decide +kernel))), good_of_word (by decide +kernel)⟩
def ow_c_X6_sliceToBeServedIn : List Cond := [.methodLink RX6 108 yX6_weightOfAll, .instanceMethod yX6_weightOfAll, .selects RX6 yX6_weightOfAll yX6_weightOfAll, .initialized RX6, .methodLink RX6 111 yX8_isOn, .instanceMethod yX8_isOn, .selects RX8 yX8_isOn yX8_isOn, .initialized RX8, .methodLink RX6 171 Lib.Math.min.name, .static Lib.Math.min.name, .initialized "java/lang/Math", .code Lib.Math.min.name Lib.Math.min.code 2 (some .int), .methodLink RX6 174 Lib.Math.max.name, .static Lib.Math.max.name, .code Lib.Math.max.name Lib.Math.max.code 2 (some .int), .fieldLink RX6 72 "DeadlineShare$Task" "weight" "I"]
def wq_c_X6_sliceToBeServedIn : List Cond := .code yX6_sliceToBeServedIn cX6_sliceToBeServedIn 5 (some .int) :: (ow_c_X6_sliceToBeServedIn ++ (wq_c_X6_weightOfAll ++ (wq_c_X8_isOn ++ (u_ws RX8 TX8 18 ++ ([] : List Cond)))))
theorem tb_c_X6_sliceToBeServedIn : ∀ w ∈ wq_c_X6_sliceToBeServedIn, q_g w := by
  unfold wq_c_X6_sliceToBeServedIn ow_c_X6_sliceToBeServedIn
  exact q_cons tw_389 (q_app (q_cons tw_343 (q_cons tw_88 (q_cons tw_87 (q_cons tw_47 (q_cons tw_11 (q_cons tw_10 (q_cons tw_9 (q_cons tw_8 (q_cons tw_388 (q_cons tw_155 (q_cons tw_154 (q_cons tw_153 (q_cons tw_387 (q_cons tw_386 (q_cons tw_385 (q_cons tw_23 q_nil)))))))))))))))) (q_app tb_c_X6_weightOfAll (q_app tb_c_X8_isOn (q_app tu_X8 q_nil))))
set_option maxHeartbeats 4000000 in
set_option maxRecDepth 100000 in
theorem c_X6_sliceToBeServedIn (l : Launch) (dC : Nat → ClassId) (dI : Nat → Nat → Nat) (g : kG) (A : Nat → Prop) (hG : kWf g) (f : Nat → va_E) (h0 : Nat) (p1 : Nat) (p2 : Int32) (i_h0 : ik g 6 h0) (i_p1 : ik g 8 p1) : Met l yX6_sliceToBeServedIn wq_c_X6_sliceToBeServedIn ({ frames := 1, cells := 0, slots := 0, locals := 22 } : Room) (va_Pc [.ref h0, .ref p1, .int p2] (fun U => kIn dC dI g A f U)) (va_Qi (fun (r : Int32) (_ : Unit) => True) (fun (_ : Unit) t => Iv dC dI g A f t.heap) A) 0 0 A := by
  refine Met.ofW (cc := cX6_sliceToBeServedIn) (maxL := 5) (ret := (some .int)) (by decide) rfl ?_
  intro p e s m args below meth c s₁ B hml hv
  obtain ⟨rfl, hI, hK, hE⟩ := hv
  have hx := B.exec
  have hb := B.bytes
  have hr := B.returns
  have hts := atoms_spec (ws := wq_c_X6_sliceToBeServedIn) B.pre
  have hown : s.vm.findClass RX6 = some m.cls := findClass_of_methodNamed B.named
  have hlocks := B.notSynchronized
  have hS : va_S A s.heap s.heap [] := va_S.rf
  have hl := lv_entry ([.ref h0, .ref p1, .int p2]) (n := 5) (Nat.le_of_ble_eq_true rfl)
  rw [lg_entry_eq]
  generalize (lg_sl ([.ref h0, .ref p1, .int p2]) ++ List.replicate (5 - (lg_sl ([.ref h0, .ref p1, .int p2])).length) Slot.unset).toArray = ls at hl ⊢
  have hl : lv_has ls 5 [(0, .ref h0), (1, .ref p1), (2, .int p2)] := hl
  refine lv_aload_n hx hb dX6_sliceToBeServedIn_0 rfl (lv_at hl 0 rfl) ?_
  obtain ⟨x_2, x_3, x_4, x_5, x_6, k_1, b_7, b_8⟩ := op_6 hI i_h0
  refine va_calli (va_runV (As := []) (rest := []) ⟨hx, hb, hml, hown, hts⟩ (c_X6_weightOfAll l dC dI g A hG f h0 i_h0) (cwV 0 hts (gi_V (fun w_ h0_ => ⟨List.mem_cons_of_mem _ (List.mem_append_right _ (List.mem_append_left _ h0_)), (tb_c_X6_weightOfAll w_ h0_).2⟩) (List.mem_cons_of_mem _ (List.mem_append_left _ (List.mem_of_getElem? (i := 0) rfl))) (List.mem_cons_of_mem _ (List.mem_append_left _ (List.mem_of_getElem? (i := 1) rfl))) (List.mem_cons_of_mem _ (List.mem_append_left _ (List.mem_of_getElem? (i := 2) rfl))) (List.mem_cons_of_mem _ (List.mem_append_left _ (List.mem_of_getElem? (i := 3) rfl)))) rfl rfl rfl (by decide +kernel) ⟨Nat.le_of_ble_eq_true rfl, Nat.le_of_ble_eq_true rfl⟩) ⟨fun a U g mk q => ⟨q.1, q.2.calling rfl rfl⟩, k_recv hK hI i_h0.1 k_1 (ci := 6) rfl, fun U hU hW => ⟨rfl, kIn.of hI hK hE hS hU hW⟩⟩ rfl rfl hl.1 rfl (lv_room (Nat.le_of_ble_eq_true rfl)) dX6_sliceToBeServedIn_1 ⟨Nat.le_of_ble_eq_true rfl, Nat.le_of_ble_eq_true rfl⟩) hS (fun q _ h => h) (fun q h => h) (fun r_10 u t H1 locs ht hvm w_9 hB hz1 hk1 hS => ?_)
  have hI : Iv dC dI g A f t.heap := hB
  rw [ht] at hI
  generalize H1 = H at hI hS ⊢
  refine W.widen (k := 0) (n := 0) (Nat.le_of_ble_eq_true rfl) (Nat.le_of_ble_eq_true rfl) ?_
  refine lv_aload_n hx hb dX6_sliceToBeServedIn_4 rfl (lv_at hl 1 rfl) ?_
  obtain ⟨x_12, x_13, x_14, x_15, x_16, x_17, x_18, x_19, x_20, x_21, x_22, x_23, x_24, x_25, x_26, x_27, k_11⟩ := op_8 hI i_p1
  refine va_calli (va_runV (As := []) (rest := [.int r_10]) ⟨hx, hb, hml, hown, hts⟩ (c_X8_isOn l dC dI g A hG f p1 i_p1) (cwV 0 hts (gi_V (fun w_ h0_ => ⟨List.mem_cons_of_mem _ (List.mem_append_right _ (List.mem_append_right _ (List.mem_append_left _ h0_))), (tb_c_X8_isOn w_ h0_).2⟩) (List.mem_cons_of_mem _ (List.mem_append_left _ (List.mem_of_getElem? (i := 4) rfl))) (List.mem_cons_of_mem _ (List.mem_append_left _ (List.mem_of_getElem? (i := 5) rfl))) (List.mem_cons_of_mem _ (List.mem_append_left _ (List.mem_of_getElem? (i := 6) rfl))) (List.mem_cons_of_mem _ (List.mem_append_left _ (List.mem_of_getElem? (i := 7) rfl)))) rfl rfl rfl (by decide +kernel) ⟨Nat.le_of_ble_eq_true rfl, Nat.le_of_ble_eq_true rfl⟩) ⟨fun a U g mk q => ⟨q.1, q.2.calling rfl rfl⟩, k_recv hK hI i_p1.1 k_11 (ci := 8) rfl, fun U hU hW => ⟨rfl, kIn.of hI hK hE hS hU hW⟩⟩ rfl rfl hl.1 rfl (lv_room (Nat.le_of_ble_eq_true rfl)) dX6_sliceToBeServedIn_5 ⟨Nat.le_of_ble_eq_true rfl, Nat.le_of_ble_eq_true rfl⟩) hS (fun q _ h => h) (fun q h => h) (fun r_29 u t H1 locs ht hvm w_28 hB hz1 hk1 hS => ?_)
  have hI : Iv dC dI g A f t.heap := hB
  rw [ht] at hI
  generalize H1 = H at hI hS ⊢
  refine W.widen (k := 0) (n := 0) (Nat.le_of_ble_eq_true rfl) (Nat.le_of_ble_eq_true rfl) ?_
  have J_19 : ∀ (y_30 : Int32) (H : Heap) (locs : List Loc) (ls : Array Slot), Iv dC dI g A f H → va_S A s.heap H locs → lv_has ls 5 [(0, .ref h0), (1, .ref p1), (2, .int p2)] → W p l e (headSpec wq_c_X6_sliceToBeServedIn ({ frames := 1, cells := 0, slots := 0, locals := 22 } : Room)).room s m ([.ref h0, .ref p1, .int p2].toArray) below meth c H locs 0 0 (MQ below (va_Qi (fun (r : Int32) (_ : Unit) => True) (fun (_ : Unit) t => Iv dC dI g A f t.heap) A) ([.ref h0, .ref p1, .int p2].toArray) s 0 0 A) (F0 m 19 ls [.int y_30, .int r_10]) := by
    intro y_30 H locs ls hI hS  hl
    refine lv_iadd hx hb dX6_sliceToBeServedIn_19 ?_
    refine lv_topi (fun v_31 ev_31 => ?_)
    have tv_31 := k_ad r_10 y_30
    rw [← ev_31] at tv_31
    refine lv_istore_n (lv' := [(3, .int v_31), (0, .ref h0), (1, .ref p1), (2, .int p2)]) hx hb dX6_sliceToBeServedIn_20 rfl hl (by decide) rfl (fun ls hl => ?_)
    refine lv_iload_n hx hb dX6_sliceToBeServedIn_21 rfl (lv_at hl 0 rfl) ?_
    have J_37 : ∀ (y_32 : Int32) (H : Heap) (locs : List Loc) (ls : Array Slot), Iv dC dI g A f H → va_S A s.heap H locs → lv_has ls 5 [(3, .int v_31), (0, .ref h0), (1, .ref p1), (2, .int p2)] → W p l e (headSpec wq_c_X6_sliceToBeServedIn ({ frames := 1, cells := 0, slots := 0, locals := 22 } : Room)).room s m ([.ref h0, .ref p1, .int p2].toArray) below meth c H locs 0 0 (MQ below (va_Qi (fun (r : Int32) (_ : Unit) => True) (fun (_ : Unit) t => Iv dC dI g A f t.heap) A) ([.ref h0, .ref p1, .int p2].toArray) s 0 0 A) (F0 m 37 ls [.int y_32]) := by
      intro y_32 H locs ls hI hS  hl
      refine lv_istore (lv' := [(4, .int y_32), (3, .int v_31), (0, .ref h0), (1, .ref p1), (2, .int p2)]) hx hb dX6_sliceToBeServedIn_37 hl (by decide) rfl (fun ls hl => ?_)
      refine lv_iconst (v := 1) hx hb dX6_sliceToBeServedIn_39 (by decide) ?_
      refine lv_bipush (v := 20) hx hb dX6_sliceToBeServedIn_40 (by decide) ?_
      refine lv_iload hx hb dX6_sliceToBeServedIn_42 (lv_at hl 0 rfl) ?_
      refine va_mmin hx hb (by rw [hml]; exact hl.1.symm) hown (hts (.methodLink RX6 171 Lib.Math.min.name) (List.mem_cons_of_mem _ (List.mem_append_left _ (List.mem_of_getElem? (i := 8) rfl)))) (hts (.static Lib.Math.min.name) (List.mem_cons_of_mem _ (List.mem_append_left _ (List.mem_of_getElem? (i := 9) rfl)))) (hts (.initialized "java/lang/Math") (List.mem_cons_of_mem _ (List.mem_append_left _ (List.mem_of_getElem? (i := 10) rfl)))) (hts (.code Lib.Math.min.name Lib.Math.min.code 2 (some .int)) (List.mem_cons_of_mem _ (List.mem_append_left _ (List.mem_of_getElem? (i := 11) rfl)))) (Nat.le_of_ble_eq_true rfl) (Nat.le_of_ble_eq_true rfl) (Nat.le_of_ble_eq_true rfl) (Nat.le_of_ble_eq_true rfl) dX6_sliceToBeServedIn_44 ?_
      refine lv_topi (fun v_33 ev_33 => ?_)
      refine va_mmax hx hb (by rw [hml]; exact hl.1.symm) hown (hts (.methodLink RX6 174 Lib.Math.max.name) (List.mem_cons_of_mem _ (List.mem_append_left _ (List.mem_of_getElem? (i := 12) rfl)))) (hts (.static Lib.Math.max.name) (List.mem_cons_of_mem _ (List.mem_append_left _ (List.mem_of_getElem? (i := 13) rfl)))) (hts (.initialized "java/lang/Math") (List.mem_cons_of_mem _ (List.mem_append_left _ (List.mem_of_getElem? (i := 10) rfl)))) (hts (.code Lib.Math.max.name Lib.Math.max.code 2 (some .int)) (List.mem_cons_of_mem _ (List.mem_append_left _ (List.mem_of_getElem? (i := 14) rfl)))) (Nat.le_of_ble_eq_true rfl) (Nat.le_of_ble_eq_true rfl) (Nat.le_of_ble_eq_true rfl) (Nat.le_of_ble_eq_true rfl) dX6_sliceToBeServedIn_47 ?_
      refine lv_topi (fun v_34 ev_34 => ?_)
      exact W.iret (v := v_34) hx hb hr (fun t ht hW => ⟨⟨v_34, (), rfl, trivial, k_ret ht hI⟩, hS.F ht⟩) hS.2.2 dX6_sliceToBeServedIn_50
    refine lv_if_le (tgt := 36) hx hb dX6_sliceToBeServedIn_22 (by decide) (fun c_35 => ?_) (fun c_35 => ?_)
    · have c_35 := kc_le rfl (by decide : Int32.toInt 0 = 0) c_35
      refine lv_iconst (v := 1) hx hb dX6_sliceToBeServedIn_36 (by decide) ?_
      exact J_37 1 _ _ _ hI hS  (lv_sub hl [0, 1, 2, 3] rfl)
    · have c_35 := kn_le rfl (by decide : Int32.toInt 0 = 0) c_35
      refine lv_iload_n hx hb dX6_sliceToBeServedIn_25 rfl (lv_at hl 3 rfl) ?_
      refine lv_aload_n hx hb dX6_sliceToBeServedIn_26 rfl (lv_at hl 2 rfl) ?_
      refine k_get (ci := 8) (v := .int x_13) (C := RX8) (T := TX8) (N := 18) hx hb hts (fun _ h0_ => List.mem_cons_of_mem _ (List.mem_append_right _ (List.mem_append_right _ (List.mem_append_right _ (List.mem_append_left _ h0_))))) hown hK hI i_p1.1 k_11 rfl 2 (by decide) (hts (.fieldLink RX6 72 "DeadlineShare$Task" "weight" "I") (List.mem_cons_of_mem _ (List.mem_append_left _ (List.mem_of_getElem? (i := 15) rfl)))) (fun _ h9 => h9) rfl dX6_sliceToBeServedIn_27 ?_
      refine lv_imul hx hb dX6_sliceToBeServedIn_30 ?_
      refine lv_topi (fun v_36 ev_36 => ?_)
      refine lv_iload_n hx hb dX6_sliceToBeServedIn_31 rfl (lv_at hl 0 rfl) ?_
      refine lv_idiv hx hb dX6_sliceToBeServedIn_32 (k_ne0 (by omega)) ?_
      refine lv_topi (fun v_37 ev_37 => ?_)
      refine lv_goto (tgt := 37) hx hb dX6_sliceToBeServedIn_33 (by decide) ?_
      exact J_37 v_37 _ _ _ hI hS  (lv_sub hl [0, 1, 2, 3] rfl)
  refine lv_if_eq (tgt := 15) hx hb dX6_sliceToBeServedIn_8 (by decide) (fun c_38 => ?_) (fun c_38 => ?_)
  · have c_38 := kc_eq rfl (by decide : Int32.toInt 0 = 0) c_38
    refine lv_aload_n hx hb dX6_sliceToBeServedIn_15 rfl (lv_at hl 1 rfl) ?_
    refine k_get (ci := 8) (v := .int x_13) (C := RX8) (T := TX8) (N := 18) hx hb hts (fun _ h0_ => List.mem_cons_of_mem _ (List.mem_append_right _ (List.mem_append_right _ (List.mem_append_right _ (List.mem_append_left _ h0_))))) hown hK hI i_p1.1 k_11 rfl 2 (by decide) (hts (.fieldLink RX6 72 "DeadlineShare$Task" "weight" "I") (List.mem_cons_of_mem _ (List.mem_append_left _ (List.mem_of_getElem? (i := 15) rfl)))) (fun _ h9 => h9) rfl dX6_sliceToBeServedIn_16 ?_
    exact J_19 x_13 _ _ _ hI hS  (lv_sub hl [0, 1, 2] rfl)
  · have c_38 := kn_eq rfl (by decide : Int32.toInt 0 = 0) c_38
    refine lv_iconst (v := 0) hx hb dX6_sliceToBeServedIn_11 (by decide) ?_
    refine lv_goto (tgt := 19) hx hb dX6_sliceToBeServedIn_12 (by decide) ?_
    exact J_19 0 _ _ _ hI hS  (lv_sub hl [0, 1, 2] rfl)
theorem tw_390 : q_g (.code yX6_eligibleBits cX6_eligibleBits 5 (some .int)) := ⟨(List.mem_append_right _ (List.mem_of_getElem? (i := 940) (by decide +kernel))), good_of_word (by decide +kernel)⟩
def ow_c_X6_eligibleBits : List Cond := [.methodLink RX6 176 yX6_wholeV, .instanceMethod yX6_wholeV, .selects RX6 yX6_wholeV yX6_wholeV, .initialized RX6, .fieldLink RX6 48 "DeadlineShare$State" "count" "I", .fieldLink RX6 11 "DeadlineShare$State" "tasks" "[LDeadlineShare$Task;", .methodLink RX6 111 yX8_isOn, .instanceMethod yX8_isOn, .selects RX8 yX8_isOn yX8_isOn, .initialized RX8, .fieldLink RX6 79 "DeadlineShare$Task" "v" "J"]
def wq_c_X6_eligibleBits : List Cond := .code yX6_eligibleBits cX6_eligibleBits 5 (some .int) :: (ow_c_X6_eligibleBits ++ (wq_c_X6_wholeV ++ (u_ws RX6 TX6 10 ++ (wq_c_X8_isOn ++ (u_ws RX8 TX8 18 ++ ([] : List Cond))))))
theorem tb_c_X6_eligibleBits : ∀ w ∈ wq_c_X6_eligibleBits, q_g w := by
  unfold wq_c_X6_eligibleBits ow_c_X6_eligibleBits
  exact q_cons tw_390 (q_app (q_cons tw_68 (q_cons tw_67 (q_cons tw_66 (q_cons tw_47 (q_cons tw_13 (q_cons tw_12 (q_cons tw_11 (q_cons tw_10 (q_cons tw_9 (q_cons tw_8 (q_cons tw_7 q_nil))))))))))) (q_app tb_c_X6_wholeV (q_app tu_X6 (q_app tb_c_X8_isOn (q_app tu_X8 q_nil)))))
set_option maxHeartbeats 4000000 in
set_option maxRecDepth 100000 in
theorem c_X6_eligibleBits (l : Launch) (dC : Nat → ClassId) (dI : Nat → Nat → Nat) (g : kG) (A : Nat → Prop) (hG : kWf g) (f : Nat → va_E) (h0 : Nat) (i_h0 : ik g 6 h0) : Met l yX6_eligibleBits wq_c_X6_eligibleBits ({ frames := 3, cells := 0, slots := 0, locals := 69 } : Room) (va_Pc [.ref h0] (fun U => kIn dC dI g A f U)) (va_Qi (fun (r : Int32) (_ : Unit) => True) (fun (_ : Unit) t => ∃ f1 : Nat → va_E, Iv dC dI g A f1 t.heap ∧ Kp g [10] f f1) A) 0 0 A := by
  refine Met.ofW (cc := cX6_eligibleBits) (maxL := 5) (ret := (some .int)) (by decide) rfl ?_
  intro p e s m args below meth c s₁ B hml hv
  obtain ⟨rfl, hI, hK, hE⟩ := hv
  have hx := B.exec
  have hb := B.bytes
  have hr := B.returns
  have hts := atoms_spec (ws := wq_c_X6_eligibleBits) B.pre
  have hown : s.vm.findClass RX6 = some m.cls := findClass_of_methodNamed B.named
  have hlocks := B.notSynchronized
  have hS : va_S A s.heap s.heap [] := va_S.rf
  have hk0 : Kp g [10] f f := Kp.rf
  have hl := lv_entry ([.ref h0]) (n := 5) (Nat.le_of_ble_eq_true rfl)
  rw [lg_entry_eq]
  generalize (lg_sl ([.ref h0]) ++ List.replicate (5 - (lg_sl ([.ref h0])).length) Slot.unset).toArray = ls at hl ⊢
  have hl : lv_has ls 5 [(0, .ref h0)] := hl
  refine lv_aload_n hx hb dX6_eligibleBits_0 rfl (lv_at hl 0 rfl) ?_
  obtain ⟨x_2, x_3, x_4, x_5, x_6, k_1, b_7, b_8⟩ := op_6 hI i_h0
  refine va_calll (va_runV (As := []) (rest := []) ⟨hx, hb, hml, hown, hts⟩ (c_X6_wholeV l dC dI g A hG f h0 i_h0) (cwV 0 hts (gi_V (fun w_ h0_ => ⟨List.mem_cons_of_mem _ (List.mem_append_right _ (List.mem_append_left _ h0_)), (tb_c_X6_wholeV w_ h0_).2⟩) (List.mem_cons_of_mem _ (List.mem_append_left _ (List.mem_of_getElem? (i := 0) rfl))) (List.mem_cons_of_mem _ (List.mem_append_left _ (List.mem_of_getElem? (i := 1) rfl))) (List.mem_cons_of_mem _ (List.mem_append_left _ (List.mem_of_getElem? (i := 2) rfl))) (List.mem_cons_of_mem _ (List.mem_append_left _ (List.mem_of_getElem? (i := 3) rfl)))) rfl rfl rfl (by decide +kernel) ⟨Nat.le_of_ble_eq_true rfl, Nat.le_of_ble_eq_true rfl⟩) ⟨fun a U g mk q => ⟨q.1, q.2.calling rfl rfl⟩, k_recv hK hI i_h0.1 k_1 (ci := 6) rfl, fun U hU hW => ⟨rfl, kIn.of hI hK hE hS hU hW⟩⟩ rfl rfl hl.1 rfl (lv_room (Nat.le_of_ble_eq_true rfl)) dX6_eligibleBits_1 ⟨Nat.le_of_ble_eq_true rfl, Nat.le_of_ble_eq_true rfl⟩) hS (fun q _ h => h) (fun q h => h) (fun r_11 u t H1 locs ht hvm w_10 hB hz1 hk1 hS => ?_)
  obtain ⟨f_9, hI, kc_12⟩ := hB
  rw [ht] at hI
  have k_13 : f_9 h0 = .inr (6, [.ref (gr g h0 0), .ref (gr g h0 1), .ref (gr g h0 2), .ref (gr g h0 3), .ref (gr g h0 4), .int x_2, .int x_3, .long x_4, .int x_5, .int x_6]) := Kp.at kc_12 i_h0 (by decide) k_1
  have kp_14 := Kp.call hk0 kc_12 (by decide)
  generalize H1 = H at hI hS ⊢
  refine W.widen (k := 0) (n := 0) (Nat.le_of_ble_eq_true rfl) (Nat.le_of_ble_eq_true rfl) ?_
  refine lv_lstore_n (lv' := [(1, .long r_11), (0, .ref h0)]) hx hb dX6_eligibleBits_4 rfl hl (by decide) rfl (fun ls hl => ?_)
  refine lv_iconst (v := 0) hx hb dX6_eligibleBits_5 (by decide) ?_
  refine lv_istore_n (lv' := [(3, .int 0), (1, .long r_11), (0, .ref h0)]) hx hb dX6_eligibleBits_6 rfl hl (by decide) rfl (fun ls hl => ?_)
  refine lv_iconst (v := 0) hx hb dX6_eligibleBits_7 (by decide) ?_
  refine lv_istore (lv' := [(4, .int 0), (3, .int 0), (1, .long r_11), (0, .ref h0)]) hx hb dX6_eligibleBits_8 hl (by decide) rfl (fun ls hl => ?_)
  have K_10 : ∀ (nn : Nat) (y_15 : Int32) (y_16 : Int32) (H : Heap) (locs : List Loc) (ls : Array Slot), (12 - y_15.toInt).toNat < nn → Iv dC dI g A f_9 H → va_S A s.heap H locs → (0 ≤ y_15.toInt) → lv_has ls 5 [(4, .int y_15), (3, .int y_16), (1, .long r_11), (0, .ref h0)] → W p l e (headSpec wq_c_X6_eligibleBits ({ frames := 3, cells := 0, slots := 0, locals := 69 } : Room)).room s m ([.ref h0].toArray) below meth c H locs 0 0 (MQ below (va_Qi (fun (r : Int32) (_ : Unit) => True) (fun (_ : Unit) t => ∃ f1 : Nat → va_E, Iv dC dI g A f1 t.heap ∧ Kp g [10] f f1) A) ([.ref h0].toArray) s 0 0 A) (F0 m 10 ls []) := by
    intro nn
    induction nn with
    | zero => intro y_15 y_16 H locs ls m_18; exact absurd m_18 (Nat.not_lt_zero _)
    | succ nn ih =>
      intro y_15 y_16 H locs ls m_18 hI hS t_17 hl
      have g_19 := Int32.toInt_lt y_15
      have g_20 := Int32.le_toInt y_15
      refine lv_iload hx hb dX6_eligibleBits_10 (lv_at hl 0 rfl) ?_
      refine lv_aload_n hx hb dX6_eligibleBits_12 rfl (lv_at hl 3 rfl) ?_
      refine k_get (ci := 6) (v := .int x_2) (C := RX6) (T := TX6) (N := 10) hx hb hts (fun _ h0_ => List.mem_cons_of_mem _ (List.mem_append_right _ (List.mem_append_right _ (List.mem_append_left _ h0_)))) hown hK hI i_h0.1 k_13 rfl 5 (by decide) (hts (.fieldLink RX6 48 "DeadlineShare$State" "count" "I") (List.mem_cons_of_mem _ (List.mem_append_left _ (List.mem_of_getElem? (i := 4) rfl)))) (fun _ h9 => h9) rfl dX6_eligibleBits_13 ?_
      refine lv_icmp_ge (tgt := 60) hx hb dX6_eligibleBits_16 (by decide) (fun c_21 => ?_) (fun c_21 => ?_)
      · have c_21 := kc_le rfl rfl c_21
        refine lv_iload_n hx hb dX6_eligibleBits_60 rfl (lv_at hl 1 rfl) ?_
        exact W.iret (v := y_16) hx hb hr (fun t ht hW => ⟨⟨y_16, (), rfl, trivial, ⟨f_9, k_ret ht hI, kp_14⟩⟩, hS.F ht⟩) hS.2.2 dX6_eligibleBits_61
      · have c_21 := kn_le rfl rfl c_21
        refine lv_aload_n hx hb dX6_eligibleBits_19 rfl (lv_at hl 3 rfl) ?_
        refine k_get (ci := 6) (v := .ref (gr g h0 1)) (C := RX6) (T := TX6) (N := 10) hx hb hts (fun _ h0_ => List.mem_cons_of_mem _ (List.mem_append_right _ (List.mem_append_right _ (List.mem_append_left _ h0_)))) hown hK hI i_h0.1 k_13 rfl 1 (by decide) (hts (.fieldLink RX6 11 "DeadlineShare$State" "tasks" "[LDeadlineShare$Task;") (List.mem_cons_of_mem _ (List.mem_append_left _ (List.mem_of_getElem? (i := 5) rfl)))) (fun _ h9 => h9) rfl dX6_eligibleBits_20 ?_
        have i_23 := kw_6_1 hG i_h0
        refine lv_iload hx hb dX6_eligibleBits_23 (lv_at hl 0 rfl) ?_
        obtain ⟨q_25, k_24, b_26⟩ := op_20 hI i_23
        refine k_aald hx hb hK hI i_23.1 4 k_24 rfl (vp_in_iff.mpr (by omega)) b_26 (fun _ hj => kw_20 hG i_23 hj) dX6_eligibleBits_25 (fun a_27 i_28 => ?_)
        obtain ⟨x_30, x_31, x_32, x_33, x_34, x_35, x_36, x_37, x_38, x_39, x_40, x_41, x_42, x_43, x_44, x_45, k_29⟩ := op_8 hI i_28
        refine va_calli (va_runV (As := []) (rest := []) ⟨hx, hb, hml, hown, hts⟩ (c_X8_isOn l dC dI g A hG f_9 a_27 i_28) (cwV 0 hts (gi_V (fun w_ h0_ => ⟨List.mem_cons_of_mem _ (List.mem_append_right _ (List.mem_append_right _ (List.mem_append_right _ (List.mem_append_left _ h0_)))), (tb_c_X8_isOn w_ h0_).2⟩) (List.mem_cons_of_mem _ (List.mem_append_left _ (List.mem_of_getElem? (i := 6) rfl))) (List.mem_cons_of_mem _ (List.mem_append_left _ (List.mem_of_getElem? (i := 7) rfl))) (List.mem_cons_of_mem _ (List.mem_append_left _ (List.mem_of_getElem? (i := 8) rfl))) (List.mem_cons_of_mem _ (List.mem_append_left _ (List.mem_of_getElem? (i := 9) rfl)))) rfl rfl rfl (by decide +kernel) ⟨Nat.le_of_ble_eq_true rfl, Nat.le_of_ble_eq_true rfl⟩) ⟨fun a U g mk q => ⟨q.1, q.2.calling rfl rfl⟩, k_recv hK hI i_28.1 k_29 (ci := 8) rfl, fun U hU hW => ⟨rfl, kIn.of hI hK hE hS hU hW⟩⟩ rfl rfl hl.1 rfl (lv_room (Nat.le_of_ble_eq_true rfl)) dX6_eligibleBits_26 ⟨Nat.le_of_ble_eq_true rfl, Nat.le_of_ble_eq_true rfl⟩) hS (fun q _ h => h) (fun q h => h) (fun r_47 u t H1 locs ht hvm w_46 hB hz1 hk1 hS => ?_)
        have hI : Iv dC dI g A f_9 t.heap := hB
        rw [ht] at hI
        generalize H1 = H at hI hS ⊢
        refine W.widen (k := 0) (n := 0) (Nat.le_of_ble_eq_true rfl) (Nat.le_of_ble_eq_true rfl) ?_
        have J_54 : ∀ (y_48 : Int32) (H : Heap) (locs : List Loc) (ls : Array Slot), Iv dC dI g A f_9 H → va_S A s.heap H locs → lv_has ls 5 [(4, .int y_15), (3, .int y_48), (1, .long r_11), (0, .ref h0)] → W p l e (headSpec wq_c_X6_eligibleBits ({ frames := 3, cells := 0, slots := 0, locals := 69 } : Room)).room s m ([.ref h0].toArray) below meth c H locs 0 0 (MQ below (va_Qi (fun (r : Int32) (_ : Unit) => True) (fun (_ : Unit) t => ∃ f1 : Nat → va_E, Iv dC dI g A f1 t.heap ∧ Kp g [10] f f1) A) ([.ref h0].toArray) s 0 0 A) (F0 m 54 ls []) := by
          intro y_48 H locs ls hI hS  hl
          obtain ⟨v_49, ev_49⟩ : ∃ y : Int32, y = y_15 + Int32.ofInt 1 := ⟨_, rfl⟩
          refine lv_iinc (v := v_49) (lv' := [(4, .int v_49), (3, .int y_48), (1, .long r_11), (0, .ref h0)]) hx hb dX6_eligibleBits_54 hl (k := 0) rfl ev_49.symm (by decide) rfl (fun ls hl => ?_)
          have tv_49 := k_inc y_15
          rw [← ev_49] at tv_49
          refine lv_goto (tgt := 10) hx hb dX6_eligibleBits_57 (by decide) ?_
          exact ih v_49 y_48 _ _ _ (by omega) hI hS (by first | omega | decide) (lv_sub hl [0, 1, 2, 3] rfl)
        refine lv_if_eq (tgt := 54) hx hb dX6_eligibleBits_29 (by decide) (fun c_50 => ?_) (fun c_50 => ?_)
        · have c_50 := kc_eq rfl (by decide : Int32.toInt 0 = 0) c_50
          exact J_54 y_16 _ _ _ hI hS  (lv_sub hl [0, 1, 2, 3] rfl)
        · have c_50 := kn_eq rfl (by decide : Int32.toInt 0 = 0) c_50
          refine lv_aload_n hx hb dX6_eligibleBits_32 rfl (lv_at hl 3 rfl) ?_
          refine k_get (ci := 6) (v := .ref (gr g h0 1)) (C := RX6) (T := TX6) (N := 10) hx hb hts (fun _ h0_ => List.mem_cons_of_mem _ (List.mem_append_right _ (List.mem_append_right _ (List.mem_append_left _ h0_)))) hown hK hI i_h0.1 k_13 rfl 1 (by decide) (hts (.fieldLink RX6 11 "DeadlineShare$State" "tasks" "[LDeadlineShare$Task;") (List.mem_cons_of_mem _ (List.mem_append_left _ (List.mem_of_getElem? (i := 5) rfl)))) (fun _ h9 => h9) rfl dX6_eligibleBits_33 ?_
          refine lv_iload hx hb dX6_eligibleBits_36 (lv_at hl 0 rfl) ?_
          refine k_aald hx hb hK hI i_23.1 4 k_24 rfl (vp_in_iff.mpr (by omega)) b_26 (fun _ hj => kw_20 hG i_23 hj) dX6_eligibleBits_38 (fun a_53 i_54 => ?_)
          obtain ⟨x_56, x_57, x_58, x_59, x_60, x_61, x_62, x_63, x_64, x_65, x_66, x_67, x_68, x_69, x_70, x_71, k_55⟩ := op_8 hI i_54
          refine k_get (ci := 8) (v := .long x_60) (C := RX8) (T := TX8) (N := 18) hx hb hts (fun _ h0_ => List.mem_cons_of_mem _ (List.mem_append_right _ (List.mem_append_right _ (List.mem_append_right _ (List.mem_append_right _ (List.mem_append_left _ h0_)))))) hown hK hI i_54.1 k_55 rfl 5 (by decide) (hts (.fieldLink RX6 79 "DeadlineShare$Task" "v" "J") (List.mem_cons_of_mem _ (List.mem_append_left _ (List.mem_of_getElem? (i := 10) rfl)))) (fun _ h9 => h9) rfl dX6_eligibleBits_39 ?_
          refine lv_lload_n hx hb dX6_eligibleBits_42 rfl (lv_at hl 2 rfl) ?_
          refine W.lcmp hx hb dX6_eligibleBits_43 ?_
          refine lv_if_gt (tgt := 54) hx hb dX6_eligibleBits_44 (by decide) (fun c_72 => ?_) (fun c_72 => ?_)
          · have c_72 := lc_lt rfl rfl ((lg_cmp_gt _ _).mp c_72)
            exact J_54 y_16 _ _ _ hI hS  (lv_sub hl [0, 1, 2, 3] rfl)
          · have c_72 := ln_lt rfl rfl (fun h9 => c_72 ((lg_cmp_gt _ _).mpr h9))
            refine lv_iload_n hx hb dX6_eligibleBits_47 rfl (lv_at hl 1 rfl) ?_
            refine lv_iconst (v := 1) hx hb dX6_eligibleBits_48 (by decide) ?_
            refine lv_iload hx hb dX6_eligibleBits_49 (lv_at hl 0 rfl) ?_
            refine lv_ishl hx hb dX6_eligibleBits_51 ?_
            refine lv_topi (fun v_73 ev_73 => ?_)
            refine lv_ior hx hb dX6_eligibleBits_52 ?_
            refine lv_topi (fun v_74 ev_74 => ?_)
            refine lv_istore_n (lv' := [(3, .int v_74), (4, .int y_15), (1, .long r_11), (0, .ref h0)]) hx hb dX6_eligibleBits_53 rfl hl (by decide) rfl (fun ls hl => ?_)
            exact J_54 v_74 _ _ _ hI hS  (lv_sub hl [1, 0, 2, 3] rfl)
  exact K_10 _ 0 0 _ _ _ (Nat.lt_succ_self _) hI hS (by first | omega | decide | (simp only [show Int32.toInt 0 = 0 from by decide, show Int32.toInt 0 = 0 from by decide]; omega)) (lv_sub hl [0, 1, 2, 3] rfl)
theorem tw_391 : q_g (.code yX6_howManyEarlier cX6_howManyEarlier 5 (some .int)) := ⟨(List.mem_append_right _ (List.mem_of_getElem? (i := 953) (by decide +kernel))), good_of_word (by decide +kernel)⟩
def ow_c_X6_howManyEarlier : List Cond := [.fieldLink RX6 48 "DeadlineShare$State" "count" "I", .fieldLink RX6 11 "DeadlineShare$State" "tasks" "[LDeadlineShare$Task;", .methodLink RX6 186 yX8_comesBefore, .instanceMethod yX8_comesBefore, .selects RX8 yX8_comesBefore yX8_comesBefore, .initialized RX8]
def wq_c_X6_howManyEarlier : List Cond := .code yX6_howManyEarlier cX6_howManyEarlier 5 (some .int) :: (ow_c_X6_howManyEarlier ++ (u_ws RX6 TX6 10 ++ (wq_c_X8_comesBefore ++ ([] : List Cond))))
theorem tb_c_X6_howManyEarlier : ∀ w ∈ wq_c_X6_howManyEarlier, q_g w := by
  unfold wq_c_X6_howManyEarlier ow_c_X6_howManyEarlier
  exact q_cons tw_391 (q_app (q_cons tw_13 (q_cons tw_12 (q_cons tw_72 (q_cons tw_71 (q_cons tw_70 (q_cons tw_8 q_nil)))))) (q_app tu_X6 (q_app tb_c_X8_comesBefore q_nil)))
set_option maxHeartbeats 4000000 in
set_option maxRecDepth 100000 in
theorem c_X6_howManyEarlier (l : Launch) (dC : Nat → ClassId) (dI : Nat → Nat → Nat) (g : kG) (A : Nat → Prop) (hG : kWf g) (f : Nat → va_E) (h0 : Nat) (p1 : Nat) (p2 : Int32) (i_h0 : ik g 6 h0) (i_p1 : ik g 8 p1) : Met l yX6_howManyEarlier wq_c_X6_howManyEarlier ({ frames := 3, cells := 0, slots := 0, locals := 67 } : Room) (va_Pc [.ref h0, .ref p1, .int p2] (fun U => kIn dC dI g A f U)) (va_Qi (fun (r : Int32) (_ : Unit) => True) (fun (_ : Unit) t => Iv dC dI g A f t.heap) A) 0 0 A := by
  refine Met.ofW (cc := cX6_howManyEarlier) (maxL := 5) (ret := (some .int)) (by decide) rfl ?_
  intro p e s m args below meth c s₁ B hml hv
  obtain ⟨rfl, hI, hK, hE⟩ := hv
  have hx := B.exec
  have hb := B.bytes
  have hr := B.returns
  have hts := atoms_spec (ws := wq_c_X6_howManyEarlier) B.pre
  have hown : s.vm.findClass RX6 = some m.cls := findClass_of_methodNamed B.named
  have hlocks := B.notSynchronized
  have hS : va_S A s.heap s.heap [] := va_S.rf
  have hl := lv_entry ([.ref h0, .ref p1, .int p2]) (n := 5) (Nat.le_of_ble_eq_true rfl)
  rw [lg_entry_eq]
  generalize (lg_sl ([.ref h0, .ref p1, .int p2]) ++ List.replicate (5 - (lg_sl ([.ref h0, .ref p1, .int p2])).length) Slot.unset).toArray = ls at hl ⊢
  have hl : lv_has ls 5 [(0, .ref h0), (1, .ref p1), (2, .int p2)] := hl
  refine lv_iconst (v := 0) hx hb dX6_howManyEarlier_0 (by decide) ?_
  refine lv_istore_n (lv' := [(3, .int 0), (0, .ref h0), (1, .ref p1), (2, .int p2)]) hx hb dX6_howManyEarlier_1 rfl hl (by decide) rfl (fun ls hl => ?_)
  refine lv_iconst (v := 0) hx hb dX6_howManyEarlier_2 (by decide) ?_
  refine lv_istore (lv' := [(4, .int 0), (3, .int 0), (0, .ref h0), (1, .ref p1), (2, .int p2)]) hx hb dX6_howManyEarlier_3 hl (by decide) rfl (fun ls hl => ?_)
  have K_5 : ∀ (nn : Nat) (y_1 : Int32) (y_2 : Int32) (H : Heap) (locs : List Loc) (ls : Array Slot), (12 - y_1.toInt).toNat < nn → Iv dC dI g A f H → va_S A s.heap H locs → (0 ≤ y_1.toInt) → lv_has ls 5 [(4, .int y_1), (3, .int y_2), (0, .ref h0), (1, .ref p1), (2, .int p2)] → W p l e (headSpec wq_c_X6_howManyEarlier ({ frames := 3, cells := 0, slots := 0, locals := 67 } : Room)).room s m ([.ref h0, .ref p1, .int p2].toArray) below meth c H locs 0 0 (MQ below (va_Qi (fun (r : Int32) (_ : Unit) => True) (fun (_ : Unit) t => Iv dC dI g A f t.heap) A) ([.ref h0, .ref p1, .int p2].toArray) s 0 0 A) (F0 m 5 ls []) := by
    intro nn
    induction nn with
    | zero => intro y_1 y_2 H locs ls m_4; exact absurd m_4 (Nat.not_lt_zero _)
    | succ nn ih =>
      intro y_1 y_2 H locs ls m_4 hI hS t_3 hl
      have g_5 := Int32.toInt_lt y_1
      have g_6 := Int32.le_toInt y_1
      refine lv_iload hx hb dX6_howManyEarlier_5 (lv_at hl 0 rfl) ?_
      refine lv_aload_n hx hb dX6_howManyEarlier_7 rfl (lv_at hl 2 rfl) ?_
      obtain ⟨x_8, x_9, x_10, x_11, x_12, k_7, b_13, b_14⟩ := op_6 hI i_h0
      refine k_get (ci := 6) (v := .int x_8) (C := RX6) (T := TX6) (N := 10) hx hb hts (fun _ h0_ => List.mem_cons_of_mem _ (List.mem_append_right _ (List.mem_append_left _ h0_))) hown hK hI i_h0.1 k_7 rfl 5 (by decide) (hts (.fieldLink RX6 48 "DeadlineShare$State" "count" "I") (List.mem_cons_of_mem _ (List.mem_append_left _ (List.mem_of_getElem? (i := 0) rfl)))) (fun _ h9 => h9) rfl dX6_howManyEarlier_8 ?_
      refine lv_icmp_ge (tgt := 47) hx hb dX6_howManyEarlier_11 (by decide) (fun c_15 => ?_) (fun c_15 => ?_)
      · have c_15 := kc_le rfl rfl c_15
        refine lv_iload_n hx hb dX6_howManyEarlier_47 rfl (lv_at hl 1 rfl) ?_
        exact W.iret (v := y_2) hx hb hr (fun t ht hW => ⟨⟨y_2, (), rfl, trivial, k_ret ht hI⟩, hS.F ht⟩) hS.2.2 dX6_howManyEarlier_48
      · have c_15 := kn_le rfl rfl c_15
        refine lv_iload_n hx hb dX6_howManyEarlier_14 rfl (lv_at hl 4 rfl) ?_
        refine lv_iload hx hb dX6_howManyEarlier_15 (lv_at hl 0 rfl) ?_
        refine lv_ishr hx hb dX6_howManyEarlier_17 ?_
        refine lv_topi (fun v_16 ev_16 => ?_)
        refine lv_iconst (v := 1) hx hb dX6_howManyEarlier_18 (by decide) ?_
        refine lv_iand hx hb dX6_howManyEarlier_19 ?_
        refine lv_topi (fun v_17 ev_17 => ?_)
        refine lv_iconst (v := 1) hx hb dX6_howManyEarlier_20 (by decide) ?_
        have J_41 : ∀ (y_18 : Int32) (H : Heap) (locs : List Loc) (ls : Array Slot), Iv dC dI g A f H → va_S A s.heap H locs → lv_has ls 5 [(4, .int y_1), (3, .int y_18), (0, .ref h0), (1, .ref p1), (2, .int p2)] → W p l e (headSpec wq_c_X6_howManyEarlier ({ frames := 3, cells := 0, slots := 0, locals := 67 } : Room)).room s m ([.ref h0, .ref p1, .int p2].toArray) below meth c H locs 0 0 (MQ below (va_Qi (fun (r : Int32) (_ : Unit) => True) (fun (_ : Unit) t => Iv dC dI g A f t.heap) A) ([.ref h0, .ref p1, .int p2].toArray) s 0 0 A) (F0 m 41 ls []) := by
          intro y_18 H locs ls hI hS  hl
          obtain ⟨v_19, ev_19⟩ : ∃ y : Int32, y = y_1 + Int32.ofInt 1 := ⟨_, rfl⟩
          refine lv_iinc (v := v_19) (lv' := [(4, .int v_19), (3, .int y_18), (0, .ref h0), (1, .ref p1), (2, .int p2)]) hx hb dX6_howManyEarlier_41 hl (k := 0) rfl ev_19.symm (by decide) rfl (fun ls hl => ?_)
          have tv_19 := k_inc y_1
          rw [← ev_19] at tv_19
          refine lv_goto (tgt := 5) hx hb dX6_howManyEarlier_44 (by decide) ?_
          exact ih v_19 y_18 _ _ _ (by omega) hI hS (by first | omega | decide) (lv_sub hl [0, 1, 2, 3, 4] rfl)
        refine lv_icmp_ne (tgt := 41) hx hb dX6_howManyEarlier_21 (by decide) (fun c_20 => ?_) (fun c_20 => ?_)
        · have c_20 := kn_eq rfl (by decide : Int32.toInt 1 = 1) c_20
          exact J_41 y_2 _ _ _ hI hS  (lv_sub hl [0, 1, 2, 3, 4] rfl)
        · have c_20 := kc_eq rfl (by decide : Int32.toInt 1 = 1) c_20
          refine lv_aload_n hx hb dX6_howManyEarlier_24 rfl (lv_at hl 2 rfl) ?_
          refine k_get (ci := 6) (v := .ref (gr g h0 1)) (C := RX6) (T := TX6) (N := 10) hx hb hts (fun _ h0_ => List.mem_cons_of_mem _ (List.mem_append_right _ (List.mem_append_left _ h0_))) hown hK hI i_h0.1 k_7 rfl 1 (by decide) (hts (.fieldLink RX6 11 "DeadlineShare$State" "tasks" "[LDeadlineShare$Task;") (List.mem_cons_of_mem _ (List.mem_append_left _ (List.mem_of_getElem? (i := 1) rfl)))) (fun _ h9 => h9) rfl dX6_howManyEarlier_25 ?_
          have i_22 := kw_6_1 hG i_h0
          refine lv_iload hx hb dX6_howManyEarlier_28 (lv_at hl 0 rfl) ?_
          obtain ⟨q_24, k_23, b_25⟩ := op_20 hI i_22
          refine k_aald hx hb hK hI i_22.1 4 k_23 rfl (vp_in_iff.mpr (by omega)) b_25 (fun _ hj => kw_20 hG i_22 hj) dX6_howManyEarlier_30 (fun a_26 i_27 => ?_)
          refine lv_aload_n hx hb dX6_howManyEarlier_31 rfl (lv_at hl 3 rfl) ?_
          obtain ⟨x_29, x_30, x_31, x_32, x_33, x_34, x_35, x_36, x_37, x_38, x_39, x_40, x_41, x_42, x_43, x_44, k_28⟩ := op_8 hI i_27
          refine va_calli (va_runV (As := [.ref p1]) (rest := []) ⟨hx, hb, hml, hown, hts⟩ (c_X8_comesBefore l dC dI g A hG f a_26 p1 i_27 i_p1) (cwV 1 hts (gi_V (fun w_ h0_ => ⟨List.mem_cons_of_mem _ (List.mem_append_right _ (List.mem_append_right _ (List.mem_append_left _ h0_))), (tb_c_X8_comesBefore w_ h0_).2⟩) (List.mem_cons_of_mem _ (List.mem_append_left _ (List.mem_of_getElem? (i := 2) rfl))) (List.mem_cons_of_mem _ (List.mem_append_left _ (List.mem_of_getElem? (i := 3) rfl))) (List.mem_cons_of_mem _ (List.mem_append_left _ (List.mem_of_getElem? (i := 4) rfl))) (List.mem_cons_of_mem _ (List.mem_append_left _ (List.mem_of_getElem? (i := 5) rfl)))) rfl rfl rfl (by decide +kernel) ⟨Nat.le_of_ble_eq_true rfl, Nat.le_of_ble_eq_true rfl⟩) ⟨fun a U g mk q => ⟨q.1, q.2.calling rfl rfl⟩, k_recv hK hI i_27.1 k_28 (ci := 8) rfl, fun U hU hW => ⟨rfl, kIn.of hI hK hE hS hU hW⟩⟩ rfl rfl hl.1 rfl (lv_room (Nat.le_of_ble_eq_true rfl)) dX6_howManyEarlier_32 ⟨Nat.le_of_ble_eq_true rfl, Nat.le_of_ble_eq_true rfl⟩) hS (fun q _ h => h) (fun q h => h) (fun r_46 u t H1 locs ht hvm w_45 hB hz1 hk1 hS => ?_)
          have hI : Iv dC dI g A f t.heap := hB
          rw [ht] at hI
          generalize H1 = H at hI hS ⊢
          refine W.widen (k := 0) (n := 0) (Nat.le_of_ble_eq_true rfl) (Nat.le_of_ble_eq_true rfl) ?_
          refine lv_if_eq (tgt := 41) hx hb dX6_howManyEarlier_35 (by decide) (fun c_47 => ?_) (fun c_47 => ?_)
          · have c_47 := kc_eq rfl (by decide : Int32.toInt 0 = 0) c_47
            exact J_41 y_2 _ _ _ hI hS  (lv_sub hl [0, 1, 2, 3, 4] rfl)
          · have c_47 := kn_eq rfl (by decide : Int32.toInt 0 = 0) c_47
            obtain ⟨v_48, ev_48⟩ : ∃ y : Int32, y = y_2 + Int32.ofInt 1 := ⟨_, rfl⟩
            refine lv_iinc (v := v_48) (lv' := [(3, .int v_48), (4, .int y_1), (0, .ref h0), (1, .ref p1), (2, .int p2)]) hx hb dX6_howManyEarlier_38 hl (k := 1) rfl ev_48.symm (by decide) rfl (fun ls hl => ?_)
            have tv_48 := k_inc y_2
            rw [← ev_48] at tv_48
            exact J_41 v_48 _ _ _ hI hS  (lv_sub hl [1, 0, 2, 3, 4] rfl)
  exact K_5 _ 0 0 _ _ _ (Nat.lt_succ_self _) hI hS (by first | omega | decide | (simp only [show Int32.toInt 0 = 0 from by decide, show Int32.toInt 0 = 0 from by decide]; omega)) (lv_sub hl [0, 1, 2, 3, 4] rfl)
theorem tw_392 : q_g (.selects RX6 yX6_howManyEarlier yX6_howManyEarlier) := ⟨(List.mem_append_left _ (List.mem_of_getElem? (i := 16) (by decide +kernel))), good_of_word (by decide +kernel)⟩
theorem tw_393 : q_g (.instanceMethod yX6_howManyEarlier) := ⟨(List.mem_append_right _ (List.mem_of_getElem? (i := 952) (by decide +kernel))), good_of_word (by decide +kernel)⟩
theorem tw_394 : q_g (.methodLink RX6 182 yX6_howManyEarlier) := ⟨(List.mem_append_right _ (List.mem_of_getElem? (i := 950) (by decide +kernel))), good_of_word (by decide +kernel)⟩
theorem tw_395 : q_g (.selects RX6 yX6_eligibleBits yX6_eligibleBits) := ⟨(List.mem_append_right _ (List.mem_of_getElem? (i := 939) (by decide +kernel))), good_of_word (by decide +kernel)⟩
theorem tw_396 : q_g (.instanceMethod yX6_eligibleBits) := ⟨(List.mem_append_right _ (List.mem_of_getElem? (i := 938) (by decide +kernel))), good_of_word (by decide +kernel)⟩
theorem tw_397 : q_g (.methodLink RX6 179 yX6_eligibleBits) := ⟨(List.mem_append_right _ (List.mem_of_getElem? (i := 949) (by decide +kernel))), good_of_word (by decide +kernel)⟩
theorem tw_398 : q_g (.code yX6_eligibleAt cX6_eligibleAt 4 (some .int)) := ⟨(List.mem_append_right _ (List.mem_of_getElem? (i := 948) (by decide +kernel))), good_of_word (by decide +kernel)⟩
def ow_c_X6_eligibleAt : List Cond := [.methodLink RX6 179 yX6_eligibleBits, .instanceMethod yX6_eligibleBits, .selects RX6 yX6_eligibleBits yX6_eligibleBits, .initialized RX6, .fieldLink RX6 48 "DeadlineShare$State" "count" "I", .fieldLink RX6 11 "DeadlineShare$State" "tasks" "[LDeadlineShare$Task;", .methodLink RX6 182 yX6_howManyEarlier, .instanceMethod yX6_howManyEarlier, .selects RX6 yX6_howManyEarlier yX6_howManyEarlier]
def wq_c_X6_eligibleAt : List Cond := .code yX6_eligibleAt cX6_eligibleAt 4 (some .int) :: (ow_c_X6_eligibleAt ++ (wq_c_X6_eligibleBits ++ (u_ws RX6 TX6 10 ++ (wq_c_X6_howManyEarlier ++ ([] : List Cond)))))
theorem tb_c_X6_eligibleAt : ∀ w ∈ wq_c_X6_eligibleAt, q_g w := by
  unfold wq_c_X6_eligibleAt ow_c_X6_eligibleAt
  exact q_cons tw_398 (q_app (q_cons tw_397 (q_cons tw_396 (q_cons tw_395 (q_cons tw_47 (q_cons tw_13 (q_cons tw_12 (q_cons tw_394 (q_cons tw_393 (q_cons tw_392 q_nil))))))))) (q_app tb_c_X6_eligibleBits (q_app tu_X6 (q_app tb_c_X6_howManyEarlier q_nil))))
set_option maxHeartbeats 4000000 in
set_option maxRecDepth 100000 in
theorem c_X6_eligibleAt (l : Launch) (dC : Nat → ClassId) (dI : Nat → Nat → Nat) (g : kG) (A : Nat → Prop) (hG : kWf g) (f : Nat → va_E) (h0 : Nat) (p1 : Int32) (i_h0 : ik g 6 h0) : Met l yX6_eligibleAt wq_c_X6_eligibleAt ({ frames := 4, cells := 0, slots := 0, locals := 93 } : Room) (va_Pc [.ref h0, .int p1] (fun U => kIn dC dI g A f U)) (va_Qi (fun (r : Int32) (_ : Unit) => True) (fun (_ : Unit) t => ∃ f1 : Nat → va_E, Iv dC dI g A f1 t.heap ∧ Kp g [10] f f1) A) 0 0 A := by
  refine Met.ofW (cc := cX6_eligibleAt) (maxL := 4) (ret := (some .int)) (by decide) rfl ?_
  intro p e s m args below meth c s₁ B hml hv
  obtain ⟨rfl, hI, hK, hE⟩ := hv
  have hx := B.exec
  have hb := B.bytes
  have hr := B.returns
  have hts := atoms_spec (ws := wq_c_X6_eligibleAt) B.pre
  have hown : s.vm.findClass RX6 = some m.cls := findClass_of_methodNamed B.named
  have hlocks := B.notSynchronized
  have hS : va_S A s.heap s.heap [] := va_S.rf
  have hk0 : Kp g [10] f f := Kp.rf
  have hl := lv_entry ([.ref h0, .int p1]) (n := 4) (Nat.le_of_ble_eq_true rfl)
  rw [lg_entry_eq]
  generalize (lg_sl ([.ref h0, .int p1]) ++ List.replicate (4 - (lg_sl ([.ref h0, .int p1])).length) Slot.unset).toArray = ls at hl ⊢
  have hl : lv_has ls 4 [(0, .ref h0), (1, .int p1)] := hl
  refine lv_aload_n hx hb dX6_eligibleAt_0 rfl (lv_at hl 0 rfl) ?_
  obtain ⟨x_2, x_3, x_4, x_5, x_6, k_1, b_7, b_8⟩ := op_6 hI i_h0
  refine va_calli (va_runV (As := []) (rest := []) ⟨hx, hb, hml, hown, hts⟩ (c_X6_eligibleBits l dC dI g A hG f h0 i_h0) (cwV 0 hts (gi_V (fun w_ h0_ => ⟨List.mem_cons_of_mem _ (List.mem_append_right _ (List.mem_append_left _ h0_)), (tb_c_X6_eligibleBits w_ h0_).2⟩) (List.mem_cons_of_mem _ (List.mem_append_left _ (List.mem_of_getElem? (i := 0) rfl))) (List.mem_cons_of_mem _ (List.mem_append_left _ (List.mem_of_getElem? (i := 1) rfl))) (List.mem_cons_of_mem _ (List.mem_append_left _ (List.mem_of_getElem? (i := 2) rfl))) (List.mem_cons_of_mem _ (List.mem_append_left _ (List.mem_of_getElem? (i := 3) rfl)))) rfl rfl rfl (by decide +kernel) ⟨Nat.le_of_ble_eq_true rfl, Nat.le_of_ble_eq_true rfl⟩) ⟨fun a U g mk q => ⟨q.1, q.2.calling rfl rfl⟩, k_recv hK hI i_h0.1 k_1 (ci := 6) rfl, fun U hU hW => ⟨rfl, kIn.of hI hK hE hS hU hW⟩⟩ rfl rfl hl.1 rfl (lv_room (Nat.le_of_ble_eq_true rfl)) dX6_eligibleAt_1 ⟨Nat.le_of_ble_eq_true rfl, Nat.le_of_ble_eq_true rfl⟩) hS (fun q _ h => h) (fun q h => h) (fun r_11 u t H1 locs ht hvm w_10 hB hz1 hk1 hS => ?_)
  obtain ⟨f_9, hI, kc_12⟩ := hB
  rw [ht] at hI
  have k_13 : f_9 h0 = .inr (6, [.ref (gr g h0 0), .ref (gr g h0 1), .ref (gr g h0 2), .ref (gr g h0 3), .ref (gr g h0 4), .int x_2, .int x_3, .long x_4, .int x_5, .int x_6]) := Kp.at kc_12 i_h0 (by decide) k_1
  have kp_14 := Kp.call hk0 kc_12 (by decide)
  generalize H1 = H at hI hS ⊢
  refine W.widen (k := 0) (n := 0) (Nat.le_of_ble_eq_true rfl) (Nat.le_of_ble_eq_true rfl) ?_
  refine lv_istore_n (lv' := [(2, .int r_11), (0, .ref h0), (1, .int p1)]) hx hb dX6_eligibleAt_4 rfl hl (by decide) rfl (fun ls hl => ?_)
  refine lv_iconst (v := 0) hx hb dX6_eligibleAt_5 (by decide) ?_
  refine lv_istore_n (lv' := [(3, .int 0), (2, .int r_11), (0, .ref h0), (1, .int p1)]) hx hb dX6_eligibleAt_6 rfl hl (by decide) rfl (fun ls hl => ?_)
  have K_7 : ∀ (nn : Nat) (y_15 : Int32) (H : Heap) (locs : List Loc) (ls : Array Slot), (12 - y_15.toInt).toNat < nn → Iv dC dI g A f_9 H → va_S A s.heap H locs → (0 ≤ y_15.toInt) → lv_has ls 4 [(3, .int y_15), (2, .int r_11), (0, .ref h0), (1, .int p1)] → W p l e (headSpec wq_c_X6_eligibleAt ({ frames := 4, cells := 0, slots := 0, locals := 93 } : Room)).room s m ([.ref h0, .int p1].toArray) below meth c H locs 0 0 (MQ below (va_Qi (fun (r : Int32) (_ : Unit) => True) (fun (_ : Unit) t => ∃ f1 : Nat → va_E, Iv dC dI g A f1 t.heap ∧ Kp g [10] f f1) A) ([.ref h0, .int p1].toArray) s 0 0 A) (F0 m 7 ls []) := by
    intro nn
    induction nn with
    | zero => intro y_15 H locs ls m_17; exact absurd m_17 (Nat.not_lt_zero _)
    | succ nn ih =>
      intro y_15 H locs ls m_17 hI hS t_16 hl
      have g_18 := Int32.toInt_lt y_15
      have g_19 := Int32.le_toInt y_15
      refine lv_iload_n hx hb dX6_eligibleAt_7 rfl (lv_at hl 0 rfl) ?_
      refine lv_aload_n hx hb dX6_eligibleAt_8 rfl (lv_at hl 2 rfl) ?_
      refine k_get (ci := 6) (v := .int x_2) (C := RX6) (T := TX6) (N := 10) hx hb hts (fun _ h0_ => List.mem_cons_of_mem _ (List.mem_append_right _ (List.mem_append_right _ (List.mem_append_left _ h0_)))) hown hK hI i_h0.1 k_13 rfl 5 (by decide) (hts (.fieldLink RX6 48 "DeadlineShare$State" "count" "I") (List.mem_cons_of_mem _ (List.mem_append_left _ (List.mem_of_getElem? (i := 4) rfl)))) (fun _ h9 => h9) rfl dX6_eligibleAt_9 ?_
      refine lv_icmp_ge (tgt := 47) hx hb dX6_eligibleAt_12 (by decide) (fun c_20 => ?_) (fun c_20 => ?_)
      · have c_20 := kc_le rfl rfl c_20
        refine lv_iconst (v := (-1)) hx hb dX6_eligibleAt_47 (by decide) ?_
        exact W.iret (v := (-1)) hx hb hr (fun t ht hW => ⟨⟨(-1), (), rfl, trivial, ⟨f_9, k_ret ht hI, kp_14⟩⟩, hS.F ht⟩) hS.2.2 dX6_eligibleAt_48
      · have c_20 := kn_le rfl rfl c_20
        refine lv_iload_n hx hb dX6_eligibleAt_15 rfl (lv_at hl 1 rfl) ?_
        refine lv_iload_n hx hb dX6_eligibleAt_16 rfl (lv_at hl 0 rfl) ?_
        refine lv_ishr hx hb dX6_eligibleAt_17 ?_
        refine lv_topi (fun v_21 ev_21 => ?_)
        refine lv_iconst (v := 1) hx hb dX6_eligibleAt_18 (by decide) ?_
        refine lv_iand hx hb dX6_eligibleAt_19 ?_
        refine lv_topi (fun v_22 ev_22 => ?_)
        refine lv_iconst (v := 1) hx hb dX6_eligibleAt_20 (by decide) ?_
        have J_41 : ∀ (H : Heap) (locs : List Loc) (ls : Array Slot), Iv dC dI g A f_9 H → va_S A s.heap H locs → lv_has ls 4 [(3, .int y_15), (2, .int r_11), (0, .ref h0), (1, .int p1)] → W p l e (headSpec wq_c_X6_eligibleAt ({ frames := 4, cells := 0, slots := 0, locals := 93 } : Room)).room s m ([.ref h0, .int p1].toArray) below meth c H locs 0 0 (MQ below (va_Qi (fun (r : Int32) (_ : Unit) => True) (fun (_ : Unit) t => ∃ f1 : Nat → va_E, Iv dC dI g A f1 t.heap ∧ Kp g [10] f f1) A) ([.ref h0, .int p1].toArray) s 0 0 A) (F0 m 41 ls []) := by
          intro H locs ls hI hS  hl
          obtain ⟨v_23, ev_23⟩ : ∃ y : Int32, y = y_15 + Int32.ofInt 1 := ⟨_, rfl⟩
          refine lv_iinc (v := v_23) (lv' := [(3, .int v_23), (2, .int r_11), (0, .ref h0), (1, .int p1)]) hx hb dX6_eligibleAt_41 hl (k := 0) rfl ev_23.symm (by decide) rfl (fun ls hl => ?_)
          have tv_23 := k_inc y_15
          rw [← ev_23] at tv_23
          refine lv_goto (tgt := 7) hx hb dX6_eligibleAt_44 (by decide) ?_
          exact ih v_23 _ _ _ (by omega) hI hS (by first | omega | decide) (lv_sub hl [0, 1, 2, 3] rfl)
        refine lv_icmp_ne (tgt := 41) hx hb dX6_eligibleAt_21 (by decide) (fun c_24 => ?_) (fun c_24 => ?_)
        · have c_24 := kn_eq rfl (by decide : Int32.toInt 1 = 1) c_24
          exact J_41  _ _ _ hI hS  (lv_sub hl [0, 1, 2, 3] rfl)
        · have c_24 := kc_eq rfl (by decide : Int32.toInt 1 = 1) c_24
          refine lv_aload_n hx hb dX6_eligibleAt_24 rfl (lv_at hl 2 rfl) ?_
          refine lv_aload_n hx hb dX6_eligibleAt_25 rfl (lv_at hl 2 rfl) ?_
          refine k_get (ci := 6) (v := .ref (gr g h0 1)) (C := RX6) (T := TX6) (N := 10) hx hb hts (fun _ h0_ => List.mem_cons_of_mem _ (List.mem_append_right _ (List.mem_append_right _ (List.mem_append_left _ h0_)))) hown hK hI i_h0.1 k_13 rfl 1 (by decide) (hts (.fieldLink RX6 11 "DeadlineShare$State" "tasks" "[LDeadlineShare$Task;") (List.mem_cons_of_mem _ (List.mem_append_left _ (List.mem_of_getElem? (i := 5) rfl)))) (fun _ h9 => h9) rfl dX6_eligibleAt_26 ?_
          have i_26 := kw_6_1 hG i_h0
          refine lv_iload_n hx hb dX6_eligibleAt_29 rfl (lv_at hl 0 rfl) ?_
          obtain ⟨q_28, k_27, b_29⟩ := op_20 hI i_26
          refine k_aald hx hb hK hI i_26.1 4 k_27 rfl (vp_in_iff.mpr (by omega)) b_29 (fun _ hj => kw_20 hG i_26 hj) dX6_eligibleAt_30 (fun a_30 i_31 => ?_)
          refine lv_iload_n hx hb dX6_eligibleAt_31 rfl (lv_at hl 1 rfl) ?_
          refine va_calli (va_runV (As := [.ref a_30, .int r_11]) (rest := []) ⟨hx, hb, hml, hown, hts⟩ (c_X6_howManyEarlier l dC dI g A hG f_9 h0 a_30 r_11 i_h0 i_31) (cwV 2 hts (gi_V (fun w_ h0_ => ⟨List.mem_cons_of_mem _ (List.mem_append_right _ (List.mem_append_right _ (List.mem_append_right _ (List.mem_append_left _ h0_)))), (tb_c_X6_howManyEarlier w_ h0_).2⟩) (List.mem_cons_of_mem _ (List.mem_append_left _ (List.mem_of_getElem? (i := 6) rfl))) (List.mem_cons_of_mem _ (List.mem_append_left _ (List.mem_of_getElem? (i := 7) rfl))) (List.mem_cons_of_mem _ (List.mem_append_left _ (List.mem_of_getElem? (i := 8) rfl))) (List.mem_cons_of_mem _ (List.mem_append_left _ (List.mem_of_getElem? (i := 3) rfl)))) rfl rfl rfl (by decide +kernel) ⟨Nat.le_of_ble_eq_true rfl, Nat.le_of_ble_eq_true rfl⟩) ⟨fun a U g mk q => ⟨q.1, q.2.calling rfl rfl⟩, k_recv hK hI i_h0.1 k_13 (ci := 6) rfl, fun U hU hW => ⟨rfl, kIn.of hI hK hE hS hU hW⟩⟩ rfl rfl hl.1 rfl (lv_room (Nat.le_of_ble_eq_true rfl)) dX6_eligibleAt_32 ⟨Nat.le_of_ble_eq_true rfl, Nat.le_of_ble_eq_true rfl⟩) hS (fun q _ h => h) (fun q h => h) (fun r_33 u t H1 locs ht hvm w_32 hB hz1 hk1 hS => ?_)
          have hI : Iv dC dI g A f_9 t.heap := hB
          rw [ht] at hI
          generalize H1 = H at hI hS ⊢
          refine W.widen (k := 0) (n := 0) (Nat.le_of_ble_eq_true rfl) (Nat.le_of_ble_eq_true rfl) ?_
          refine lv_iload_n hx hb dX6_eligibleAt_35 rfl (lv_at hl 3 rfl) ?_
          refine lv_icmp_ne (tgt := 41) hx hb dX6_eligibleAt_36 (by decide) (fun c_34 => ?_) (fun c_34 => ?_)
          · have c_34 := kn_eq rfl rfl c_34
            exact J_41  _ _ _ hI hS  (lv_sub hl [0, 1, 2, 3] rfl)
          · have c_34 := kc_eq rfl rfl c_34
            refine lv_iload_n hx hb dX6_eligibleAt_39 rfl (lv_at hl 0 rfl) ?_
            exact W.iret (v := y_15) hx hb hr (fun t ht hW => ⟨⟨y_15, (), rfl, trivial, ⟨f_9, k_ret ht hI, kp_14⟩⟩, hS.F ht⟩) hS.2.2 dX6_eligibleAt_40
  exact K_7 _ 0 _ _ _ (Nat.lt_succ_self _) hI hS (by first | omega | decide | (simp only [show Int32.toInt 0 = 0 from by decide]; omega)) (lv_sub hl [0, 1, 2, 3] rfl)
theorem tw_399 : q_g (.code yX6_howManyBefore cX6_howManyBefore 5 (some .int)) := ⟨(List.mem_append_right _ (List.mem_of_getElem? (i := 961) (by decide +kernel))), good_of_word (by decide +kernel)⟩
def ow_c_X6_howManyBefore : List Cond := [.fieldLink RX6 48 "DeadlineShare$State" "count" "I", .fieldLink RX6 11 "DeadlineShare$State" "tasks" "[LDeadlineShare$Task;", .methodLink RX6 111 yX8_isOn, .instanceMethod yX8_isOn, .selects RX8 yX8_isOn yX8_isOn, .initialized RX8, .fieldLink RX6 79 "DeadlineShare$Task" "v" "J", .fieldLink RX6 165 "DeadlineShare$Task" "number" "I"]
def wq_c_X6_howManyBefore : List Cond := .code yX6_howManyBefore cX6_howManyBefore 5 (some .int) :: (ow_c_X6_howManyBefore ++ (u_ws RX6 TX6 10 ++ (wq_c_X8_isOn ++ (u_ws RX8 TX8 18 ++ ([] : List Cond)))))
theorem tb_c_X6_howManyBefore : ∀ w ∈ wq_c_X6_howManyBefore, q_g w := by
  unfold wq_c_X6_howManyBefore ow_c_X6_howManyBefore
  exact q_cons tw_399 (q_app (q_cons tw_13 (q_cons tw_12 (q_cons tw_11 (q_cons tw_10 (q_cons tw_9 (q_cons tw_8 (q_cons tw_7 (q_cons tw_379 q_nil)))))))) (q_app tu_X6 (q_app tb_c_X8_isOn (q_app tu_X8 q_nil))))
set_option maxHeartbeats 4000000 in
set_option maxRecDepth 100000 in
theorem c_X6_howManyBefore (l : Launch) (dC : Nat → ClassId) (dI : Nat → Nat → Nat) (g : kG) (A : Nat → Prop) (hG : kWf g) (f : Nat → va_E) (h0 : Nat) (p1 : Nat) (i_h0 : ik g 6 h0) (i_p1 : ik g 8 p1) : Met l yX6_howManyBefore wq_c_X6_howManyBefore ({ frames := 1, cells := 0, slots := 0, locals := 20 } : Room) (va_Pc [.ref h0, .ref p1] (fun U => kIn dC dI g A f U)) (va_Qi (fun (r : Int32) (_ : Unit) => True) (fun (_ : Unit) t => Iv dC dI g A f t.heap) A) 0 0 A := by
  refine Met.ofW (cc := cX6_howManyBefore) (maxL := 5) (ret := (some .int)) (by decide) rfl ?_
  intro p e s m args below meth c s₁ B hml hv
  obtain ⟨rfl, hI, hK, hE⟩ := hv
  have hx := B.exec
  have hb := B.bytes
  have hr := B.returns
  have hts := atoms_spec (ws := wq_c_X6_howManyBefore) B.pre
  have hown : s.vm.findClass RX6 = some m.cls := findClass_of_methodNamed B.named
  have hlocks := B.notSynchronized
  have hS : va_S A s.heap s.heap [] := va_S.rf
  have hl := lv_entry ([.ref h0, .ref p1]) (n := 5) (Nat.le_of_ble_eq_true rfl)
  rw [lg_entry_eq]
  generalize (lg_sl ([.ref h0, .ref p1]) ++ List.replicate (5 - (lg_sl ([.ref h0, .ref p1])).length) Slot.unset).toArray = ls at hl ⊢
  have hl : lv_has ls 5 [(0, .ref h0), (1, .ref p1)] := hl
  refine lv_iconst (v := 0) hx hb dX6_howManyBefore_0 (by decide) ?_
  refine lv_istore_n (lv' := [(2, .int 0), (0, .ref h0), (1, .ref p1)]) hx hb dX6_howManyBefore_1 rfl hl (by decide) rfl (fun ls hl => ?_)
  refine lv_iconst (v := 0) hx hb dX6_howManyBefore_2 (by decide) ?_
  refine lv_istore_n (lv' := [(3, .int 0), (2, .int 0), (0, .ref h0), (1, .ref p1)]) hx hb dX6_howManyBefore_3 rfl hl (by decide) rfl (fun ls hl => ?_)
  have K_4 : ∀ (nn : Nat) (y_1 : Int32) (y_2 : Int32) (H : Heap) (locs : List Loc) (ls : Array Slot), (12 - y_1.toInt).toNat < nn → Iv dC dI g A f H → va_S A s.heap H locs → (0 ≤ y_1.toInt) → lv_has ls 5 [(3, .int y_1), (2, .int y_2), (0, .ref h0), (1, .ref p1)] → W p l e (headSpec wq_c_X6_howManyBefore ({ frames := 1, cells := 0, slots := 0, locals := 20 } : Room)).room s m ([.ref h0, .ref p1].toArray) below meth c H locs 0 0 (MQ below (va_Qi (fun (r : Int32) (_ : Unit) => True) (fun (_ : Unit) t => Iv dC dI g A f t.heap) A) ([.ref h0, .ref p1].toArray) s 0 0 A) (F0 m 4 ls []) := by
    intro nn
    induction nn with
    | zero => intro y_1 y_2 H locs ls m_4; exact absurd m_4 (Nat.not_lt_zero _)
    | succ nn ih =>
      intro y_1 y_2 H locs ls m_4 hI hS t_3 hl
      have g_5 := Int32.toInt_lt y_1
      have g_6 := Int32.le_toInt y_1
      refine lv_iload_n hx hb dX6_howManyBefore_4 rfl (lv_at hl 0 rfl) ?_
      refine lv_aload_n hx hb dX6_howManyBefore_5 rfl (lv_at hl 2 rfl) ?_
      obtain ⟨x_8, x_9, x_10, x_11, x_12, k_7, b_13, b_14⟩ := op_6 hI i_h0
      refine k_get (ci := 6) (v := .int x_8) (C := RX6) (T := TX6) (N := 10) hx hb hts (fun _ h0_ => List.mem_cons_of_mem _ (List.mem_append_right _ (List.mem_append_left _ h0_))) hown hK hI i_h0.1 k_7 rfl 5 (by decide) (hts (.fieldLink RX6 48 "DeadlineShare$State" "count" "I") (List.mem_cons_of_mem _ (List.mem_append_left _ (List.mem_of_getElem? (i := 0) rfl)))) (fun _ h9 => h9) rfl dX6_howManyBefore_6 ?_
      refine lv_icmp_ge (tgt := 71) hx hb dX6_howManyBefore_9 (by decide) (fun c_15 => ?_) (fun c_15 => ?_)
      · have c_15 := kc_le rfl rfl c_15
        refine lv_iload_n hx hb dX6_howManyBefore_71 rfl (lv_at hl 1 rfl) ?_
        exact W.iret (v := y_2) hx hb hr (fun t ht hW => ⟨⟨y_2, (), rfl, trivial, k_ret ht hI⟩, hS.F ht⟩) hS.2.2 dX6_howManyBefore_72
      · have c_15 := kn_le rfl rfl c_15
        refine lv_aload_n hx hb dX6_howManyBefore_12 rfl (lv_at hl 2 rfl) ?_
        refine k_get (ci := 6) (v := .ref (gr g h0 1)) (C := RX6) (T := TX6) (N := 10) hx hb hts (fun _ h0_ => List.mem_cons_of_mem _ (List.mem_append_right _ (List.mem_append_left _ h0_))) hown hK hI i_h0.1 k_7 rfl 1 (by decide) (hts (.fieldLink RX6 11 "DeadlineShare$State" "tasks" "[LDeadlineShare$Task;") (List.mem_cons_of_mem _ (List.mem_append_left _ (List.mem_of_getElem? (i := 1) rfl)))) (fun _ h9 => h9) rfl dX6_howManyBefore_13 ?_
        have i_17 := kw_6_1 hG i_h0
        refine lv_iload_n hx hb dX6_howManyBefore_16 rfl (lv_at hl 0 rfl) ?_
        obtain ⟨q_19, k_18, b_20⟩ := op_20 hI i_17
        refine k_aald hx hb hK hI i_17.1 4 k_18 rfl (vp_in_iff.mpr (by omega)) b_20 (fun _ hj => kw_20 hG i_17 hj) dX6_howManyBefore_17 (fun a_21 i_22 => ?_)
        refine lv_astore (lv' := [(4, .ref a_21), (3, .int y_1), (2, .int y_2), (0, .ref h0), (1, .ref p1)]) hx hb dX6_howManyBefore_18 hl (by decide) rfl (fun ls hl => ?_)
        refine lv_aload hx hb dX6_howManyBefore_20 (lv_at hl 0 rfl) ?_
        obtain ⟨x_24, x_25, x_26, x_27, x_28, x_29, x_30, x_31, x_32, x_33, x_34, x_35, x_36, x_37, x_38, x_39, k_23⟩ := op_8 hI i_22
        refine va_calli (va_runV (As := []) (rest := []) ⟨hx, hb, hml, hown, hts⟩ (c_X8_isOn l dC dI g A hG f a_21 i_22) (cwV 0 hts (gi_V (fun w_ h0_ => ⟨List.mem_cons_of_mem _ (List.mem_append_right _ (List.mem_append_right _ (List.mem_append_left _ h0_))), (tb_c_X8_isOn w_ h0_).2⟩) (List.mem_cons_of_mem _ (List.mem_append_left _ (List.mem_of_getElem? (i := 2) rfl))) (List.mem_cons_of_mem _ (List.mem_append_left _ (List.mem_of_getElem? (i := 3) rfl))) (List.mem_cons_of_mem _ (List.mem_append_left _ (List.mem_of_getElem? (i := 4) rfl))) (List.mem_cons_of_mem _ (List.mem_append_left _ (List.mem_of_getElem? (i := 5) rfl)))) rfl rfl rfl (by decide +kernel) ⟨Nat.le_of_ble_eq_true rfl, Nat.le_of_ble_eq_true rfl⟩) ⟨fun a U g mk q => ⟨q.1, q.2.calling rfl rfl⟩, k_recv hK hI i_22.1 k_23 (ci := 8) rfl, fun U hU hW => ⟨rfl, kIn.of hI hK hE hS hU hW⟩⟩ rfl rfl hl.1 rfl (lv_room (Nat.le_of_ble_eq_true rfl)) dX6_howManyBefore_22 ⟨Nat.le_of_ble_eq_true rfl, Nat.le_of_ble_eq_true rfl⟩) hS (fun q _ h => h) (fun q h => h) (fun r_41 u t H1 locs ht hvm w_40 hB hz1 hk1 hS => ?_)
        have hI : Iv dC dI g A f t.heap := hB
        rw [ht] at hI
        generalize H1 = H at hI hS ⊢
        refine W.widen (k := 0) (n := 0) (Nat.le_of_ble_eq_true rfl) (Nat.le_of_ble_eq_true rfl) ?_
        have J_65 : ∀ (y_42 : Int32) (H : Heap) (locs : List Loc) (ls : Array Slot), Iv dC dI g A f H → va_S A s.heap H locs → lv_has ls 5 [(4, .ref a_21), (3, .int y_1), (2, .int y_42), (0, .ref h0), (1, .ref p1)] → W p l e (headSpec wq_c_X6_howManyBefore ({ frames := 1, cells := 0, slots := 0, locals := 20 } : Room)).room s m ([.ref h0, .ref p1].toArray) below meth c H locs 0 0 (MQ below (va_Qi (fun (r : Int32) (_ : Unit) => True) (fun (_ : Unit) t => Iv dC dI g A f t.heap) A) ([.ref h0, .ref p1].toArray) s 0 0 A) (F0 m 65 ls []) := by
          intro y_42 H locs ls hI hS  hl
          obtain ⟨v_43, ev_43⟩ : ∃ y : Int32, y = y_1 + Int32.ofInt 1 := ⟨_, rfl⟩
          refine lv_iinc (v := v_43) (lv' := [(3, .int v_43), (4, .ref a_21), (2, .int y_42), (0, .ref h0), (1, .ref p1)]) hx hb dX6_howManyBefore_65 hl (k := 1) rfl ev_43.symm (by decide) rfl (fun ls hl => ?_)
          have tv_43 := k_inc y_1
          rw [← ev_43] at tv_43
          refine lv_goto (tgt := 4) hx hb dX6_howManyBefore_68 (by decide) ?_
          exact ih v_43 y_42 _ _ _ (by omega) hI hS (by first | omega | decide) (lv_sub hl [0, 2, 3, 4] rfl)
        refine lv_if_eq (tgt := 65) hx hb dX6_howManyBefore_25 (by decide) (fun c_44 => ?_) (fun c_44 => ?_)
        · have c_44 := kc_eq rfl (by decide : Int32.toInt 0 = 0) c_44
          exact J_65 y_2 _ _ _ hI hS  (lv_sub hl [0, 1, 2, 3, 4] rfl)
        · have c_44 := kn_eq rfl (by decide : Int32.toInt 0 = 0) c_44
          refine lv_aload hx hb dX6_howManyBefore_28 (lv_at hl 0 rfl) ?_
          refine k_get (ci := 8) (v := .long x_28) (C := RX8) (T := TX8) (N := 18) hx hb hts (fun _ h0_ => List.mem_cons_of_mem _ (List.mem_append_right _ (List.mem_append_right _ (List.mem_append_right _ (List.mem_append_left _ h0_))))) hown hK hI i_22.1 k_23 rfl 5 (by decide) (hts (.fieldLink RX6 79 "DeadlineShare$Task" "v" "J") (List.mem_cons_of_mem _ (List.mem_append_left _ (List.mem_of_getElem? (i := 6) rfl)))) (fun _ h9 => h9) rfl dX6_howManyBefore_30 ?_
          refine lv_aload_n hx hb dX6_howManyBefore_33 rfl (lv_at hl 4 rfl) ?_
          obtain ⟨x_46, x_47, x_48, x_49, x_50, x_51, x_52, x_53, x_54, x_55, x_56, x_57, x_58, x_59, x_60, x_61, k_45⟩ := op_8 hI i_p1
          refine k_get (ci := 8) (v := .long x_50) (C := RX8) (T := TX8) (N := 18) hx hb hts (fun _ h0_ => List.mem_cons_of_mem _ (List.mem_append_right _ (List.mem_append_right _ (List.mem_append_right _ (List.mem_append_left _ h0_))))) hown hK hI i_p1.1 k_45 rfl 5 (by decide) (hts (.fieldLink RX6 79 "DeadlineShare$Task" "v" "J") (List.mem_cons_of_mem _ (List.mem_append_left _ (List.mem_of_getElem? (i := 6) rfl)))) (fun _ h9 => h9) rfl dX6_howManyBefore_34 ?_
          refine W.lcmp hx hb dX6_howManyBefore_37 ?_
          have J_62 : ∀ (H : Heap) (locs : List Loc) (ls : Array Slot), Iv dC dI g A f H → va_S A s.heap H locs → lv_has ls 5 [(4, .ref a_21), (3, .int y_1), (2, .int y_2), (0, .ref h0), (1, .ref p1)] → W p l e (headSpec wq_c_X6_howManyBefore ({ frames := 1, cells := 0, slots := 0, locals := 20 } : Room)).room s m ([.ref h0, .ref p1].toArray) below meth c H locs 0 0 (MQ below (va_Qi (fun (r : Int32) (_ : Unit) => True) (fun (_ : Unit) t => Iv dC dI g A f t.heap) A) ([.ref h0, .ref p1].toArray) s 0 0 A) (F0 m 62 ls []) := by
            intro H locs ls hI hS  hl
            obtain ⟨v_62, ev_62⟩ : ∃ y : Int32, y = y_2 + Int32.ofInt 1 := ⟨_, rfl⟩
            refine lv_iinc (v := v_62) (lv' := [(2, .int v_62), (4, .ref a_21), (3, .int y_1), (0, .ref h0), (1, .ref p1)]) hx hb dX6_howManyBefore_62 hl (k := 2) rfl ev_62.symm (by decide) rfl (fun ls hl => ?_)
            have tv_62 := k_inc y_2
            rw [← ev_62] at tv_62
            exact J_65 v_62 _ _ _ hI hS  (lv_sub hl [1, 2, 0, 3, 4] rfl)
          refine lv_if_lt (tgt := 62) hx hb dX6_howManyBefore_38 (by decide) (fun c_63 => ?_) (fun c_63 => ?_)
          · have c_63 := lc_lt rfl rfl ((lg_cmp_lt _ _).mp c_63)
            exact J_62  _ _ _ hI hS  (lv_sub hl [0, 1, 2, 3, 4] rfl)
          · have c_63 := ln_lt rfl rfl (fun h9 => c_63 ((lg_cmp_lt _ _).mpr h9))
            refine lv_aload hx hb dX6_howManyBefore_41 (lv_at hl 0 rfl) ?_
            refine k_get (ci := 8) (v := .long x_28) (C := RX8) (T := TX8) (N := 18) hx hb hts (fun _ h0_ => List.mem_cons_of_mem _ (List.mem_append_right _ (List.mem_append_right _ (List.mem_append_right _ (List.mem_append_left _ h0_))))) hown hK hI i_22.1 k_23 rfl 5 (by decide) (hts (.fieldLink RX6 79 "DeadlineShare$Task" "v" "J") (List.mem_cons_of_mem _ (List.mem_append_left _ (List.mem_of_getElem? (i := 6) rfl)))) (fun _ h9 => h9) rfl dX6_howManyBefore_43 ?_
            refine lv_aload_n hx hb dX6_howManyBefore_46 rfl (lv_at hl 4 rfl) ?_
            refine k_get (ci := 8) (v := .long x_50) (C := RX8) (T := TX8) (N := 18) hx hb hts (fun _ h0_ => List.mem_cons_of_mem _ (List.mem_append_right _ (List.mem_append_right _ (List.mem_append_right _ (List.mem_append_left _ h0_))))) hown hK hI i_p1.1 k_45 rfl 5 (by decide) (hts (.fieldLink RX6 79 "DeadlineShare$Task" "v" "J") (List.mem_cons_of_mem _ (List.mem_append_left _ (List.mem_of_getElem? (i := 6) rfl)))) (fun _ h9 => h9) rfl dX6_howManyBefore_47 ?_
            refine W.lcmp hx hb dX6_howManyBefore_50 ?_
            refine lv_if_ne (tgt := 65) hx hb dX6_howManyBefore_51 (by decide) (fun c_64 => ?_) (fun c_64 => ?_)
            · have c_64 := ln_eq rfl rfl (fun h9 => c_64 ((lg_cmp_eq _ _).mpr h9))
              exact J_65 y_2 _ _ _ hI hS  (lv_sub hl [0, 1, 2, 3, 4] rfl)
            · have c_64 := lc_eq rfl rfl ((lg_cmp_eq _ _).mp c_64)
              refine lv_iload_n hx hb dX6_howManyBefore_54 rfl (lv_at hl 1 rfl) ?_
              refine lv_aload_n hx hb dX6_howManyBefore_55 rfl (lv_at hl 4 rfl) ?_
              refine k_get (ci := 8) (v := .int x_46) (C := RX8) (T := TX8) (N := 18) hx hb hts (fun _ h0_ => List.mem_cons_of_mem _ (List.mem_append_right _ (List.mem_append_right _ (List.mem_append_right _ (List.mem_append_left _ h0_))))) hown hK hI i_p1.1 k_45 rfl 0 (by decide) (hts (.fieldLink RX6 165 "DeadlineShare$Task" "number" "I") (List.mem_cons_of_mem _ (List.mem_append_left _ (List.mem_of_getElem? (i := 7) rfl)))) (fun _ h9 => h9) rfl dX6_howManyBefore_56 ?_
              refine lv_icmp_ge (tgt := 65) hx hb dX6_howManyBefore_59 (by decide) (fun c_65 => ?_) (fun c_65 => ?_)
              · have c_65 := kc_le rfl rfl c_65
                exact J_65 y_2 _ _ _ hI hS  (lv_sub hl [0, 1, 2, 3, 4] rfl)
              · have c_65 := kn_le rfl rfl c_65
                exact J_62  _ _ _ hI hS  (lv_sub hl [0, 1, 2, 3, 4] rfl)
  exact K_4 _ 0 0 _ _ _ (Nat.lt_succ_self _) hI hS (by first | omega | decide | (simp only [show Int32.toInt 0 = 0 from by decide, show Int32.toInt 0 = 0 from by decide]; omega)) (lv_sub hl [0, 1, 2, 3] rfl)
theorem tw_400 : q_g (.code yX8_refillAt cX8_refillAt 2 none) := ⟨(List.mem_append_right _ (List.mem_of_getElem? (i := 790) (by decide +kernel))), good_of_word (by decide +kernel)⟩
def ow_c_X8_refillAt : List Cond := [.fieldLink RX8 87 "DeadlineShare$Task" "quota" "I", .fieldLink RX8 90 "DeadlineShare$Task" "period" "I", .fieldLink RX8 84 "DeadlineShare$Task" "budget" "I"]
def wq_c_X8_refillAt : List Cond := .code yX8_refillAt cX8_refillAt 2 none :: (ow_c_X8_refillAt ++ (u_ws RX8 TX8 18 ++ ([] : List Cond)))
theorem tb_c_X8_refillAt : ∀ w ∈ wq_c_X8_refillAt, q_g w := by
  unfold wq_c_X8_refillAt ow_c_X8_refillAt
  exact q_cons tw_400 (q_app (q_cons tw_119 (q_cons tw_118 (q_cons tw_120 q_nil))) (q_app tu_X8 q_nil))
set_option maxHeartbeats 4000000 in
set_option maxRecDepth 100000 in
theorem c_X8_refillAt (l : Launch) (dC : Nat → ClassId) (dI : Nat → Nat → Nat) (g : kG) (A : Nat → Prop) (hG : kWf g) (f : Nat → va_E) (h0 : Nat) (p1 : Int32) (i_h0 : ik g 8 h0) : Met l yX8_refillAt wq_c_X8_refillAt ({ frames := 0, cells := 0, slots := 0, locals := 0 } : Room) (va_Pc [.ref h0, .int p1] (fun U => kIn dC dI g A f U)) (va_Qv (fun (_ : Unit) => True) (fun (_ : Unit) t => ∃ f1 : Nat → va_E, Iv dC dI g A f1 t.heap ∧ Kp g [8] f f1) A) 0 0 A := by
  refine Met.ofW (cc := cX8_refillAt) (maxL := 2) (ret := none) (by decide) rfl ?_
  intro p e s m args below meth c s₁ B hml hv
  obtain ⟨rfl, hI, hK, hE⟩ := hv
  have hx := B.exec
  have hb := B.bytes
  have hr := B.returns
  have hts := atoms_spec (ws := wq_c_X8_refillAt) B.pre
  have hown : s.vm.findClass RX8 = some m.cls := findClass_of_methodNamed B.named
  have hlocks := B.notSynchronized
  have hS : va_S A s.heap s.heap [] := va_S.rf
  have hk0 : Kp g [8] f f := Kp.rf
  have hl := lv_entry ([.ref h0, .int p1]) (n := 2) (Nat.le_of_ble_eq_true rfl)
  rw [lg_entry_eq]
  generalize (lg_sl ([.ref h0, .int p1]) ++ List.replicate (2 - (lg_sl ([.ref h0, .int p1])).length) Slot.unset).toArray = ls at hl ⊢
  have hl : lv_has ls 2 [(0, .ref h0), (1, .int p1)] := hl
  refine lv_aload_n hx hb dX8_refillAt_0 rfl (lv_at hl 0 rfl) ?_
  obtain ⟨x_2, x_3, x_4, x_5, x_6, x_7, x_8, x_9, x_10, x_11, x_12, x_13, x_14, x_15, x_16, x_17, k_1⟩ := op_8 hI i_h0
  refine k_get (ci := 8) (v := .int x_16) (C := RX8) (T := TX8) (N := 18) hx hb hts (fun _ h0_ => List.mem_cons_of_mem _ (List.mem_append_right _ (List.mem_append_left _ h0_))) hown hK hI i_h0.1 k_1 rfl 16 (by decide) (hts (.fieldLink RX8 87 "DeadlineShare$Task" "quota" "I") (List.mem_cons_of_mem _ (List.mem_append_left _ (List.mem_of_getElem? (i := 0) rfl)))) (fun _ h9 => h9) rfl dX8_refillAt_1 ?_
  refine lv_if_le (tgt := 31) hx hb dX8_refillAt_4 (by decide) (fun c_18 => ?_) (fun c_18 => ?_)
  · have c_18 := kc_le rfl (by decide : Int32.toInt 0 = 0) c_18
    exact W.vret hx hb hr (fun t ht hW => ⟨⟨(), rfl, trivial, ⟨f, k_ret ht hI, hk0⟩⟩, hS.F ht⟩) hS.2.2 dX8_refillAt_31
  · have c_18 := kn_le rfl (by decide : Int32.toInt 0 = 0) c_18
    refine lv_aload_n hx hb dX8_refillAt_7 rfl (lv_at hl 0 rfl) ?_
    refine k_get (ci := 8) (v := .int x_17) (C := RX8) (T := TX8) (N := 18) hx hb hts (fun _ h0_ => List.mem_cons_of_mem _ (List.mem_append_right _ (List.mem_append_left _ h0_))) hown hK hI i_h0.1 k_1 rfl 17 (by decide) (hts (.fieldLink RX8 90 "DeadlineShare$Task" "period" "I") (List.mem_cons_of_mem _ (List.mem_append_left _ (List.mem_of_getElem? (i := 1) rfl)))) (fun _ h9 => h9) rfl dX8_refillAt_8 ?_
    refine lv_if_le (tgt := 31) hx hb dX8_refillAt_11 (by decide) (fun c_19 => ?_) (fun c_19 => ?_)
    · have c_19 := kc_le rfl (by decide : Int32.toInt 0 = 0) c_19
      exact W.vret hx hb hr (fun t ht hW => ⟨⟨(), rfl, trivial, ⟨f, k_ret ht hI, hk0⟩⟩, hS.F ht⟩) hS.2.2 dX8_refillAt_31
    · have c_19 := kn_le rfl (by decide : Int32.toInt 0 = 0) c_19
      refine lv_iload_n hx hb dX8_refillAt_14 rfl (lv_at hl 1 rfl) ?_
      refine lv_aload_n hx hb dX8_refillAt_15 rfl (lv_at hl 0 rfl) ?_
      refine k_get (ci := 8) (v := .int x_17) (C := RX8) (T := TX8) (N := 18) hx hb hts (fun _ h0_ => List.mem_cons_of_mem _ (List.mem_append_right _ (List.mem_append_left _ h0_))) hown hK hI i_h0.1 k_1 rfl 17 (by decide) (hts (.fieldLink RX8 90 "DeadlineShare$Task" "period" "I") (List.mem_cons_of_mem _ (List.mem_append_left _ (List.mem_of_getElem? (i := 1) rfl)))) (fun _ h9 => h9) rfl dX8_refillAt_16 ?_
      refine lv_irem hx hb dX8_refillAt_19 (k_ne0 (by omega)) ?_
      refine lv_topi (fun v_20 ev_20 => ?_)
      refine lv_if_ne (tgt := 31) hx hb dX8_refillAt_20 (by decide) (fun c_21 => ?_) (fun c_21 => ?_)
      · have c_21 := kn_eq rfl (by decide : Int32.toInt 0 = 0) c_21
        exact W.vret hx hb hr (fun t ht hW => ⟨⟨(), rfl, trivial, ⟨f, k_ret ht hI, hk0⟩⟩, hS.F ht⟩) hS.2.2 dX8_refillAt_31
      · have c_21 := kc_eq rfl (by decide : Int32.toInt 0 = 0) c_21
        refine lv_aload_n hx hb dX8_refillAt_23 rfl (lv_at hl 0 rfl) ?_
        refine lv_aload_n hx hb dX8_refillAt_24 rfl (lv_at hl 0 rfl) ?_
        refine k_get (ci := 8) (v := .int x_16) (C := RX8) (T := TX8) (N := 18) hx hb hts (fun _ h0_ => List.mem_cons_of_mem _ (List.mem_append_right _ (List.mem_append_left _ h0_))) hown hK hI i_h0.1 k_1 rfl 16 (by decide) (hts (.fieldLink RX8 87 "DeadlineShare$Task" "quota" "I") (List.mem_cons_of_mem _ (List.mem_append_left _ (List.mem_of_getElem? (i := 0) rfl)))) (fun _ h9 => h9) rfl dX8_refillAt_25 ?_
        refine k_put (ci := 8) (v := .int x_16) (ty := .int) (C := RX8) (T := TX8) (N := 18) hx hb hts (fun _ h0_ => List.mem_cons_of_mem _ (List.mem_append_right _ (List.mem_append_left _ h0_))) tyX8 tyX8_ok nmX8 hown hK hI hS i_h0.1 k_1 rfl 15 (by decide) (hts (.fieldLink RX8 84 "DeadlineShare$Task" "budget" "I") (List.mem_cons_of_mem _ (List.mem_append_left _ (List.mem_of_getElem? (i := 2) rfl)))) (fun _ h9 => h9) rfl (by decide +kernel) rfl rfl (Nat.le_of_ble_eq_true rfl) rfl (cl_8 i_h0) dX8_refillAt_28 (fun f_22 H locs e_23 hI hS => ?_)
        have k_25 : f_22 h0 = .inr (8, [.int x_2, .ref (gr g h0 1), .int x_3, .int x_4, .int x_5, .long x_6, .int x_7, .ref (gr g h0 7), .int x_8, .int x_9, .int x_10, .int x_11, .int x_12, .int x_13, .int x_14, .int x_16, .int x_16, .int x_17]) := by rw [e_23]; exact va_up_self _ _ _
        have kp_24 := Kp.put hk0 i_h0 (by decide) e_23
        exact W.vret hx hb hr (fun t ht hW => ⟨⟨(), rfl, trivial, ⟨f_22, k_ret ht hI, kp_24⟩⟩, hS.F ht⟩) hS.2.2 dX8_refillAt_31
theorem tw_401 : q_g (.code yX8_isSpent cX8_isSpent 1 (some .boolean)) := ⟨(List.mem_append_right _ (List.mem_of_getElem? (i := 486) (by decide +kernel))), good_of_word (by decide +kernel)⟩
def ow_c_X8_isSpent : List Cond := [.fieldLink RX8 87 "DeadlineShare$Task" "quota" "I", .fieldLink RX8 84 "DeadlineShare$Task" "budget" "I"]
def wq_c_X8_isSpent : List Cond := .code yX8_isSpent cX8_isSpent 1 (some .boolean) :: (ow_c_X8_isSpent ++ (u_ws RX8 TX8 18 ++ ([] : List Cond)))
theorem tb_c_X8_isSpent : ∀ w ∈ wq_c_X8_isSpent, q_g w := by
  unfold wq_c_X8_isSpent ow_c_X8_isSpent
  exact q_cons tw_401 (q_app (q_cons tw_119 (q_cons tw_120 q_nil)) (q_app tu_X8 q_nil))
set_option maxHeartbeats 4000000 in
set_option maxRecDepth 100000 in
theorem c_X8_isSpent (l : Launch) (dC : Nat → ClassId) (dI : Nat → Nat → Nat) (g : kG) (A : Nat → Prop) (hG : kWf g) (f : Nat → va_E) (h0 : Nat) (i_h0 : ik g 8 h0) : Met l yX8_isSpent wq_c_X8_isSpent ({ frames := 0, cells := 0, slots := 0, locals := 0 } : Room) (va_Pc [.ref h0] (fun U => kIn dC dI g A f U)) (va_Qi (fun (r : Int32) (_ : Unit) => True) (fun (_ : Unit) t => Iv dC dI g A f t.heap) A) 0 0 A := by
  refine Met.ofW (cc := cX8_isSpent) (maxL := 1) (ret := (some .boolean)) (by decide) rfl ?_
  intro p e s m args below meth c s₁ B hml hv
  obtain ⟨rfl, hI, hK, hE⟩ := hv
  have hx := B.exec
  have hb := B.bytes
  have hr := B.returns
  have hts := atoms_spec (ws := wq_c_X8_isSpent) B.pre
  have hown : s.vm.findClass RX8 = some m.cls := findClass_of_methodNamed B.named
  have hlocks := B.notSynchronized
  have hS : va_S A s.heap s.heap [] := va_S.rf
  have hl := lv_entry ([.ref h0]) (n := 1) (Nat.le_of_ble_eq_true rfl)
  rw [lg_entry_eq]
  generalize (lg_sl ([.ref h0]) ++ List.replicate (1 - (lg_sl ([.ref h0])).length) Slot.unset).toArray = ls at hl ⊢
  have hl : lv_has ls 1 [(0, .ref h0)] := hl
  refine lv_aload_n hx hb dX8_isSpent_0 rfl (lv_at hl 0 rfl) ?_
  obtain ⟨x_2, x_3, x_4, x_5, x_6, x_7, x_8, x_9, x_10, x_11, x_12, x_13, x_14, x_15, x_16, x_17, k_1⟩ := op_8 hI i_h0
  refine k_get (ci := 8) (v := .int x_16) (C := RX8) (T := TX8) (N := 18) hx hb hts (fun _ h0_ => List.mem_cons_of_mem _ (List.mem_append_right _ (List.mem_append_left _ h0_))) hown hK hI i_h0.1 k_1 rfl 16 (by decide) (hts (.fieldLink RX8 87 "DeadlineShare$Task" "quota" "I") (List.mem_cons_of_mem _ (List.mem_append_left _ (List.mem_of_getElem? (i := 0) rfl)))) (fun _ h9 => h9) rfl dX8_isSpent_1 ?_
  refine lv_if_le (tgt := 18) hx hb dX8_isSpent_4 (by decide) (fun c_18 => ?_) (fun c_18 => ?_)
  · have c_18 := kc_le rfl (by decide : Int32.toInt 0 = 0) c_18
    refine lv_iconst (v := 0) hx hb dX8_isSpent_18 (by decide) ?_
    exact W.zret (v := 0) hx hb hr rfl (fun t ht hW => ⟨⟨0, (), rfl, trivial, k_ret ht hI⟩, hS.F ht⟩) hS.2.2 dX8_isSpent_19
  · have c_18 := kn_le rfl (by decide : Int32.toInt 0 = 0) c_18
    refine lv_aload_n hx hb dX8_isSpent_7 rfl (lv_at hl 0 rfl) ?_
    refine k_get (ci := 8) (v := .int x_15) (C := RX8) (T := TX8) (N := 18) hx hb hts (fun _ h0_ => List.mem_cons_of_mem _ (List.mem_append_right _ (List.mem_append_left _ h0_))) hown hK hI i_h0.1 k_1 rfl 15 (by decide) (hts (.fieldLink RX8 84 "DeadlineShare$Task" "budget" "I") (List.mem_cons_of_mem _ (List.mem_append_left _ (List.mem_of_getElem? (i := 1) rfl)))) (fun _ h9 => h9) rfl dX8_isSpent_8 ?_
    refine lv_if_ne (tgt := 18) hx hb dX8_isSpent_11 (by decide) (fun c_19 => ?_) (fun c_19 => ?_)
    · have c_19 := kn_eq rfl (by decide : Int32.toInt 0 = 0) c_19
      refine lv_iconst (v := 0) hx hb dX8_isSpent_18 (by decide) ?_
      exact W.zret (v := 0) hx hb hr rfl (fun t ht hW => ⟨⟨0, (), rfl, trivial, k_ret ht hI⟩, hS.F ht⟩) hS.2.2 dX8_isSpent_19
    · have c_19 := kc_eq rfl (by decide : Int32.toInt 0 = 0) c_19
      refine lv_iconst (v := 1) hx hb dX8_isSpent_14 (by decide) ?_
      refine lv_goto (tgt := 19) hx hb dX8_isSpent_15 (by decide) ?_
      exact W.zret (v := 1) hx hb hr rfl (fun t ht hW => ⟨⟨1, (), rfl, trivial, k_ret ht hI⟩, hS.F ht⟩) hS.2.2 dX8_isSpent_19
theorem tw_402 : q_g (.methodLink RX8 97 Lib.Math.min.name) := ⟨(List.mem_append_right _ (List.mem_of_getElem? (i := 584) (by decide +kernel))), good_of_word (by decide +kernel)⟩
theorem tw_403 : q_g (.code yX8_takeSlice cX8_takeSlice 2 none) := ⟨(List.mem_append_right _ (List.mem_of_getElem? (i := 583) (by decide +kernel))), good_of_word (by decide +kernel)⟩
def ow_c_X8_takeSlice : List Cond := [.fieldLink RX8 35 "DeadlineShare$Task" "slice" "I", .fieldLink RX8 45 "DeadlineShare$Task" "left" "I", .methodLink RX8 97 Lib.Math.min.name, .static Lib.Math.min.name, .initialized "java/lang/Math", .code Lib.Math.min.name Lib.Math.min.code 2 (some .int)]
def wq_c_X8_takeSlice : List Cond := .code yX8_takeSlice cX8_takeSlice 2 none :: (ow_c_X8_takeSlice ++ (u_ws RX8 TX8 18 ++ ([] : List Cond)))
theorem tb_c_X8_takeSlice : ∀ w ∈ wq_c_X8_takeSlice, q_g w := by
  unfold wq_c_X8_takeSlice ow_c_X8_takeSlice
  exact q_cons tw_403 (q_app (q_cons tw_132 (q_cons tw_58 (q_cons tw_402 (q_cons tw_155 (q_cons tw_154 (q_cons tw_153 q_nil)))))) (q_app tu_X8 q_nil))
set_option maxHeartbeats 4000000 in
set_option maxRecDepth 100000 in
theorem c_X8_takeSlice (l : Launch) (dC : Nat → ClassId) (dI : Nat → Nat → Nat) (g : kG) (A : Nat → Prop) (hG : kWf g) (f : Nat → va_E) (h0 : Nat) (p1 : Int32) (i_h0 : ik g 8 h0) : Met l yX8_takeSlice wq_c_X8_takeSlice ({ frames := 1, cells := 0, slots := 0, locals := 16 } : Room) (va_Pc [.ref h0, .int p1] (fun U => kIn dC dI g A f U)) (va_Qv (fun (_ : Unit) => True) (fun (_ : Unit) t => ∃ f1 : Nat → va_E, Iv dC dI g A f1 t.heap ∧ Kp g [8] f f1) A) 0 0 A := by
  refine Met.ofW (cc := cX8_takeSlice) (maxL := 2) (ret := none) (by decide) rfl ?_
  intro p e s m args below meth c s₁ B hml hv
  obtain ⟨rfl, hI, hK, hE⟩ := hv
  have hx := B.exec
  have hb := B.bytes
  have hr := B.returns
  have hts := atoms_spec (ws := wq_c_X8_takeSlice) B.pre
  have hown : s.vm.findClass RX8 = some m.cls := findClass_of_methodNamed B.named
  have hlocks := B.notSynchronized
  have hS : va_S A s.heap s.heap [] := va_S.rf
  have hk0 : Kp g [8] f f := Kp.rf
  have hl := lv_entry ([.ref h0, .int p1]) (n := 2) (Nat.le_of_ble_eq_true rfl)
  rw [lg_entry_eq]
  generalize (lg_sl ([.ref h0, .int p1]) ++ List.replicate (2 - (lg_sl ([.ref h0, .int p1])).length) Slot.unset).toArray = ls at hl ⊢
  have hl : lv_has ls 2 [(0, .ref h0), (1, .int p1)] := hl
  refine lv_aload_n hx hb dX8_takeSlice_0 rfl (lv_at hl 0 rfl) ?_
  refine lv_iload_n hx hb dX8_takeSlice_1 rfl (lv_at hl 1 rfl) ?_
  obtain ⟨x_2, x_3, x_4, x_5, x_6, x_7, x_8, x_9, x_10, x_11, x_12, x_13, x_14, x_15, x_16, x_17, k_1⟩ := op_8 hI i_h0
  refine k_put (ci := 8) (v := .int p1) (ty := .int) (C := RX8) (T := TX8) (N := 18) hx hb hts (fun _ h0_ => List.mem_cons_of_mem _ (List.mem_append_right _ (List.mem_append_left _ h0_))) tyX8 tyX8_ok nmX8 hown hK hI hS i_h0.1 k_1 rfl 3 (by decide) (hts (.fieldLink RX8 35 "DeadlineShare$Task" "slice" "I") (List.mem_cons_of_mem _ (List.mem_append_left _ (List.mem_of_getElem? (i := 0) rfl)))) (fun _ h9 => h9) rfl (by decide +kernel) rfl rfl (Nat.le_of_ble_eq_true rfl) rfl (cl_8 i_h0) dX8_takeSlice_2 (fun f_18 H locs e_19 hI hS => ?_)
  have k_21 : f_18 h0 = .inr (8, [.int x_2, .ref (gr g h0 1), .int x_3, .int p1, .int x_5, .long x_6, .int x_7, .ref (gr g h0 7), .int x_8, .int x_9, .int x_10, .int x_11, .int x_12, .int x_13, .int x_14, .int x_15, .int x_16, .int x_17]) := by rw [e_19]; exact va_up_self _ _ _
  have kp_20 := Kp.put hk0 i_h0 (by decide) e_19
  refine lv_aload_n hx hb dX8_takeSlice_5 rfl (lv_at hl 0 rfl) ?_
  refine lv_aload_n hx hb dX8_takeSlice_6 rfl (lv_at hl 0 rfl) ?_
  refine k_get (ci := 8) (v := .int x_7) (C := RX8) (T := TX8) (N := 18) hx hb hts (fun _ h0_ => List.mem_cons_of_mem _ (List.mem_append_right _ (List.mem_append_left _ h0_))) hown hK hI i_h0.1 k_21 rfl 6 (by decide) (hts (.fieldLink RX8 45 "DeadlineShare$Task" "left" "I") (List.mem_cons_of_mem _ (List.mem_append_left _ (List.mem_of_getElem? (i := 1) rfl)))) (fun _ h9 => h9) rfl dX8_takeSlice_7 ?_
  refine lv_iload_n hx hb dX8_takeSlice_10 rfl (lv_at hl 1 rfl) ?_
  refine va_mmin hx hb (by rw [hml]; exact hl.1.symm) hown (hts (.methodLink RX8 97 Lib.Math.min.name) (List.mem_cons_of_mem _ (List.mem_append_left _ (List.mem_of_getElem? (i := 2) rfl)))) (hts (.static Lib.Math.min.name) (List.mem_cons_of_mem _ (List.mem_append_left _ (List.mem_of_getElem? (i := 3) rfl)))) (hts (.initialized "java/lang/Math") (List.mem_cons_of_mem _ (List.mem_append_left _ (List.mem_of_getElem? (i := 4) rfl)))) (hts (.code Lib.Math.min.name Lib.Math.min.code 2 (some .int)) (List.mem_cons_of_mem _ (List.mem_append_left _ (List.mem_of_getElem? (i := 5) rfl)))) (Nat.le_of_ble_eq_true rfl) (Nat.le_of_ble_eq_true rfl) (Nat.le_of_ble_eq_true rfl) (Nat.le_of_ble_eq_true rfl) dX8_takeSlice_11 ?_
  refine lv_topi (fun v_22 ev_22 => ?_)
  refine k_put (ci := 8) (v := .int v_22) (ty := .int) (C := RX8) (T := TX8) (N := 18) hx hb hts (fun _ h0_ => List.mem_cons_of_mem _ (List.mem_append_right _ (List.mem_append_left _ h0_))) tyX8 tyX8_ok nmX8 hown hK hI hS i_h0.1 k_21 rfl 6 (by decide) (hts (.fieldLink RX8 45 "DeadlineShare$Task" "left" "I") (List.mem_cons_of_mem _ (List.mem_append_left _ (List.mem_of_getElem? (i := 1) rfl)))) (fun _ h9 => h9) rfl (by decide +kernel) rfl rfl (Nat.le_of_ble_eq_true rfl) rfl (cl_8 i_h0) dX8_takeSlice_14 (fun f_23 H locs e_24 hI hS => ?_)
  have k_26 : f_23 h0 = .inr (8, [.int x_2, .ref (gr g h0 1), .int x_3, .int p1, .int x_5, .long x_6, .int v_22, .ref (gr g h0 7), .int x_8, .int x_9, .int x_10, .int x_11, .int x_12, .int x_13, .int x_14, .int x_15, .int x_16, .int x_17]) := by rw [e_24]; exact va_up_self _ _ _
  have kp_25 := Kp.put kp_20 i_h0 (by decide) e_24
  exact W.vret hx hb hr (fun t ht hW => ⟨⟨(), rfl, trivial, ⟨f_23, k_ret ht hI, kp_25⟩⟩, hS.F ht⟩) hS.2.2 dX8_takeSlice_17
theorem tw_404 : q_g (.selects RX5 yX5_turnBack yX5_turnBack) := ⟨(List.mem_append_right _ (List.mem_of_getElem? (i := 746) (by decide +kernel))), good_of_word (by decide +kernel)⟩
theorem tw_405 : q_g (.instanceMethod yX5_turnBack) := ⟨(List.mem_append_right _ (List.mem_of_getElem? (i := 745) (by decide +kernel))), good_of_word (by decide +kernel)⟩
theorem tw_406 : q_g (.methodLink RX6 310 yX5_turnBack) := ⟨(List.mem_append_right _ (List.mem_of_getElem? (i := 744) (by decide +kernel))), good_of_word (by decide +kernel)⟩
theorem tw_407 : q_g (.selects RX8 yX8_takeSlice yX8_takeSlice) := ⟨(List.mem_append_right _ (List.mem_of_getElem? (i := 582) (by decide +kernel))), good_of_word (by decide +kernel)⟩
theorem tw_408 : q_g (.instanceMethod yX8_takeSlice) := ⟨(List.mem_append_right _ (List.mem_of_getElem? (i := 581) (by decide +kernel))), good_of_word (by decide +kernel)⟩
theorem tw_409 : q_g (.methodLink RX6 307 yX8_takeSlice) := ⟨(List.mem_append_right _ (List.mem_of_getElem? (i := 743) (by decide +kernel))), good_of_word (by decide +kernel)⟩
theorem tw_410 : q_g (.selects RX6 yX6_weighAnew yX6_weighAnew) := ⟨(List.mem_append_right _ (List.mem_of_getElem? (i := 574) (by decide +kernel))), good_of_word (by decide +kernel)⟩
theorem tw_411 : q_g (.instanceMethod yX6_weighAnew) := ⟨(List.mem_append_right _ (List.mem_of_getElem? (i := 573) (by decide +kernel))), good_of_word (by decide +kernel)⟩
theorem tw_412 : q_g (.methodLink RX6 304 yX6_weighAnew) := ⟨(List.mem_append_right _ (List.mem_of_getElem? (i := 742) (by decide +kernel))), good_of_word (by decide +kernel)⟩
theorem tw_413 : q_g (.selects RX6 yX6_canWeigh yX6_canWeigh) := ⟨(List.mem_append_right _ (List.mem_of_getElem? (i := 569) (by decide +kernel))), good_of_word (by decide +kernel)⟩
theorem tw_414 : q_g (.instanceMethod yX6_canWeigh) := ⟨(List.mem_append_right _ (List.mem_of_getElem? (i := 568) (by decide +kernel))), good_of_word (by decide +kernel)⟩
theorem tw_415 : q_g (.methodLink RX6 300 yX6_canWeigh) := ⟨(List.mem_append_right _ (List.mem_of_getElem? (i := 741) (by decide +kernel))), good_of_word (by decide +kernel)⟩
theorem tw_416 : q_g (.fieldLink RX6 232 "DeadlineShare$Task" "napTill" "I") := ⟨(List.mem_append_right _ (List.mem_of_getElem? (i := 185) (by decide +kernel))), good_of_word (by decide +kernel)⟩
theorem tw_417 : q_g (.fieldLink RX6 297 "DeadlineShare$Script" "toRun" "I") := ⟨(List.mem_append_right _ (List.mem_of_getElem? (i := 86) (by decide +kernel))), good_of_word (by decide +kernel)⟩
theorem tw_418 : q_g (.methodLink RX6 294 yX5_kindOf) := ⟨(List.mem_append_right _ (List.mem_of_getElem? (i := 736) (by decide +kernel))), good_of_word (by decide +kernel)⟩
theorem tw_419 : q_g (.methodLink RX6 290 yX5_numberOf) := ⟨(List.mem_append_right _ (List.mem_of_getElem? (i := 732) (by decide +kernel))), good_of_word (by decide +kernel)⟩
theorem tw_420 : q_g (.fieldLink RX6 235 "DeadlineShare$Script" "at" "I") := ⟨(List.mem_append_right _ (List.mem_of_getElem? (i := 83) (by decide +kernel))), good_of_word (by decide +kernel)⟩
theorem tw_421 : q_g (.selects RX5 yX5_isEnded yX5_isEnded) := ⟨(List.mem_append_right _ (List.mem_of_getElem? (i := 730) (by decide +kernel))), good_of_word (by decide +kernel)⟩
theorem tw_422 : q_g (.instanceMethod yX5_isEnded) := ⟨(List.mem_append_right _ (List.mem_of_getElem? (i := 729) (by decide +kernel))), good_of_word (by decide +kernel)⟩
theorem tw_423 : q_g (.methodLink RX6 287 yX5_isEnded) := ⟨(List.mem_append_right _ (List.mem_of_getElem? (i := 728) (by decide +kernel))), good_of_word (by decide +kernel)⟩
theorem tw_424 : q_g (.methodLink RX6 313 yX5_drop) := ⟨(List.mem_append_right _ (List.mem_of_getElem? (i := 750) (by decide +kernel))), good_of_word (by decide +kernel)⟩
theorem tw_425 : q_g (.selects RX6 yX6_depart yX6_depart) := ⟨(List.mem_append_right _ (List.mem_of_getElem? (i := 556) (by decide +kernel))), good_of_word (by decide +kernel)⟩
theorem tw_426 : q_g (.instanceMethod yX6_depart) := ⟨(List.mem_append_right _ (List.mem_of_getElem? (i := 555) (by decide +kernel))), good_of_word (by decide +kernel)⟩
theorem tw_427 : q_g (.methodLink RX6 281 yX6_depart) := ⟨(List.mem_append_right _ (List.mem_of_getElem? (i := 740) (by decide +kernel))), good_of_word (by decide +kernel)⟩
theorem tw_428 : q_g (.code yX6_goOn cX6_goOn 6 none) := ⟨(List.mem_append_right _ (List.mem_of_getElem? (i := 727) (by decide +kernel))), good_of_word (by decide +kernel)⟩
def ow_c_X6_goOn : List Cond := [.fieldLink RX6 128 "DeadlineShare$Task" "script" "LDeadlineShare$Script;", .methodLink RX6 281 yX6_depart, .instanceMethod yX6_depart, .selects RX6 yX6_depart yX6_depart, .initialized RX6, .methodLink RX6 313 yX5_drop, .instanceMethod yX5_drop, .selects RX5 yX5_drop yX5_drop, .initialized RX5, .methodLink RX6 287 yX5_isEnded, .instanceMethod yX5_isEnded, .selects RX5 yX5_isEnded yX5_isEnded, .fieldLink RX6 235 "DeadlineShare$Script" "at" "I", .methodLink RX6 290 yX5_numberOf, .instanceMethod yX5_numberOf, .selects RX5 yX5_numberOf yX5_numberOf, .methodLink RX6 294 yX5_kindOf, .instanceMethod yX5_kindOf, .selects RX5 yX5_kindOf yX5_kindOf, .fieldLink RX6 297 "DeadlineShare$Script" "toRun" "I", .fieldLink RX6 232 "DeadlineShare$Task" "napTill" "I", .methodLink RX6 300 yX6_canWeigh, .instanceMethod yX6_canWeigh, .selects RX6 yX6_canWeigh yX6_canWeigh, .methodLink RX6 304 yX6_weighAnew, .instanceMethod yX6_weighAnew, .selects RX6 yX6_weighAnew yX6_weighAnew, .methodLink RX6 307 yX8_takeSlice, .instanceMethod yX8_takeSlice, .selects RX8 yX8_takeSlice yX8_takeSlice, .initialized RX8, .methodLink RX6 310 yX5_turnBack, .instanceMethod yX5_turnBack, .selects RX5 yX5_turnBack yX5_turnBack]
def wq_c_X6_goOn : List Cond := .code yX6_goOn cX6_goOn 6 none :: (ow_c_X6_goOn ++ (u_ws RX8 TX8 18 ++ (wq_c_X6_depart ++ (wq_c_X5_drop ++ (wq_c_X5_isEnded ++ (u_ws RX5 TX5 5 ++ (wq_c_X5_numberOf ++ (wq_c_X5_kindOf ++ (wq_c_X6_canWeigh ++ (wq_c_X6_weighAnew ++ (wq_c_X8_takeSlice ++ (wq_c_X5_turnBack ++ ([] : List Cond)))))))))))))
theorem tb_c_X6_goOn : ∀ w ∈ wq_c_X6_goOn, q_g w := by
  unfold wq_c_X6_goOn ow_c_X6_goOn
  exact q_cons tw_428 (q_app (q_cons tw_349 (q_cons tw_427 (q_cons tw_426 (q_cons tw_425 (q_cons tw_47 (q_cons tw_424 (q_cons tw_269 (q_cons tw_268 (q_cons tw_133 (q_cons tw_423 (q_cons tw_422 (q_cons tw_421 (q_cons tw_420 (q_cons tw_419 (q_cons tw_291 (q_cons tw_290 (q_cons tw_418 (q_cons tw_286 (q_cons tw_285 (q_cons tw_417 (q_cons tw_416 (q_cons tw_415 (q_cons tw_414 (q_cons tw_413 (q_cons tw_412 (q_cons tw_411 (q_cons tw_410 (q_cons tw_409 (q_cons tw_408 (q_cons tw_407 (q_cons tw_8 (q_cons tw_406 (q_cons tw_405 (q_cons tw_404 q_nil)))))))))))))))))))))))))))))))))) (q_app tu_X8 (q_app tb_c_X6_depart (q_app tb_c_X5_drop (q_app tb_c_X5_isEnded (q_app tu_X5 (q_app tb_c_X5_numberOf (q_app tb_c_X5_kindOf (q_app tb_c_X6_canWeigh (q_app tb_c_X6_weighAnew (q_app tb_c_X8_takeSlice (q_app tb_c_X5_turnBack q_nil))))))))))))
set_option maxHeartbeats 4000000 in
set_option maxRecDepth 100000 in
theorem c_X6_goOn (l : Launch) (dC : Nat → ClassId) (dI : Nat → Nat → Nat) (g : kG) (A : Nat → Prop) (hG : kWf g) (f : Nat → va_E) (h0 : Nat) (p1 : Nat) (p2 : Int32) (i_h0 : ik g 6 h0) (i_p1 : ik g 8 p1) : Met l yX6_goOn wq_c_X6_goOn ({ frames := 3, cells := 0, slots := 0, locals := 71 } : Room) (va_Pc [.ref h0, .ref p1, .int p2] (fun U => kIn dC dI g A f U)) (va_Qv (fun (_ : Unit) => True) (fun (_ : Unit) t => ∃ f1 : Nat → va_E, Iv dC dI g A f1 t.heap ∧ Kp g [5, 6, 8, 10] f f1) A) 0 0 A := by
  refine Met.ofW (cc := cX6_goOn) (maxL := 6) (ret := none) (by decide) rfl ?_
  intro p e s m args below meth c s₁ B hml hv
  obtain ⟨rfl, hI, hK, hE⟩ := hv
  have hx := B.exec
  have hb := B.bytes
  have hr := B.returns
  have hts := atoms_spec (ws := wq_c_X6_goOn) B.pre
  have hown : s.vm.findClass RX6 = some m.cls := findClass_of_methodNamed B.named
  have hlocks := B.notSynchronized
  have hS : va_S A s.heap s.heap [] := va_S.rf
  have hk0 : Kp g [5, 6, 8, 10] f f := Kp.rf
  have hl := lv_entry ([.ref h0, .ref p1, .int p2]) (n := 6) (Nat.le_of_ble_eq_true rfl)
  rw [lg_entry_eq]
  generalize (lg_sl ([.ref h0, .ref p1, .int p2]) ++ List.replicate (6 - (lg_sl ([.ref h0, .ref p1, .int p2])).length) Slot.unset).toArray = ls at hl ⊢
  have hl : lv_has ls 6 [(0, .ref h0), (1, .ref p1), (2, .int p2)] := hl
  refine lv_aload_n hx hb dX6_goOn_0 rfl (lv_at hl 1 rfl) ?_
  obtain ⟨x_2, x_3, x_4, x_5, x_6, x_7, x_8, x_9, x_10, x_11, x_12, x_13, x_14, x_15, x_16, x_17, k_1⟩ := op_8 hI i_p1
  refine k_get (ci := 8) (v := .ref (gr g p1 1)) (C := RX8) (T := TX8) (N := 18) hx hb hts (fun _ h0_ => List.mem_cons_of_mem _ (List.mem_append_right _ (List.mem_append_left _ h0_))) hown hK hI i_p1.1 k_1 rfl 1 (by decide) (hts (.fieldLink RX6 128 "DeadlineShare$Task" "script" "LDeadlineShare$Script;") (List.mem_cons_of_mem _ (List.mem_append_left _ (List.mem_of_getElem? (i := 0) rfl)))) (fun _ h9 => h9) rfl dX6_goOn_1 ?_
  have i_19 := kw_8_1 hG i_p1
  refine lv_astore_n (lv' := [(3, .ref (gr g p1 1)), (0, .ref h0), (1, .ref p1), (2, .int p2)]) hx hb dX6_goOn_4 rfl hl (by decide) rfl (fun ls hl => ?_)
  refine lv_iconst (v := 0) hx hb dX6_goOn_5 (by decide) ?_
  refine lv_istore (lv' := [(4, .int 0), (3, .ref (gr g p1 1)), (0, .ref h0), (1, .ref p1), (2, .int p2)]) hx hb dX6_goOn_6 hl (by decide) rfl (fun ls hl => ?_)
  have K_8 : ∀ (nn : Nat) (y_20 : Int32) (f_21 : Nat → va_E) (H : Heap) (locs : List Loc) (ls : Array Slot), (1001 - y_20.toInt).toNat < nn → Iv dC dI g A f_21 H → va_S A s.heap H locs → Kp g [5, 6, 8, 10] f f_21 → (0 ≤ y_20.toInt) → lv_has ls 6 [(4, .int y_20), (3, .ref (gr g p1 1)), (0, .ref h0), (1, .ref p1), (2, .int p2)] → W p l e (headSpec wq_c_X6_goOn ({ frames := 3, cells := 0, slots := 0, locals := 71 } : Room)).room s m ([.ref h0, .ref p1, .int p2].toArray) below meth c H locs 0 0 (MQ below (va_Qv (fun (_ : Unit) => True) (fun (_ : Unit) t => ∃ f1 : Nat → va_E, Iv dC dI g A f1 t.heap ∧ Kp g [5, 6, 8, 10] f f1) A) ([.ref h0, .ref p1, .int p2].toArray) s 0 0 A) (F0 m 8 ls []) := by
    intro nn
    induction nn with
    | zero => intro y_20 f_21 H locs ls m_24; exact absurd m_24 (Nat.not_lt_zero _)
    | succ nn ih =>
      intro y_20 f_21 H locs ls m_24 hI hS kp_22 t_23 hl
      have g_25 := Int32.toInt_lt y_20
      have g_26 := Int32.le_toInt y_20
      refine lv_iload hx hb dX6_goOn_8 (lv_at hl 0 rfl) ?_
      refine lv_sipush (v := 1000) hx hb dX6_goOn_10 (by decide) ?_
      have J_153 : ∀ (H : Heap) (locs : List Loc) (ls : Array Slot), Iv dC dI g A f_21 H → va_S A s.heap H locs → lv_has ls 6 [(4, .int y_20), (3, .ref (gr g p1 1)), (0, .ref h0), (1, .ref p1), (2, .int p2)] → W p l e (headSpec wq_c_X6_goOn ({ frames := 3, cells := 0, slots := 0, locals := 71 } : Room)).room s m ([.ref h0, .ref p1, .int p2].toArray) below meth c H locs 0 0 (MQ below (va_Qv (fun (_ : Unit) => True) (fun (_ : Unit) t => ∃ f1 : Nat → va_E, Iv dC dI g A f1 t.heap ∧ Kp g [5, 6, 8, 10] f f1) A) ([.ref h0, .ref p1, .int p2].toArray) s 0 0 A) (F0 m 153 ls []) := by
        intro H locs ls hI hS  hl
        refine lv_aload_n hx hb dX6_goOn_153 rfl (lv_at hl 2 rfl) ?_
        refine lv_aload_n hx hb dX6_goOn_154 rfl (lv_at hl 3 rfl) ?_
        refine lv_iconst (v := 0) hx hb dX6_goOn_155 (by decide) ?_
        obtain ⟨x_28, x_29, x_30, x_31, x_32, k_27, b_33, b_34⟩ := op_6 hI i_h0
        refine va_callv (va_runV (As := [.ref p1, .int 0]) (rest := []) ⟨hx, hb, hml, hown, hts⟩ (c_X6_depart l dC dI g A hG f_21 h0 p1 0 i_h0 i_p1) (cwV 2 hts (gi_V (fun w_ h0_ => ⟨List.mem_cons_of_mem _ (List.mem_append_right _ (List.mem_append_right _ (List.mem_append_left _ h0_))), (tb_c_X6_depart w_ h0_).2⟩) (List.mem_cons_of_mem _ (List.mem_append_left _ (List.mem_of_getElem? (i := 1) rfl))) (List.mem_cons_of_mem _ (List.mem_append_left _ (List.mem_of_getElem? (i := 2) rfl))) (List.mem_cons_of_mem _ (List.mem_append_left _ (List.mem_of_getElem? (i := 3) rfl))) (List.mem_cons_of_mem _ (List.mem_append_left _ (List.mem_of_getElem? (i := 4) rfl)))) rfl rfl rfl (by decide +kernel) ⟨Nat.le_of_ble_eq_true rfl, Nat.le_of_ble_eq_true rfl⟩) ⟨fun a U g mk q => ⟨q.1, q.2.calling rfl rfl⟩, k_recv hK hI i_h0.1 k_27 (ci := 6) rfl, fun U hU hW => ⟨rfl, kIn.of hI hK hE hS hU hW⟩⟩ rfl rfl hl.1 rfl (lv_room (Nat.le_of_ble_eq_true rfl)) dX6_goOn_156 ⟨Nat.le_of_ble_eq_true rfl, Nat.le_of_ble_eq_true rfl⟩) hS (fun q _ h => h) (fun q h => h) (fun u t H1 locs ht hvm _ hB hz1 hk1 hS => ?_)
        obtain ⟨f_35, hI, kc_37⟩ := hB
        rw [ht] at hI
        have kp_38 := Kp.call kp_22 kc_37 (by decide)
        generalize H1 = H at hI hS ⊢
        refine W.widen (k := 0) (n := 0) (Nat.le_of_ble_eq_true rfl) (Nat.le_of_ble_eq_true rfl) ?_
        refine lv_aload_n hx hb dX6_goOn_159 rfl (lv_at hl 1 rfl) ?_
        obtain ⟨x_40, x_41, x_42, x_43, k_39, b_44, b_45⟩ := op_5 hI i_19
        refine va_callv (va_runV (As := []) (rest := []) ⟨hx, hb, hml, hown, hts⟩ (c_X5_drop l dC dI g A hG f_35 (gr g p1 1) i_19) (cwV 0 hts (gi_V (fun w_ h0_ => ⟨List.mem_cons_of_mem _ (List.mem_append_right _ (List.mem_append_right _ (List.mem_append_right _ (List.mem_append_left _ h0_)))), (tb_c_X5_drop w_ h0_).2⟩) (List.mem_cons_of_mem _ (List.mem_append_left _ (List.mem_of_getElem? (i := 5) rfl))) (List.mem_cons_of_mem _ (List.mem_append_left _ (List.mem_of_getElem? (i := 6) rfl))) (List.mem_cons_of_mem _ (List.mem_append_left _ (List.mem_of_getElem? (i := 7) rfl))) (List.mem_cons_of_mem _ (List.mem_append_left _ (List.mem_of_getElem? (i := 8) rfl)))) rfl rfl rfl (by decide +kernel) ⟨Nat.le_of_ble_eq_true rfl, Nat.le_of_ble_eq_true rfl⟩) ⟨fun a U g mk q => ⟨q.1, q.2.calling rfl rfl⟩, k_recv hK hI i_19.1 k_39 (ci := 5) rfl, fun U hU hW => ⟨rfl, kIn.of hI hK hE hS hU hW⟩⟩ rfl rfl hl.1 rfl (lv_room (Nat.le_of_ble_eq_true rfl)) dX6_goOn_160 ⟨Nat.le_of_ble_eq_true rfl, Nat.le_of_ble_eq_true rfl⟩) hS (fun q _ h => h) (fun q h => h) (fun u t H1 locs ht hvm _ hB hz1 hk1 hS => ?_)
        obtain ⟨f_46, hI, kc_48⟩ := hB
        rw [ht] at hI
        have kp_49 := Kp.call kp_38 kc_48 (by decide)
        generalize H1 = H at hI hS ⊢
        refine W.widen (k := 0) (n := 0) (Nat.le_of_ble_eq_true rfl) (Nat.le_of_ble_eq_true rfl) ?_
        exact W.vret hx hb hr (fun t ht hW => ⟨⟨(), rfl, trivial, ⟨f_46, k_ret ht hI, kp_49⟩⟩, hS.F ht⟩) hS.2.2 dX6_goOn_163
      refine lv_icmp_ge (tgt := 153) hx hb dX6_goOn_13 (by decide) (fun c_50 => ?_) (fun c_50 => ?_)
      · have c_50 := kc_le (by decide : Int32.toInt 1000 = 1000) rfl c_50
        exact J_153  _ _ _ hI hS  (lv_sub hl [0, 1, 2, 3, 4] rfl)
      · have c_50 := kn_le (by decide : Int32.toInt 1000 = 1000) rfl c_50
        refine lv_aload_n hx hb dX6_goOn_16 rfl (lv_at hl 1 rfl) ?_
        obtain ⟨x_52, x_53, x_54, x_55, k_51, b_56, b_57⟩ := op_5 hI i_19
        refine va_calli (va_runV (As := []) (rest := []) ⟨hx, hb, hml, hown, hts⟩ (c_X5_isEnded l dC dI g A hG f_21 (gr g p1 1) i_19) (cwV 0 hts (gi_V (fun w_ h0_ => ⟨List.mem_cons_of_mem _ (List.mem_append_right _ (List.mem_append_right _ (List.mem_append_right _ (List.mem_append_right _ (List.mem_append_left _ h0_))))), (tb_c_X5_isEnded w_ h0_).2⟩) (List.mem_cons_of_mem _ (List.mem_append_left _ (List.mem_of_getElem? (i := 9) rfl))) (List.mem_cons_of_mem _ (List.mem_append_left _ (List.mem_of_getElem? (i := 10) rfl))) (List.mem_cons_of_mem _ (List.mem_append_left _ (List.mem_of_getElem? (i := 11) rfl))) (List.mem_cons_of_mem _ (List.mem_append_left _ (List.mem_of_getElem? (i := 8) rfl)))) rfl rfl rfl (by decide +kernel) ⟨Nat.le_of_ble_eq_true rfl, Nat.le_of_ble_eq_true rfl⟩) ⟨fun a U g mk q => ⟨q.1, q.2.calling rfl rfl⟩, k_recv hK hI i_19.1 k_51 (ci := 5) rfl, fun U hU hW => ⟨rfl, kIn.of hI hK hE hS hU hW⟩⟩ rfl rfl hl.1 rfl (lv_room (Nat.le_of_ble_eq_true rfl)) dX6_goOn_17 ⟨Nat.le_of_ble_eq_true rfl, Nat.le_of_ble_eq_true rfl⟩) hS (fun q _ h => h) (fun q h => h) (fun r_59 u t H1 locs ht hvm w_58 hB hz1 hk1 hS => ?_)
        have hI : Iv dC dI g A f_21 t.heap := hB
        rw [ht] at hI
        generalize H1 = H at hI hS ⊢
        refine W.widen (k := 0) (n := 0) (Nat.le_of_ble_eq_true rfl) (Nat.le_of_ble_eq_true rfl) ?_
        refine lv_if_ne (tgt := 153) hx hb dX6_goOn_20 (by decide) (fun c_60 => ?_) (fun c_60 => ?_)
        · have c_60 := kn_eq rfl (by decide : Int32.toInt 0 = 0) c_60
          exact J_153  _ _ _ hI hS  (lv_sub hl [0, 1, 2, 3, 4] rfl)
        · have c_60 := kc_eq rfl (by decide : Int32.toInt 0 = 0) c_60
          refine lv_aload_n hx hb dX6_goOn_23 rfl (lv_at hl 1 rfl) ?_
          refine lv_aload_n hx hb dX6_goOn_24 rfl (lv_at hl 1 rfl) ?_
          refine k_get (ci := 5) (v := .int x_53) (C := RX5) (T := TX5) (N := 5) hx hb hts (fun _ h0_ => List.mem_cons_of_mem _ (List.mem_append_right _ (List.mem_append_right _ (List.mem_append_right _ (List.mem_append_right _ (List.mem_append_right _ (List.mem_append_left _ h0_))))))) hown hK hI i_19.1 k_51 rfl 2 (by decide) (hts (.fieldLink RX6 235 "DeadlineShare$Script" "at" "I") (List.mem_cons_of_mem _ (List.mem_append_left _ (List.mem_of_getElem? (i := 12) rfl)))) (fun _ h9 => h9) rfl dX6_goOn_25 ?_
          refine va_calli (va_runV (As := [.int x_53]) (rest := []) ⟨hx, hb, hml, hown, hts⟩ (c_X5_numberOf l dC dI g A hG f_21 (gr g p1 1) x_53 i_19) (cwV 1 hts (gi_V (fun w_ h0_ => ⟨List.mem_cons_of_mem _ (List.mem_append_right _ (List.mem_append_right _ (List.mem_append_right _ (List.mem_append_right _ (List.mem_append_right _ (List.mem_append_right _ (List.mem_append_left _ h0_))))))), (tb_c_X5_numberOf w_ h0_).2⟩) (List.mem_cons_of_mem _ (List.mem_append_left _ (List.mem_of_getElem? (i := 13) rfl))) (List.mem_cons_of_mem _ (List.mem_append_left _ (List.mem_of_getElem? (i := 14) rfl))) (List.mem_cons_of_mem _ (List.mem_append_left _ (List.mem_of_getElem? (i := 15) rfl))) (List.mem_cons_of_mem _ (List.mem_append_left _ (List.mem_of_getElem? (i := 8) rfl)))) rfl rfl rfl (by decide +kernel) ⟨Nat.le_of_ble_eq_true rfl, Nat.le_of_ble_eq_true rfl⟩) ⟨fun a U g mk q => ⟨q.1, q.2.calling rfl rfl⟩, k_recv hK hI i_19.1 k_51 (ci := 5) rfl, fun U hU hW => ⟨rfl, kIn.of hI hK hE hS hU hW⟩⟩ rfl rfl hl.1 rfl (lv_room (Nat.le_of_ble_eq_true rfl)) dX6_goOn_28 ⟨Nat.le_of_ble_eq_true rfl, Nat.le_of_ble_eq_true rfl⟩) hS (fun q _ h => h) (fun q h => h) (fun r_62 u t H1 locs ht hvm w_61 hB hz1 hk1 hS => ?_)
          have hI : Iv dC dI g A f_21 t.heap := hB
          rw [ht] at hI
          generalize H1 = H at hI hS ⊢
          refine W.widen (k := 0) (n := 0) (Nat.le_of_ble_eq_true rfl) (Nat.le_of_ble_eq_true rfl) ?_
          refine lv_istore (lv' := [(5, .int r_62), (4, .int y_20), (3, .ref (gr g p1 1)), (0, .ref h0), (1, .ref p1), (2, .int p2)]) hx hb dX6_goOn_31 hl (by decide) rfl (fun ls hl => ?_)
          refine lv_aload_n hx hb dX6_goOn_33 rfl (lv_at hl 2 rfl) ?_
          refine lv_aload_n hx hb dX6_goOn_34 rfl (lv_at hl 2 rfl) ?_
          refine k_get (ci := 5) (v := .int x_53) (C := RX5) (T := TX5) (N := 5) hx hb hts (fun _ h0_ => List.mem_cons_of_mem _ (List.mem_append_right _ (List.mem_append_right _ (List.mem_append_right _ (List.mem_append_right _ (List.mem_append_right _ (List.mem_append_left _ h0_))))))) hown hK hI i_19.1 k_51 rfl 2 (by decide) (hts (.fieldLink RX6 235 "DeadlineShare$Script" "at" "I") (List.mem_cons_of_mem _ (List.mem_append_left _ (List.mem_of_getElem? (i := 12) rfl)))) (fun _ h9 => h9) rfl dX6_goOn_35 ?_
          refine va_calli (va_runV (As := [.int x_53]) (rest := []) ⟨hx, hb, hml, hown, hts⟩ (c_X5_kindOf l dC dI g A hG f_21 (gr g p1 1) x_53 i_19) (cwV 1 hts (gi_V (fun w_ h0_ => ⟨List.mem_cons_of_mem _ (List.mem_append_right _ (List.mem_append_right _ (List.mem_append_right _ (List.mem_append_right _ (List.mem_append_right _ (List.mem_append_right _ (List.mem_append_right _ (List.mem_append_left _ h0_)))))))), (tb_c_X5_kindOf w_ h0_).2⟩) (List.mem_cons_of_mem _ (List.mem_append_left _ (List.mem_of_getElem? (i := 16) rfl))) (List.mem_cons_of_mem _ (List.mem_append_left _ (List.mem_of_getElem? (i := 17) rfl))) (List.mem_cons_of_mem _ (List.mem_append_left _ (List.mem_of_getElem? (i := 18) rfl))) (List.mem_cons_of_mem _ (List.mem_append_left _ (List.mem_of_getElem? (i := 8) rfl)))) rfl rfl rfl (by decide +kernel) ⟨Nat.le_of_ble_eq_true rfl, Nat.le_of_ble_eq_true rfl⟩) ⟨fun a U g mk q => ⟨q.1, q.2.calling rfl rfl⟩, k_recv hK hI i_19.1 k_51 (ci := 5) rfl, fun U hU hW => ⟨rfl, kIn.of hI hK hE hS hU hW⟩⟩ rfl rfl hl.1 rfl (lv_room (Nat.le_of_ble_eq_true rfl)) dX6_goOn_38 ⟨Nat.le_of_ble_eq_true rfl, Nat.le_of_ble_eq_true rfl⟩) hS (fun q _ h => h) (fun q h => h) (fun r_64 u t H1 locs ht hvm w_63 hB hz1 hk1 hS => ?_)
          have hI : Iv dC dI g A f_21 t.heap := hB
          rw [ht] at hI
          generalize H1 = H at hI hS ⊢
          refine W.widen (k := 0) (n := 0) (Nat.le_of_ble_eq_true rfl) (Nat.le_of_ble_eq_true rfl) ?_
          have J_147 : ∀ (f_65 : Nat → va_E) (H : Heap) (locs : List Loc) (ls : Array Slot), Iv dC dI g A f_65 H → va_S A s.heap H locs → Kp g [5, 6, 8, 10] f f_65 → lv_has ls 6 [(5, .int r_62), (4, .int y_20), (3, .ref (gr g p1 1)), (0, .ref h0), (1, .ref p1), (2, .int p2)] → W p l e (headSpec wq_c_X6_goOn ({ frames := 3, cells := 0, slots := 0, locals := 71 } : Room)).room s m ([.ref h0, .ref p1, .int p2].toArray) below meth c H locs 0 0 (MQ below (va_Qv (fun (_ : Unit) => True) (fun (_ : Unit) t => ∃ f1 : Nat → va_E, Iv dC dI g A f1 t.heap ∧ Kp g [5, 6, 8, 10] f f1) A) ([.ref h0, .ref p1, .int p2].toArray) s 0 0 A) (F0 m 147 ls []) := by
            intro f_65 H locs ls hI hS kp_66 hl
            obtain ⟨v_67, ev_67⟩ : ∃ y : Int32, y = y_20 + Int32.ofInt 1 := ⟨_, rfl⟩
            refine lv_iinc (v := v_67) (lv' := [(4, .int v_67), (5, .int r_62), (3, .ref (gr g p1 1)), (0, .ref h0), (1, .ref p1), (2, .int p2)]) hx hb dX6_goOn_147 hl (k := 1) rfl ev_67.symm (by decide) rfl (fun ls hl => ?_)
            have tv_67 := k_inc y_20
            rw [← ev_67] at tv_67
            refine lv_goto (tgt := 8) hx hb dX6_goOn_150 (by decide) ?_
            exact ih v_67 f_65 _ _ _ (by omega) hI hS kp_66 (by first | omega | decide) (lv_sub hl [0, 2, 3, 4, 5] rfl)
          by_cases h_68 : r_64 = 0
          · refine k_topi (y := 0) h_68 ?_
            refine lv_tableIn (tgt := 72) hx hb dX6_goOn_41 (by decide) (by decide) rfl (by decide) ?_
            have h_68 := kc_eq rfl (by decide : Int32.toInt 0 = 0) h_68
            refine lv_aload_n hx hb dX6_goOn_72 rfl (lv_at hl 2 rfl) ?_
            refine lv_iload hx hb dX6_goOn_73 (lv_at hl 0 rfl) ?_
            refine k_put (ci := 5) (v := .int r_62) (ty := .int) (C := RX5) (T := TX5) (N := 5) hx hb hts (fun _ h0_ => List.mem_cons_of_mem _ (List.mem_append_right _ (List.mem_append_right _ (List.mem_append_right _ (List.mem_append_right _ (List.mem_append_right _ (List.mem_append_left _ h0_))))))) tyX5 tyX5_ok nmX5 hown hK hI hS i_19.1 k_51 rfl 3 (by decide) (hts (.fieldLink RX6 297 "DeadlineShare$Script" "toRun" "I") (List.mem_cons_of_mem _ (List.mem_append_left _ (List.mem_of_getElem? (i := 19) rfl)))) (fun _ h9 => h9) rfl (by decide +kernel) rfl rfl (Nat.le_of_ble_eq_true rfl) rfl (cl_5 i_19 (by omega)) dX6_goOn_75 (fun f_69 H locs e_70 hI hS => ?_)
            have k_72 : f_69 (gr g p1 1) = .inr (5, [.ref (gr g (gr g p1 1) 0), .int x_52, .int x_53, .int r_62, .int x_55]) := by rw [e_70]; exact va_up_self _ _ _
            have kp_71 := Kp.put kp_22 i_19 (by decide) e_70
            exact W.vret hx hb hr (fun t ht hW => ⟨⟨(), rfl, trivial, ⟨f_69, k_ret ht hI, kp_71⟩⟩, hS.F ht⟩) hS.2.2 dX6_goOn_78
          by_cases h_73 : r_64 = 1
          · refine k_topi (y := 1) h_73 ?_
            refine lv_tableIn (tgt := 79) hx hb dX6_goOn_41 (by decide) (by decide) rfl (by decide) ?_
            have h_73 := kc_eq rfl (by decide : Int32.toInt 1 = 1) h_73
            refine lv_aload_n hx hb dX6_goOn_79 rfl (lv_at hl 3 rfl) ?_
            refine lv_aload_n hx hb dX6_goOn_80 rfl (lv_at hl 4 rfl) ?_
            refine lv_iconst (v := 2) hx hb dX6_goOn_81 (by decide) ?_
            obtain ⟨x_75, x_76, x_77, x_78, x_79, k_74, b_80, b_81⟩ := op_6 hI i_h0
            refine va_callv (va_runV (As := [.ref p1, .int 2]) (rest := []) ⟨hx, hb, hml, hown, hts⟩ (c_X6_depart l dC dI g A hG f_21 h0 p1 2 i_h0 i_p1) (cwV 2 hts (gi_V (fun w_ h0_ => ⟨List.mem_cons_of_mem _ (List.mem_append_right _ (List.mem_append_right _ (List.mem_append_left _ h0_))), (tb_c_X6_depart w_ h0_).2⟩) (List.mem_cons_of_mem _ (List.mem_append_left _ (List.mem_of_getElem? (i := 1) rfl))) (List.mem_cons_of_mem _ (List.mem_append_left _ (List.mem_of_getElem? (i := 2) rfl))) (List.mem_cons_of_mem _ (List.mem_append_left _ (List.mem_of_getElem? (i := 3) rfl))) (List.mem_cons_of_mem _ (List.mem_append_left _ (List.mem_of_getElem? (i := 4) rfl)))) rfl rfl rfl (by decide +kernel) ⟨Nat.le_of_ble_eq_true rfl, Nat.le_of_ble_eq_true rfl⟩) ⟨fun a U g mk q => ⟨q.1, q.2.calling rfl rfl⟩, k_recv hK hI i_h0.1 k_74 (ci := 6) rfl, fun U hU hW => ⟨rfl, kIn.of hI hK hE hS hU hW⟩⟩ rfl rfl hl.1 rfl (lv_room (Nat.le_of_ble_eq_true rfl)) dX6_goOn_82 ⟨Nat.le_of_ble_eq_true rfl, Nat.le_of_ble_eq_true rfl⟩) hS (fun q _ h => h) (fun q h => h) (fun u t H1 locs ht hvm _ hB hz1 hk1 hS => ?_)
            obtain ⟨f_82, hI, kc_84⟩ := hB
            rw [ht] at hI
            have k_85 : f_82 (gr g p1 1) = .inr (5, [.ref (gr g (gr g p1 1) 0), .int x_52, .int x_53, .int x_54, .int x_55]) := Kp.at kc_84 i_19 (by decide) k_51
            have kp_86 := Kp.call kp_22 kc_84 (by decide)
            generalize H1 = H at hI hS ⊢
            refine W.widen (k := 0) (n := 0) (Nat.le_of_ble_eq_true rfl) (Nat.le_of_ble_eq_true rfl) ?_
            refine lv_aload_n hx hb dX6_goOn_85 rfl (lv_at hl 4 rfl) ?_
            refine lv_iload_n hx hb dX6_goOn_86 rfl (lv_at hl 5 rfl) ?_
            refine lv_iload hx hb dX6_goOn_87 (lv_at hl 0 rfl) ?_
            refine lv_iadd hx hb dX6_goOn_89 ?_
            refine lv_topi (fun v_87 ev_87 => ?_)
            have tv_87 := k_ad p2 r_62
            rw [← ev_87] at tv_87
            obtain ⟨x_89, x_90, x_91, x_92, x_93, x_94, x_95, x_96, x_97, x_98, x_99, x_100, x_101, x_102, x_103, x_104, k_88⟩ := op_8 hI i_p1
            refine k_put (ci := 8) (v := .int v_87) (ty := .int) (C := RX8) (T := TX8) (N := 18) hx hb hts (fun _ h0_ => List.mem_cons_of_mem _ (List.mem_append_right _ (List.mem_append_left _ h0_))) tyX8 tyX8_ok nmX8 hown hK hI hS i_p1.1 k_88 rfl 14 (by decide) (hts (.fieldLink RX6 232 "DeadlineShare$Task" "napTill" "I") (List.mem_cons_of_mem _ (List.mem_append_left _ (List.mem_of_getElem? (i := 20) rfl)))) (fun _ h9 => h9) rfl (by decide +kernel) rfl rfl (Nat.le_of_ble_eq_true rfl) rfl (cl_8 i_p1) dX6_goOn_90 (fun f_105 H locs e_106 hI hS => ?_)
            have k_108 : f_105 (gr g p1 1) = .inr (5, [.ref (gr g (gr g p1 1) 0), .int x_52, .int x_53, .int x_54, .int x_55]) := by rw [e_106, va_up_ne _ _ (ik_ne i_19 i_p1 (by decide))]; exact k_85
            have k_109 : f_105 p1 = .inr (8, [.int x_89, .ref (gr g p1 1), .int x_90, .int x_91, .int x_92, .long x_93, .int x_94, .ref (gr g p1 7), .int x_95, .int x_96, .int x_97, .int x_98, .int x_99, .int x_100, .int v_87, .int x_102, .int x_103, .int x_104]) := by rw [e_106]; exact va_up_self _ _ _
            have kp_107 := Kp.put kp_86 i_p1 (by decide) e_106
            exact W.vret hx hb hr (fun t ht hW => ⟨⟨(), rfl, trivial, ⟨f_105, k_ret ht hI, kp_107⟩⟩, hS.F ht⟩) hS.2.2 dX6_goOn_93
          by_cases h_110 : r_64 = 2
          · refine k_topi (y := 2) h_110 ?_
            refine lv_tableIn (tgt := 94) hx hb dX6_goOn_41 (by decide) (by decide) rfl (by decide) ?_
            have h_110 := kc_eq rfl (by decide : Int32.toInt 2 = 2) h_110
            refine lv_aload_n hx hb dX6_goOn_94 rfl (lv_at hl 3 rfl) ?_
            refine lv_aload_n hx hb dX6_goOn_95 rfl (lv_at hl 4 rfl) ?_
            refine lv_iload hx hb dX6_goOn_96 (lv_at hl 0 rfl) ?_
            obtain ⟨x_112, x_113, x_114, x_115, x_116, k_111, b_117, b_118⟩ := op_6 hI i_h0
            refine va_calli (va_runV (As := [.ref p1, .int r_62]) (rest := []) ⟨hx, hb, hml, hown, hts⟩ (c_X6_canWeigh l dC dI g A hG f_21 h0 p1 r_62 i_h0 i_p1) (cwV 2 hts (gi_V (fun w_ h0_ => ⟨List.mem_cons_of_mem _ (List.mem_append_right _ (List.mem_append_right _ (List.mem_append_right _ (List.mem_append_right _ (List.mem_append_right _ (List.mem_append_right _ (List.mem_append_right _ (List.mem_append_right _ (List.mem_append_left _ h0_))))))))), (tb_c_X6_canWeigh w_ h0_).2⟩) (List.mem_cons_of_mem _ (List.mem_append_left _ (List.mem_of_getElem? (i := 21) rfl))) (List.mem_cons_of_mem _ (List.mem_append_left _ (List.mem_of_getElem? (i := 22) rfl))) (List.mem_cons_of_mem _ (List.mem_append_left _ (List.mem_of_getElem? (i := 23) rfl))) (List.mem_cons_of_mem _ (List.mem_append_left _ (List.mem_of_getElem? (i := 4) rfl)))) rfl rfl rfl (by decide +kernel) ⟨Nat.le_of_ble_eq_true rfl, Nat.le_of_ble_eq_true rfl⟩) ⟨fun a U g mk q => ⟨q.1, q.2.calling rfl rfl⟩, k_recv hK hI i_h0.1 k_111 (ci := 6) rfl, fun U hU hW => ⟨rfl, kIn.of hI hK hE hS hU hW⟩⟩ rfl rfl hl.1 rfl (lv_room (Nat.le_of_ble_eq_true rfl)) dX6_goOn_98 ⟨Nat.le_of_ble_eq_true rfl, Nat.le_of_ble_eq_true rfl⟩) hS (fun q _ h => h) (fun q h => h) (fun r_120 u t H1 locs ht hvm w_119 hB hz1 hk1 hS => ?_)
            have hI : Iv dC dI g A f_21 t.heap := hB
            rw [ht] at hI
            generalize H1 = H at hI hS ⊢
            refine W.widen (k := 0) (n := 0) (Nat.le_of_ble_eq_true rfl) (Nat.le_of_ble_eq_true rfl) ?_
            have J_111 : ∀ (f_121 : Nat → va_E) (H : Heap) (locs : List Loc) (ls : Array Slot), Iv dC dI g A f_121 H → va_S A s.heap H locs → f_121 (gr g p1 1) = .inr (5, [.ref (gr g (gr g p1 1) 0), .int x_52, .int x_53, .int x_54, .int x_55]) → f_121 h0 = .inr (6, [.ref (gr g h0 0), .ref (gr g h0 1), .ref (gr g h0 2), .ref (gr g h0 3), .ref (gr g h0 4), .int x_112, .int x_113, .long x_114, .int x_115, .int x_116]) → Kp g [5, 6, 8, 10] f f_121 → lv_has ls 6 [(5, .int r_62), (4, .int y_20), (3, .ref (gr g p1 1)), (0, .ref h0), (1, .ref p1), (2, .int p2)] → W p l e (headSpec wq_c_X6_goOn ({ frames := 3, cells := 0, slots := 0, locals := 71 } : Room)).room s m ([.ref h0, .ref p1, .int p2].toArray) below meth c H locs 0 0 (MQ below (va_Qv (fun (_ : Unit) => True) (fun (_ : Unit) t => ∃ f1 : Nat → va_E, Iv dC dI g A f1 t.heap ∧ Kp g [5, 6, 8, 10] f f1) A) ([.ref h0, .ref p1, .int p2].toArray) s 0 0 A) (F0 m 111 ls []) := by
              intro f_121 H locs ls hI hS k_122 k_123 kp_124 hl
              refine lv_aload_n hx hb dX6_goOn_111 rfl (lv_at hl 2 rfl) ?_
              refine lv_dup hx hb dX6_goOn_112 rfl ?_
              refine k_get (ci := 5) (v := .int x_53) (C := RX5) (T := TX5) (N := 5) hx hb hts (fun _ h0_ => List.mem_cons_of_mem _ (List.mem_append_right _ (List.mem_append_right _ (List.mem_append_right _ (List.mem_append_right _ (List.mem_append_right _ (List.mem_append_left _ h0_))))))) hown hK hI i_19.1 k_122 rfl 2 (by decide) (hts (.fieldLink RX6 235 "DeadlineShare$Script" "at" "I") (List.mem_cons_of_mem _ (List.mem_append_left _ (List.mem_of_getElem? (i := 12) rfl)))) (fun _ h9 => h9) rfl dX6_goOn_113 ?_
              refine lv_iconst (v := 1) hx hb dX6_goOn_116 (by decide) ?_
              refine lv_iadd hx hb dX6_goOn_117 ?_
              refine lv_topi (fun v_125 ev_125 => ?_)
              have tv_125 := k_ad x_53 1
              rw [← ev_125, show Int32.toInt 1 = 1 from by decide] at tv_125
              refine k_put (ci := 5) (v := .int v_125) (ty := .int) (C := RX5) (T := TX5) (N := 5) hx hb hts (fun _ h0_ => List.mem_cons_of_mem _ (List.mem_append_right _ (List.mem_append_right _ (List.mem_append_right _ (List.mem_append_right _ (List.mem_append_right _ (List.mem_append_left _ h0_))))))) tyX5 tyX5_ok nmX5 hown hK hI hS i_19.1 k_122 rfl 2 (by decide) (hts (.fieldLink RX6 235 "DeadlineShare$Script" "at" "I") (List.mem_cons_of_mem _ (List.mem_append_left _ (List.mem_of_getElem? (i := 12) rfl)))) (fun _ h9 => h9) rfl (by decide +kernel) rfl rfl (Nat.le_of_ble_eq_true rfl) rfl (cl_5 i_19 (by omega)) dX6_goOn_118 (fun f_126 H locs e_127 hI hS => ?_)
              have k_129 : f_126 (gr g p1 1) = .inr (5, [.ref (gr g (gr g p1 1) 0), .int x_52, .int v_125, .int x_54, .int x_55]) := by rw [e_127]; exact va_up_self _ _ _
              have k_130 : f_126 h0 = .inr (6, [.ref (gr g h0 0), .ref (gr g h0 1), .ref (gr g h0 2), .ref (gr g h0 3), .ref (gr g h0 4), .int x_112, .int x_113, .long x_114, .int x_115, .int x_116]) := by rw [e_127, va_up_ne _ _ (ik_ne i_h0 i_19 (by decide))]; exact k_123
              have kp_128 := Kp.put kp_124 i_19 (by decide) e_127
              refine lv_goto (tgt := 147) hx hb dX6_goOn_121 (by decide) ?_
              exact J_147 f_126 _ _ _ hI hS kp_128 (lv_sub hl [0, 1, 2, 3, 4, 5] rfl)
            refine lv_if_eq (tgt := 111) hx hb dX6_goOn_101 (by decide) (fun c_131 => ?_) (fun c_131 => ?_)
            · have c_131 := kc_eq rfl (by decide : Int32.toInt 0 = 0) c_131
              exact J_111 f_21 _ _ _ hI hS k_51 k_111 kp_22 (lv_sub hl [0, 1, 2, 3, 4, 5] rfl)
            · have c_131 := kn_eq rfl (by decide : Int32.toInt 0 = 0) c_131
              refine lv_aload_n hx hb dX6_goOn_104 rfl (lv_at hl 3 rfl) ?_
              refine lv_aload_n hx hb dX6_goOn_105 rfl (lv_at hl 4 rfl) ?_
              refine lv_iload hx hb dX6_goOn_106 (lv_at hl 0 rfl) ?_
              refine va_callv (va_runV (As := [.ref p1, .int r_62]) (rest := []) ⟨hx, hb, hml, hown, hts⟩ (c_X6_weighAnew l dC dI g A hG f_21 h0 p1 r_62 i_h0 i_p1) (cwV 2 hts (gi_V (fun w_ h0_ => ⟨List.mem_cons_of_mem _ (List.mem_append_right _ (List.mem_append_right _ (List.mem_append_right _ (List.mem_append_right _ (List.mem_append_right _ (List.mem_append_right _ (List.mem_append_right _ (List.mem_append_right _ (List.mem_append_right _ (List.mem_append_left _ h0_)))))))))), (tb_c_X6_weighAnew w_ h0_).2⟩) (List.mem_cons_of_mem _ (List.mem_append_left _ (List.mem_of_getElem? (i := 24) rfl))) (List.mem_cons_of_mem _ (List.mem_append_left _ (List.mem_of_getElem? (i := 25) rfl))) (List.mem_cons_of_mem _ (List.mem_append_left _ (List.mem_of_getElem? (i := 26) rfl))) (List.mem_cons_of_mem _ (List.mem_append_left _ (List.mem_of_getElem? (i := 4) rfl)))) rfl rfl rfl (by decide +kernel) ⟨Nat.le_of_ble_eq_true rfl, Nat.le_of_ble_eq_true rfl⟩) ⟨fun a U g mk q => ⟨q.1, q.2.calling rfl rfl⟩, k_recv hK hI i_h0.1 k_111 (ci := 6) rfl, fun U hU hW => ⟨rfl, kIn.of hI hK hE hS hU hW⟩⟩ rfl rfl hl.1 rfl (lv_room (Nat.le_of_ble_eq_true rfl)) dX6_goOn_108 ⟨Nat.le_of_ble_eq_true rfl, Nat.le_of_ble_eq_true rfl⟩) hS (fun q _ h => h) (fun q h => h) (fun u t H1 locs ht hvm _ hB hz1 hk1 hS => ?_)
              obtain ⟨f_132, hI, kc_134⟩ := hB
              rw [ht] at hI
              have k_135 : f_132 (gr g p1 1) = .inr (5, [.ref (gr g (gr g p1 1) 0), .int x_52, .int x_53, .int x_54, .int x_55]) := Kp.at kc_134 i_19 (by decide) k_51
              have k_136 : f_132 h0 = .inr (6, [.ref (gr g h0 0), .ref (gr g h0 1), .ref (gr g h0 2), .ref (gr g h0 3), .ref (gr g h0 4), .int x_112, .int x_113, .long x_114, .int x_115, .int x_116]) := Kp.at kc_134 i_h0 (by decide) k_111
              have kp_137 := Kp.call kp_22 kc_134 (by decide)
              generalize H1 = H at hI hS ⊢
              refine W.widen (k := 0) (n := 0) (Nat.le_of_ble_eq_true rfl) (Nat.le_of_ble_eq_true rfl) ?_
              exact J_111 f_132 _ _ _ hI hS k_135 k_136 kp_137 (lv_sub hl [0, 1, 2, 3, 4, 5] rfl)
          by_cases h_138 : r_64 = 3
          · refine k_topi (y := 3) h_138 ?_
            refine lv_tableIn (tgt := 124) hx hb dX6_goOn_41 (by decide) (by decide) rfl (by decide) ?_
            have h_138 := kc_eq rfl (by decide : Int32.toInt 3 = 3) h_138
            refine lv_aload_n hx hb dX6_goOn_124 rfl (lv_at hl 4 rfl) ?_
            refine lv_iload hx hb dX6_goOn_125 (lv_at hl 0 rfl) ?_
            obtain ⟨x_140, x_141, x_142, x_143, x_144, x_145, x_146, x_147, x_148, x_149, x_150, x_151, x_152, x_153, x_154, x_155, k_139⟩ := op_8 hI i_p1
            refine va_callv (va_runV (As := [.int r_62]) (rest := []) ⟨hx, hb, hml, hown, hts⟩ (c_X8_takeSlice l dC dI g A hG f_21 p1 r_62 i_p1) (cwV 1 hts (gi_V (fun w_ h0_ => ⟨List.mem_cons_of_mem _ (List.mem_append_right _ (List.mem_append_right _ (List.mem_append_right _ (List.mem_append_right _ (List.mem_append_right _ (List.mem_append_right _ (List.mem_append_right _ (List.mem_append_right _ (List.mem_append_right _ (List.mem_append_right _ (List.mem_append_left _ h0_))))))))))), (tb_c_X8_takeSlice w_ h0_).2⟩) (List.mem_cons_of_mem _ (List.mem_append_left _ (List.mem_of_getElem? (i := 27) rfl))) (List.mem_cons_of_mem _ (List.mem_append_left _ (List.mem_of_getElem? (i := 28) rfl))) (List.mem_cons_of_mem _ (List.mem_append_left _ (List.mem_of_getElem? (i := 29) rfl))) (List.mem_cons_of_mem _ (List.mem_append_left _ (List.mem_of_getElem? (i := 30) rfl)))) rfl rfl rfl (by decide +kernel) ⟨Nat.le_of_ble_eq_true rfl, Nat.le_of_ble_eq_true rfl⟩) ⟨fun a U g mk q => ⟨q.1, q.2.calling rfl rfl⟩, k_recv hK hI i_p1.1 k_139 (ci := 8) rfl, fun U hU hW => ⟨rfl, kIn.of hI hK hE hS hU hW⟩⟩ rfl rfl hl.1 rfl (lv_room (Nat.le_of_ble_eq_true rfl)) dX6_goOn_127 ⟨Nat.le_of_ble_eq_true rfl, Nat.le_of_ble_eq_true rfl⟩) hS (fun q _ h => h) (fun q h => h) (fun u t H1 locs ht hvm _ hB hz1 hk1 hS => ?_)
            obtain ⟨f_156, hI, kc_158⟩ := hB
            rw [ht] at hI
            have k_159 : f_156 (gr g p1 1) = .inr (5, [.ref (gr g (gr g p1 1) 0), .int x_52, .int x_53, .int x_54, .int x_55]) := Kp.at kc_158 i_19 (by decide) k_51
            have kp_160 := Kp.call kp_22 kc_158 (by decide)
            generalize H1 = H at hI hS ⊢
            refine W.widen (k := 0) (n := 0) (Nat.le_of_ble_eq_true rfl) (Nat.le_of_ble_eq_true rfl) ?_
            refine lv_aload_n hx hb dX6_goOn_130 rfl (lv_at hl 2 rfl) ?_
            refine lv_dup hx hb dX6_goOn_131 rfl ?_
            refine k_get (ci := 5) (v := .int x_53) (C := RX5) (T := TX5) (N := 5) hx hb hts (fun _ h0_ => List.mem_cons_of_mem _ (List.mem_append_right _ (List.mem_append_right _ (List.mem_append_right _ (List.mem_append_right _ (List.mem_append_right _ (List.mem_append_left _ h0_))))))) hown hK hI i_19.1 k_159 rfl 2 (by decide) (hts (.fieldLink RX6 235 "DeadlineShare$Script" "at" "I") (List.mem_cons_of_mem _ (List.mem_append_left _ (List.mem_of_getElem? (i := 12) rfl)))) (fun _ h9 => h9) rfl dX6_goOn_132 ?_
            refine lv_iconst (v := 1) hx hb dX6_goOn_135 (by decide) ?_
            refine lv_iadd hx hb dX6_goOn_136 ?_
            refine lv_topi (fun v_161 ev_161 => ?_)
            have tv_161 := k_ad x_53 1
            rw [← ev_161, show Int32.toInt 1 = 1 from by decide] at tv_161
            refine k_put (ci := 5) (v := .int v_161) (ty := .int) (C := RX5) (T := TX5) (N := 5) hx hb hts (fun _ h0_ => List.mem_cons_of_mem _ (List.mem_append_right _ (List.mem_append_right _ (List.mem_append_right _ (List.mem_append_right _ (List.mem_append_right _ (List.mem_append_left _ h0_))))))) tyX5 tyX5_ok nmX5 hown hK hI hS i_19.1 k_159 rfl 2 (by decide) (hts (.fieldLink RX6 235 "DeadlineShare$Script" "at" "I") (List.mem_cons_of_mem _ (List.mem_append_left _ (List.mem_of_getElem? (i := 12) rfl)))) (fun _ h9 => h9) rfl (by decide +kernel) rfl rfl (Nat.le_of_ble_eq_true rfl) rfl (cl_5 i_19 (by omega)) dX6_goOn_137 (fun f_162 H locs e_163 hI hS => ?_)
            have k_165 : f_162 (gr g p1 1) = .inr (5, [.ref (gr g (gr g p1 1) 0), .int x_52, .int v_161, .int x_54, .int x_55]) := by rw [e_163]; exact va_up_self _ _ _
            have kp_164 := Kp.put kp_160 i_19 (by decide) e_163
            refine lv_goto (tgt := 147) hx hb dX6_goOn_140 (by decide) ?_
            exact J_147 f_162 _ _ _ hI hS kp_164 (lv_sub hl [0, 1, 2, 3, 4, 5] rfl)
          have h_68 := kn_eq rfl (by decide : Int32.toInt 0 = 0) h_68
          have h_73 := kn_eq rfl (by decide : Int32.toInt 1 = 1) h_73
          have h_110 := kn_eq rfl (by decide : Int32.toInt 2 = 2) h_110
          have h_138 := kn_eq rfl (by decide : Int32.toInt 3 = 3) h_138
          refine lv_tableOut (tgt := 143) hx hb dX6_goOn_41 (by omega) (by decide) ?_
          refine lv_aload_n hx hb dX6_goOn_143 rfl (lv_at hl 2 rfl) ?_
          refine va_callv (va_runV (As := []) (rest := []) ⟨hx, hb, hml, hown, hts⟩ (c_X5_turnBack l dC dI g A hG f_21 (gr g p1 1) i_19) (cwV 0 hts (gi_V (fun w_ h0_ => ⟨List.mem_cons_of_mem _ (List.mem_append_right _ (List.mem_append_right _ (List.mem_append_right _ (List.mem_append_right _ (List.mem_append_right _ (List.mem_append_right _ (List.mem_append_right _ (List.mem_append_right _ (List.mem_append_right _ (List.mem_append_right _ (List.mem_append_right _ (List.mem_append_left _ h0_)))))))))))), (tb_c_X5_turnBack w_ h0_).2⟩) (List.mem_cons_of_mem _ (List.mem_append_left _ (List.mem_of_getElem? (i := 31) rfl))) (List.mem_cons_of_mem _ (List.mem_append_left _ (List.mem_of_getElem? (i := 32) rfl))) (List.mem_cons_of_mem _ (List.mem_append_left _ (List.mem_of_getElem? (i := 33) rfl))) (List.mem_cons_of_mem _ (List.mem_append_left _ (List.mem_of_getElem? (i := 8) rfl)))) rfl rfl rfl (by decide +kernel) ⟨Nat.le_of_ble_eq_true rfl, Nat.le_of_ble_eq_true rfl⟩) ⟨fun a U g mk q => ⟨q.1, q.2.calling rfl rfl⟩, k_recv hK hI i_19.1 k_51 (ci := 5) rfl, fun U hU hW => ⟨rfl, kIn.of hI hK hE hS hU hW⟩⟩ rfl rfl hl.1 rfl (lv_room (Nat.le_of_ble_eq_true rfl)) dX6_goOn_144 ⟨Nat.le_of_ble_eq_true rfl, Nat.le_of_ble_eq_true rfl⟩) hS (fun q _ h => h) (fun q h => h) (fun u t H1 locs ht hvm _ hB hz1 hk1 hS => ?_)
          obtain ⟨f_166, hI, kc_168⟩ := hB
          rw [ht] at hI
          have kp_169 := Kp.call kp_22 kc_168 (by decide)
          generalize H1 = H at hI hS ⊢
          refine W.widen (k := 0) (n := 0) (Nat.le_of_ble_eq_true rfl) (Nat.le_of_ble_eq_true rfl) ?_
          exact J_147 f_166 _ _ _ hI hS kp_169 (lv_sub hl [0, 1, 2, 3, 4, 5] rfl)
  exact K_8 _ 0 f _ _ _ (Nat.lt_succ_self _) hI hS hk0 (by first | omega | decide | (simp only [show Int32.toInt 0 = 0 from by decide]; omega)) (lv_sub hl [0, 1, 2, 3, 4] rfl)
