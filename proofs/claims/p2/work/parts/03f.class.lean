theorem tw_564 : q_g (.methodLink RX11 155 yX6_weightOfAll) := ⟨(List.mem_append_right _ (List.mem_of_getElem? (i := 545) (by decide +kernel))), good_of_word (by decide +kernel)⟩
theorem tw_565 : q_g (.methodLink RX11 151 yX6_enter) := ⟨(List.mem_append_right _ (List.mem_of_getElem? (i := 495) (by decide +kernel))), good_of_word (by decide +kernel)⟩
theorem tw_566 : q_g (.methodLink RX11 148 yX6_hasRoomFor) := ⟨(List.mem_append_right _ (List.mem_of_getElem? (i := 487) (by decide +kernel))), good_of_word (by decide +kernel)⟩
theorem tw_567 : q_g (.fieldLink RX11 145 "DeadlineShare$Task" "weight" "I") := ⟨(List.mem_append_right _ (List.mem_of_getElem? (i := 156) (by decide +kernel))), good_of_word (by decide +kernel)⟩
theorem tw_568 : q_g (.methodLink RX11 142 yX8_isSpent) := ⟨(List.mem_append_right _ (List.mem_of_getElem? (i := 483) (by decide +kernel))), good_of_word (by decide +kernel)⟩
theorem tw_569 : q_g (.fieldLink RX11 137 "DeadlineShare$Task" "state" "I") := ⟨(List.mem_append_right _ (List.mem_of_getElem? (i := 162) (by decide +kernel))), good_of_word (by decide +kernel)⟩
theorem tw_570 : q_g (.fieldLink RX11 133 "DeadlineShare$State" "tasks" "[LDeadlineShare$Task;") := ⟨(List.mem_append_right _ (List.mem_of_getElem? (i := 231) (by decide +kernel))), good_of_word (by decide +kernel)⟩
theorem tw_571 : q_g (.methodLink RX11 130 yX6_has) := ⟨(List.mem_append_right _ (List.mem_of_getElem? (i := 479) (by decide +kernel))), good_of_word (by decide +kernel)⟩
theorem tw_572 : q_g (.code yX11_join cX11_join 3 (some .int)) := ⟨(List.mem_append_right _ (List.mem_of_getElem? (i := 478) (by decide +kernel))), good_of_word (by decide +kernel)⟩
def ow_c_X11_join : List Cond := [.fieldLink RX11 37 "DeadlineShare" "now" "LDeadlineShare$State;", .methodLink RX11 130 yX6_has, .instanceMethod yX6_has, .selects RX6 yX6_has yX6_has, .initialized RX6, .fieldLink RX11 133 "DeadlineShare$State" "tasks" "[LDeadlineShare$Task;", .fieldLink RX11 137 "DeadlineShare$Task" "state" "I", .fieldLink RX11 72 "DeadlineShare" "refusals" "LDeadlineShare$Refusals;", .methodLink RX11 84 yX4_add, .instanceMethod yX4_add, .selects RX4 yX4_add yX4_add, .initialized RX4, .methodLink RX11 142 yX8_isSpent, .instanceMethod yX8_isSpent, .selects RX8 yX8_isSpent yX8_isSpent, .initialized RX8, .fieldLink RX11 145 "DeadlineShare$Task" "weight" "I", .methodLink RX11 148 yX6_hasRoomFor, .instanceMethod yX6_hasRoomFor, .selects RX6 yX6_hasRoomFor yX6_hasRoomFor, .fieldLink RX11 65 "DeadlineShare" "history" "LDeadlineShare$History;", .methodLink RX11 122 yX1_keep, .instanceMethod yX1_keep, .selects RX1 yX1_keep yX1_keep, .initialized RX1, .methodLink RX11 151 yX6_enter, .instanceMethod yX6_enter, .selects RX6 yX6_enter yX6_enter, .methodLink RX11 155 yX6_weightOfAll, .instanceMethod yX6_weightOfAll, .selects RX6 yX6_weightOfAll yX6_weightOfAll, .methodLink RX11 95 yX4_none, .instanceMethod yX4_none, .selects RX4 yX4_none yX4_none]
def wq_c_X11_join : List Cond := .code yX11_join cX11_join 3 (some .int) :: (ow_c_X11_join ++ (u_ws RX11 TX11 12 ++ (wq_c_X6_has ++ (u_ws RX6 TX6 10 ++ (u_ws RX8 TX8 18 ++ (wq_c_X4_add ++ (wq_c_X8_isSpent ++ (wq_c_X6_hasRoomFor ++ (wq_c_X1_keep ++ (wq_c_X6_enter ++ (wq_c_X6_weightOfAll ++ (wq_c_X4_none ++ ([] : List Cond)))))))))))))
theorem tb_c_X11_join : ∀ w ∈ wq_c_X11_join, q_g w := by
  unfold wq_c_X11_join ow_c_X11_join
  exact q_cons tw_572 (q_app (q_cons tw_558 (q_cons tw_571 (q_cons tw_74 (q_cons tw_73 (q_cons tw_47 (q_cons tw_570 (q_cons tw_569 (q_cons tw_522 (q_cons tw_518 (q_cons tw_517 (q_cons tw_516 (q_cons tw_273 (q_cons tw_568 (q_cons tw_439 (q_cons tw_438 (q_cons tw_8 (q_cons tw_567 (q_cons tw_566 (q_cons tw_436 (q_cons tw_435 (q_cons tw_556 (q_cons tw_555 (q_cons tw_554 (q_cons tw_553 (q_cons tw_552 (q_cons tw_565 (q_cons tw_433 (q_cons tw_432 (q_cons tw_564 (q_cons tw_88 (q_cons tw_87 (q_cons tw_521 (q_cons tw_520 (q_cons tw_519 q_nil)))))))))))))))))))))))))))))))))) (q_app tu_X11 (q_app tb_c_X6_has (q_app tu_X6 (q_app tu_X8 (q_app tb_c_X4_add (q_app tb_c_X8_isSpent (q_app tb_c_X6_hasRoomFor (q_app tb_c_X1_keep (q_app tb_c_X6_enter (q_app tb_c_X6_weightOfAll (q_app tb_c_X4_none q_nil))))))))))))
set_option maxHeartbeats 4000000 in
set_option maxRecDepth 100000 in
theorem c_X11_join (l : Launch) (dC : Nat → ClassId) (dI : Nat → Nat → Nat) (g : kG) (A : Nat → Prop) (hG : kWf g) (f : Nat → va_E) (h0 : Nat) (p1 : Int32) (i_h0 : ik g 11 h0) : Met l yX11_join wq_c_X11_join ({ frames := 5, cells := 0, slots := 0, locals := 126 } : Room) (va_Pc [.ref h0, .int p1] (fun U => kIn dC dI g A f U)) (va_Qi (fun (r : Int32) (_ : Unit) => True) (fun (_ : Unit) t => ∃ f1 : Nat → va_E, Iv dC dI g A f1 t.heap ∧ Kp g [1, 4, 5, 6, 8, 10, 23, 24, 27, 28] f f1) A) 0 0 A := by
  refine Met.ofW (cc := cX11_join) (maxL := 3) (ret := (some .int)) (by decide) rfl ?_
  intro p e s m args below meth c s₁ B hml hv
  obtain ⟨rfl, hI, hK, hE⟩ := hv
  have hx := B.exec
  have hb := B.bytes
  have hr := B.returns
  have hts := atoms_spec (ws := wq_c_X11_join) B.pre
  have hown : s.vm.findClass RX11 = some m.cls := findClass_of_methodNamed B.named
  have hlocks := B.notSynchronized
  have hS : va_S A s.heap s.heap [] := va_S.rf
  have hk0 : Kp g [1, 4, 5, 6, 8, 10, 23, 24, 27, 28] f f := Kp.rf
  have hl := lv_entry ([.ref h0, .int p1]) (n := 3) (Nat.le_of_ble_eq_true rfl)
  rw [lg_entry_eq]
  generalize (lg_sl ([.ref h0, .int p1]) ++ List.replicate (3 - (lg_sl ([.ref h0, .int p1])).length) Slot.unset).toArray = ls at hl ⊢
  have hl : lv_has ls 3 [(0, .ref h0), (1, .int p1)] := hl
  refine lv_aload_n hx hb dX11_join_0 rfl (lv_at hl 0 rfl) ?_
  obtain ⟨x_2, k_1⟩ := op_11 hI i_h0
  refine k_get (ci := 11) (v := .ref (gr g h0 3)) (C := RX11) (T := TX11) (N := 12) hx hb hts (fun _ h0_ => List.mem_cons_of_mem _ (List.mem_append_right _ (List.mem_append_left _ h0_))) hown hK hI i_h0.1 k_1 rfl 3 (by decide) (hts (.fieldLink RX11 37 "DeadlineShare" "now" "LDeadlineShare$State;") (List.mem_cons_of_mem _ (List.mem_append_left _ (List.mem_of_getElem? (i := 0) rfl)))) (fun _ h9 => h9) rfl dX11_join_1 ?_
  have i_4 := kw_11_3 hG i_h0
  refine lv_iload_n hx hb dX11_join_4 rfl (lv_at hl 1 rfl) ?_
  obtain ⟨x_6, x_7, x_8, x_9, x_10, k_5, b_11, b_12⟩ := op_6 hI i_4
  refine va_calli (va_runV (As := [.int p1]) (rest := []) ⟨hx, hb, hml, hown, hts⟩ (c_X6_has l dC dI g A hG f (gr g h0 3) p1 i_4) (cwV 1 hts (gi_V (fun w_ h0_ => ⟨List.mem_cons_of_mem _ (List.mem_append_right _ (List.mem_append_right _ (List.mem_append_left _ h0_))), (tb_c_X6_has w_ h0_).2⟩) (List.mem_cons_of_mem _ (List.mem_append_left _ (List.mem_of_getElem? (i := 1) rfl))) (List.mem_cons_of_mem _ (List.mem_append_left _ (List.mem_of_getElem? (i := 2) rfl))) (List.mem_cons_of_mem _ (List.mem_append_left _ (List.mem_of_getElem? (i := 3) rfl))) (List.mem_cons_of_mem _ (List.mem_append_left _ (List.mem_of_getElem? (i := 4) rfl)))) rfl rfl rfl (by decide +kernel) ⟨Nat.le_of_ble_eq_true rfl, Nat.le_of_ble_eq_true rfl⟩) ⟨fun a U g mk q => ⟨q.1, q.2.calling rfl rfl⟩, k_recv hK hI i_4.1 k_5 (ci := 6) rfl, fun U hU hW => ⟨rfl, kIn.of hI hK hE hS hU hW⟩⟩ rfl rfl hl.1 rfl (lv_room (Nat.le_of_ble_eq_true rfl)) dX11_join_5 ⟨Nat.le_of_ble_eq_true rfl, Nat.le_of_ble_eq_true rfl⟩) hS (fun q _ h => h) (fun q h => h) (fun r_14 u t H1 locs ht hvm w_13 hB hz1 hk1 hS => ?_)
  have hI : Iv dC dI g A f t.heap := hB
  rw [ht] at hI
  generalize H1 = H at hI hS ⊢
  refine W.widen (k := 0) (n := 0) (Nat.le_of_ble_eq_true rfl) (Nat.le_of_ble_eq_true rfl) ?_
  have w_13 : r_14.toInt = 0 ∨ (0 ≤ p1.toInt ∧ p1.toInt < 12) := w_13
  refine lv_if_ne (tgt := 21) hx hb dX11_join_8 (by decide) (fun c_15 => ?_) (fun c_15 => ?_)
  · have c_15 := kn_eq rfl (by decide : Int32.toInt 0 = 0) c_15
    refine lv_aload_n hx hb dX11_join_21 rfl (lv_at hl 0 rfl) ?_
    refine k_get (ci := 11) (v := .ref (gr g h0 3)) (C := RX11) (T := TX11) (N := 12) hx hb hts (fun _ h0_ => List.mem_cons_of_mem _ (List.mem_append_right _ (List.mem_append_left _ h0_))) hown hK hI i_h0.1 k_1 rfl 3 (by decide) (hts (.fieldLink RX11 37 "DeadlineShare" "now" "LDeadlineShare$State;") (List.mem_cons_of_mem _ (List.mem_append_left _ (List.mem_of_getElem? (i := 0) rfl)))) (fun _ h9 => h9) rfl dX11_join_22 ?_
    refine k_get (ci := 6) (v := .ref (gr g (gr g h0 3) 1)) (C := RX6) (T := TX6) (N := 10) hx hb hts (fun _ h0_ => List.mem_cons_of_mem _ (List.mem_append_right _ (List.mem_append_right _ (List.mem_append_right _ (List.mem_append_left _ h0_))))) hown hK hI i_4.1 k_5 rfl 1 (by decide) (hts (.fieldLink RX11 133 "DeadlineShare$State" "tasks" "[LDeadlineShare$Task;") (List.mem_cons_of_mem _ (List.mem_append_left _ (List.mem_of_getElem? (i := 5) rfl)))) (fun _ h9 => h9) rfl dX11_join_25 ?_
    have i_19 := kw_6_1 hG i_4
    refine lv_iload_n hx hb dX11_join_28 rfl (lv_at hl 1 rfl) ?_
    obtain ⟨q_21, k_20, b_22⟩ := op_20 hI i_19
    refine k_aald hx hb hK hI i_19.1 4 k_20 rfl (vp_in_iff.mpr (by omega)) b_22 (fun _ hj => kw_20 hG i_19 hj) dX11_join_29 (fun a_23 i_24 => ?_)
    refine lv_astore_n (lv' := [(2, .ref a_23), (0, .ref h0), (1, .int p1)]) hx hb dX11_join_30 rfl hl (by decide) rfl (fun ls hl => ?_)
    refine lv_aload_n hx hb dX11_join_31 rfl (lv_at hl 0 rfl) ?_
    obtain ⟨x_26, x_27, x_28, x_29, x_30, x_31, x_32, x_33, x_34, x_35, x_36, x_37, x_38, x_39, x_40, x_41, k_25⟩ := op_8 hI i_24
    refine k_get (ci := 8) (v := .int x_29) (C := RX8) (T := TX8) (N := 18) hx hb hts (fun _ h0_ => List.mem_cons_of_mem _ (List.mem_append_right _ (List.mem_append_right _ (List.mem_append_right _ (List.mem_append_right _ (List.mem_append_left _ h0_)))))) hown hK hI i_24.1 k_25 rfl 4 (by decide) (hts (.fieldLink RX11 137 "DeadlineShare$Task" "state" "I") (List.mem_cons_of_mem _ (List.mem_append_left _ (List.mem_of_getElem? (i := 6) rfl)))) (fun _ h9 => h9) rfl dX11_join_32 ?_
    have J_45 : ∀ (H : Heap) (locs : List Loc) (ls : Array Slot), Iv dC dI g A f H → va_S A s.heap H locs → lv_has ls 3 [(2, .ref a_23), (0, .ref h0), (1, .int p1)] → W p l e (headSpec wq_c_X11_join ({ frames := 5, cells := 0, slots := 0, locals := 126 } : Room)).room s m ([.ref h0, .int p1].toArray) below meth c H locs 0 0 (MQ below (va_Qi (fun (r : Int32) (_ : Unit) => True) (fun (_ : Unit) t => ∃ f1 : Nat → va_E, Iv dC dI g A f1 t.heap ∧ Kp g [1, 4, 5, 6, 8, 10, 23, 24, 27, 28] f f1) A) ([.ref h0, .int p1].toArray) s 0 0 A) (F0 m 45 ls []) := by
      intro H locs ls hI hS  hl
      refine lv_aload_n hx hb dX11_join_45 rfl (lv_at hl 1 rfl) ?_
      refine k_get (ci := 11) (v := .ref (gr g h0 10)) (C := RX11) (T := TX11) (N := 12) hx hb hts (fun _ h0_ => List.mem_cons_of_mem _ (List.mem_append_right _ (List.mem_append_left _ h0_))) hown hK hI i_h0.1 k_1 rfl 10 (by decide) (hts (.fieldLink RX11 72 "DeadlineShare" "refusals" "LDeadlineShare$Refusals;") (List.mem_cons_of_mem _ (List.mem_append_left _ (List.mem_of_getElem? (i := 7) rfl)))) (fun _ h9 => h9) rfl dX11_join_46 ?_
      have i_43 := kw_11_10 hG i_h0
      refine lv_bipush (v := (-4)) hx hb dX11_join_49 (by decide) ?_
      obtain ⟨x_45, k_44⟩ := op_4 hI i_43
      refine va_calli (va_runV (As := [.int (-4)]) (rest := []) ⟨hx, hb, hml, hown, hts⟩ (c_X4_add l dC dI g A hG f (gr g h0 10) (-4) i_43) (cwV 1 hts (gi_V (fun w_ h0_ => ⟨List.mem_cons_of_mem _ (List.mem_append_right _ (List.mem_append_right _ (List.mem_append_right _ (List.mem_append_right _ (List.mem_append_right _ (List.mem_append_left _ h0_)))))), (tb_c_X4_add w_ h0_).2⟩) (List.mem_cons_of_mem _ (List.mem_append_left _ (List.mem_of_getElem? (i := 8) rfl))) (List.mem_cons_of_mem _ (List.mem_append_left _ (List.mem_of_getElem? (i := 9) rfl))) (List.mem_cons_of_mem _ (List.mem_append_left _ (List.mem_of_getElem? (i := 10) rfl))) (List.mem_cons_of_mem _ (List.mem_append_left _ (List.mem_of_getElem? (i := 11) rfl)))) rfl rfl rfl (by decide +kernel) ⟨Nat.le_of_ble_eq_true rfl, Nat.le_of_ble_eq_true rfl⟩) ⟨fun a U g mk q => ⟨q.1, q.2.calling rfl rfl⟩, k_recv hK hI i_43.1 k_44 (ci := 4) rfl, fun U hU hW => ⟨rfl, kIn.of hI hK hE hS hU hW⟩⟩ rfl rfl hl.1 rfl (lv_room (Nat.le_of_ble_eq_true rfl)) dX11_join_51 ⟨Nat.le_of_ble_eq_true rfl, Nat.le_of_ble_eq_true rfl⟩) hS (fun q _ h => h) (fun q h => h) (fun r_48 u t H1 locs ht hvm w_47 hB hz1 hk1 hS => ?_)
      obtain ⟨f_46, hI, kc_49⟩ := hB
      rw [ht] at hI
      have k_50 : f_46 h0 = .inr (11, [.ref (gr g h0 0), .ref (gr g h0 1), .ref (gr g h0 2), .ref (gr g h0 3), .ref (gr g h0 4), .ref (gr g h0 5), .ref (gr g h0 6), .ref (gr g h0 7), .ref (gr g h0 8), .ref (gr g h0 9), .ref (gr g h0 10), .int x_2]) := Kp.at kc_49 i_h0 (by decide) k_1
      have k_51 : f_46 (gr g h0 3) = .inr (6, [.ref (gr g (gr g h0 3) 0), .ref (gr g (gr g h0 3) 1), .ref (gr g (gr g h0 3) 2), .ref (gr g (gr g h0 3) 3), .ref (gr g (gr g h0 3) 4), .int x_6, .int x_7, .long x_8, .int x_9, .int x_10]) := Kp.at kc_49 i_4 (by decide) k_5
      have k_52 : f_46 (gr g (gr g h0 3) 1) = .inl (gc g 4, 12, .inr (.inr (.inr (.inr q_21)))) := Kp.at kc_49 i_19 (by decide) k_20
      have k_53 : f_46 a_23 = .inr (8, [.int x_26, .ref (gr g a_23 1), .int x_27, .int x_28, .int x_29, .long x_30, .int x_31, .ref (gr g a_23 7), .int x_32, .int x_33, .int x_34, .int x_35, .int x_36, .int x_37, .int x_38, .int x_39, .int x_40, .int x_41]) := Kp.at kc_49 i_24 (by decide) k_25
      have kp_54 := Kp.call hk0 kc_49 (by decide)
      generalize H1 = H at hI hS ⊢
      refine W.widen (k := 0) (n := 0) (Nat.le_of_ble_eq_true rfl) (Nat.le_of_ble_eq_true rfl) ?_
      have w_47 : r_48.toInt = (-4 : Int32).toInt := w_47
      exact W.iret (v := r_48) hx hb hr (fun t ht hW => ⟨⟨r_48, (), rfl, trivial, ⟨f_46, k_ret ht hI, kp_54⟩⟩, hS.F ht⟩) hS.2.2 dX11_join_54
    refine lv_if_ne (tgt := 45) hx hb dX11_join_35 (by decide) (fun c_55 => ?_) (fun c_55 => ?_)
    · have c_55 := kn_eq rfl (by decide : Int32.toInt 0 = 0) c_55
      exact J_45  _ _ _ hI hS  (lv_sub hl [0, 1, 2] rfl)
    · have c_55 := kc_eq rfl (by decide : Int32.toInt 0 = 0) c_55
      refine lv_aload_n hx hb dX11_join_38 rfl (lv_at hl 0 rfl) ?_
      refine va_calli (va_runV (As := []) (rest := []) ⟨hx, hb, hml, hown, hts⟩ (c_X8_isSpent l dC dI g A hG f a_23 i_24) (cwV 0 hts (gi_V (fun w_ h0_ => ⟨List.mem_cons_of_mem _ (List.mem_append_right _ (List.mem_append_right _ (List.mem_append_right _ (List.mem_append_right _ (List.mem_append_right _ (List.mem_append_right _ (List.mem_append_left _ h0_))))))), (tb_c_X8_isSpent w_ h0_).2⟩) (List.mem_cons_of_mem _ (List.mem_append_left _ (List.mem_of_getElem? (i := 12) rfl))) (List.mem_cons_of_mem _ (List.mem_append_left _ (List.mem_of_getElem? (i := 13) rfl))) (List.mem_cons_of_mem _ (List.mem_append_left _ (List.mem_of_getElem? (i := 14) rfl))) (List.mem_cons_of_mem _ (List.mem_append_left _ (List.mem_of_getElem? (i := 15) rfl)))) rfl rfl rfl (by decide +kernel) ⟨Nat.le_of_ble_eq_true rfl, Nat.le_of_ble_eq_true rfl⟩) ⟨fun a U g mk q => ⟨q.1, q.2.calling rfl rfl⟩, k_recv hK hI i_24.1 k_25 (ci := 8) rfl, fun U hU hW => ⟨rfl, kIn.of hI hK hE hS hU hW⟩⟩ rfl rfl hl.1 rfl (lv_room (Nat.le_of_ble_eq_true rfl)) dX11_join_39 ⟨Nat.le_of_ble_eq_true rfl, Nat.le_of_ble_eq_true rfl⟩) hS (fun q _ h => h) (fun q h => h) (fun r_57 u t H1 locs ht hvm w_56 hB hz1 hk1 hS => ?_)
      have hI : Iv dC dI g A f t.heap := hB
      rw [ht] at hI
      generalize H1 = H at hI hS ⊢
      refine W.widen (k := 0) (n := 0) (Nat.le_of_ble_eq_true rfl) (Nat.le_of_ble_eq_true rfl) ?_
      refine lv_if_eq (tgt := 55) hx hb dX11_join_42 (by decide) (fun c_58 => ?_) (fun c_58 => ?_)
      · have c_58 := kc_eq rfl (by decide : Int32.toInt 0 = 0) c_58
        refine lv_aload_n hx hb dX11_join_55 rfl (lv_at hl 1 rfl) ?_
        refine k_get (ci := 11) (v := .ref (gr g h0 3)) (C := RX11) (T := TX11) (N := 12) hx hb hts (fun _ h0_ => List.mem_cons_of_mem _ (List.mem_append_right _ (List.mem_append_left _ h0_))) hown hK hI i_h0.1 k_1 rfl 3 (by decide) (hts (.fieldLink RX11 37 "DeadlineShare" "now" "LDeadlineShare$State;") (List.mem_cons_of_mem _ (List.mem_append_left _ (List.mem_of_getElem? (i := 0) rfl)))) (fun _ h9 => h9) rfl dX11_join_56 ?_
        refine lv_aload_n hx hb dX11_join_59 rfl (lv_at hl 0 rfl) ?_
        refine k_get (ci := 8) (v := .int x_27) (C := RX8) (T := TX8) (N := 18) hx hb hts (fun _ h0_ => List.mem_cons_of_mem _ (List.mem_append_right _ (List.mem_append_right _ (List.mem_append_right _ (List.mem_append_right _ (List.mem_append_left _ h0_)))))) hown hK hI i_24.1 k_25 rfl 2 (by decide) (hts (.fieldLink RX11 145 "DeadlineShare$Task" "weight" "I") (List.mem_cons_of_mem _ (List.mem_append_left _ (List.mem_of_getElem? (i := 16) rfl)))) (fun _ h9 => h9) rfl dX11_join_60 ?_
        refine va_calli (va_runV (As := [.int x_27]) (rest := []) ⟨hx, hb, hml, hown, hts⟩ (c_X6_hasRoomFor l dC dI g A hG f (gr g h0 3) x_27 i_4) (cwV 1 hts (gi_V (fun w_ h0_ => ⟨List.mem_cons_of_mem _ (List.mem_append_right _ (List.mem_append_right _ (List.mem_append_right _ (List.mem_append_right _ (List.mem_append_right _ (List.mem_append_right _ (List.mem_append_right _ (List.mem_append_left _ h0_)))))))), (tb_c_X6_hasRoomFor w_ h0_).2⟩) (List.mem_cons_of_mem _ (List.mem_append_left _ (List.mem_of_getElem? (i := 17) rfl))) (List.mem_cons_of_mem _ (List.mem_append_left _ (List.mem_of_getElem? (i := 18) rfl))) (List.mem_cons_of_mem _ (List.mem_append_left _ (List.mem_of_getElem? (i := 19) rfl))) (List.mem_cons_of_mem _ (List.mem_append_left _ (List.mem_of_getElem? (i := 4) rfl)))) rfl rfl rfl (by decide +kernel) ⟨Nat.le_of_ble_eq_true rfl, Nat.le_of_ble_eq_true rfl⟩) ⟨fun a U g mk q => ⟨q.1, q.2.calling rfl rfl⟩, k_recv hK hI i_4.1 k_5 (ci := 6) rfl, fun U hU hW => ⟨rfl, kIn.of hI hK hE hS hU hW⟩⟩ rfl rfl hl.1 rfl (lv_room (Nat.le_of_ble_eq_true rfl)) dX11_join_63 ⟨Nat.le_of_ble_eq_true rfl, Nat.le_of_ble_eq_true rfl⟩) hS (fun q _ h => h) (fun q h => h) (fun r_62 u t H1 locs ht hvm w_61 hB hz1 hk1 hS => ?_)
        have hI : Iv dC dI g A f t.heap := hB
        rw [ht] at hI
        generalize H1 = H at hI hS ⊢
        refine W.widen (k := 0) (n := 0) (Nat.le_of_ble_eq_true rfl) (Nat.le_of_ble_eq_true rfl) ?_
        refine lv_if_ne (tgt := 79) hx hb dX11_join_66 (by decide) (fun c_63 => ?_) (fun c_63 => ?_)
        · have c_63 := kn_eq rfl (by decide : Int32.toInt 0 = 0) c_63
          refine lv_aload_n hx hb dX11_join_79 rfl (lv_at hl 1 rfl) ?_
          refine k_get (ci := 11) (v := .ref (gr g h0 9)) (C := RX11) (T := TX11) (N := 12) hx hb hts (fun _ h0_ => List.mem_cons_of_mem _ (List.mem_append_right _ (List.mem_append_left _ h0_))) hown hK hI i_h0.1 k_1 rfl 9 (by decide) (hts (.fieldLink RX11 65 "DeadlineShare" "history" "LDeadlineShare$History;") (List.mem_cons_of_mem _ (List.mem_append_left _ (List.mem_of_getElem? (i := 20) rfl)))) (fun _ h9 => h9) rfl dX11_join_80 ?_
          have i_65 := kw_11_9 hG i_h0
          refine lv_aload_n hx hb dX11_join_83 rfl (lv_at hl 1 rfl) ?_
          refine k_get (ci := 11) (v := .ref (gr g h0 3)) (C := RX11) (T := TX11) (N := 12) hx hb hts (fun _ h0_ => List.mem_cons_of_mem _ (List.mem_append_right _ (List.mem_append_left _ h0_))) hown hK hI i_h0.1 k_1 rfl 3 (by decide) (hts (.fieldLink RX11 37 "DeadlineShare" "now" "LDeadlineShare$State;") (List.mem_cons_of_mem _ (List.mem_append_left _ (List.mem_of_getElem? (i := 0) rfl)))) (fun _ h9 => h9) rfl dX11_join_84 ?_
          refine lv_iconst (v := 1) hx hb dX11_join_87 (by decide) ?_
          obtain ⟨x_69, x_70, k_68⟩ := op_1 hI i_65
          refine va_callv (va_runV (As := [.ref (gr g h0 3), .int 1]) (rest := []) ⟨hx, hb, hml, hown, hts⟩ (c_X1_keep l dC dI g A hG f (gr g h0 9) (gr g h0 3) 1 i_65 i_4) (cwV 2 hts (gi_V (fun w_ h0_ => ⟨List.mem_cons_of_mem _ (List.mem_append_right _ (List.mem_append_right _ (List.mem_append_right _ (List.mem_append_right _ (List.mem_append_right _ (List.mem_append_right _ (List.mem_append_right _ (List.mem_append_right _ (List.mem_append_left _ h0_))))))))), (tb_c_X1_keep w_ h0_).2⟩) (List.mem_cons_of_mem _ (List.mem_append_left _ (List.mem_of_getElem? (i := 21) rfl))) (List.mem_cons_of_mem _ (List.mem_append_left _ (List.mem_of_getElem? (i := 22) rfl))) (List.mem_cons_of_mem _ (List.mem_append_left _ (List.mem_of_getElem? (i := 23) rfl))) (List.mem_cons_of_mem _ (List.mem_append_left _ (List.mem_of_getElem? (i := 24) rfl)))) rfl rfl rfl (by decide +kernel) ⟨Nat.le_of_ble_eq_true rfl, Nat.le_of_ble_eq_true rfl⟩) ⟨fun a U g mk q => ⟨q.1, q.2.calling rfl rfl⟩, k_recv hK hI i_65.1 k_68 (ci := 1) rfl, fun U hU hW => ⟨rfl, kIn.of hI hK hE hS hU hW⟩⟩ rfl rfl hl.1 rfl (lv_room (Nat.le_of_ble_eq_true rfl)) dX11_join_88 ⟨Nat.le_of_ble_eq_true rfl, Nat.le_of_ble_eq_true rfl⟩) hS (fun q _ h => h) (fun q h => h) (fun u t H1 locs ht hvm _ hB hz1 hk1 hS => ?_)
          obtain ⟨f_71, hI, kc_73⟩ := hB
          rw [ht] at hI
          have k_74 : f_71 h0 = .inr (11, [.ref (gr g h0 0), .ref (gr g h0 1), .ref (gr g h0 2), .ref (gr g h0 3), .ref (gr g h0 4), .ref (gr g h0 5), .ref (gr g h0 6), .ref (gr g h0 7), .ref (gr g h0 8), .ref (gr g h0 9), .ref (gr g h0 10), .int x_2]) := Kp.at kc_73 i_h0 (by decide) k_1
          have k_75 : f_71 (gr g (gr g h0 3) 1) = .inl (gc g 4, 12, .inr (.inr (.inr (.inr q_21)))) := Kp.at kc_73 i_19 (by decide) k_20
          have kp_76 := Kp.call hk0 kc_73 (by decide)
          generalize H1 = H at hI hS ⊢
          refine W.widen (k := 0) (n := 0) (Nat.le_of_ble_eq_true rfl) (Nat.le_of_ble_eq_true rfl) ?_
          refine lv_aload_n hx hb dX11_join_91 rfl (lv_at hl 1 rfl) ?_
          refine k_get (ci := 11) (v := .ref (gr g h0 3)) (C := RX11) (T := TX11) (N := 12) hx hb hts (fun _ h0_ => List.mem_cons_of_mem _ (List.mem_append_right _ (List.mem_append_left _ h0_))) hown hK hI i_h0.1 k_74 rfl 3 (by decide) (hts (.fieldLink RX11 37 "DeadlineShare" "now" "LDeadlineShare$State;") (List.mem_cons_of_mem _ (List.mem_append_left _ (List.mem_of_getElem? (i := 0) rfl)))) (fun _ h9 => h9) rfl dX11_join_92 ?_
          refine lv_aload_n hx hb dX11_join_95 rfl (lv_at hl 0 rfl) ?_
          obtain ⟨x_80, x_81, x_82, x_83, x_84, k_79, b_85, b_86⟩ := op_6 hI i_4
          refine va_callv (va_runV (As := [.ref a_23]) (rest := []) ⟨hx, hb, hml, hown, hts⟩ (c_X6_enter l dC dI g A hG f_71 (gr g h0 3) a_23 i_4 i_24) (cwV 1 hts (gi_V (fun w_ h0_ => ⟨List.mem_cons_of_mem _ (List.mem_append_right _ (List.mem_append_right _ (List.mem_append_right _ (List.mem_append_right _ (List.mem_append_right _ (List.mem_append_right _ (List.mem_append_right _ (List.mem_append_right _ (List.mem_append_right _ (List.mem_append_left _ h0_)))))))))), (tb_c_X6_enter w_ h0_).2⟩) (List.mem_cons_of_mem _ (List.mem_append_left _ (List.mem_of_getElem? (i := 25) rfl))) (List.mem_cons_of_mem _ (List.mem_append_left _ (List.mem_of_getElem? (i := 26) rfl))) (List.mem_cons_of_mem _ (List.mem_append_left _ (List.mem_of_getElem? (i := 27) rfl))) (List.mem_cons_of_mem _ (List.mem_append_left _ (List.mem_of_getElem? (i := 4) rfl)))) rfl rfl rfl (by decide +kernel) ⟨Nat.le_of_ble_eq_true rfl, Nat.le_of_ble_eq_true rfl⟩) ⟨fun a U g mk q => ⟨q.1, q.2.calling rfl rfl⟩, k_recv hK hI i_4.1 k_79 (ci := 6) rfl, fun U hU hW => ⟨rfl, kIn.of hI hK hE hS hU hW⟩⟩ rfl rfl hl.1 rfl (lv_room (Nat.le_of_ble_eq_true rfl)) dX11_join_96 ⟨Nat.le_of_ble_eq_true rfl, Nat.le_of_ble_eq_true rfl⟩) hS (fun q _ h => h) (fun q h => h) (fun u t H1 locs ht hvm _ hB hz1 hk1 hS => ?_)
          obtain ⟨f_87, hI, kc_89⟩ := hB
          rw [ht] at hI
          have k_90 : f_87 h0 = .inr (11, [.ref (gr g h0 0), .ref (gr g h0 1), .ref (gr g h0 2), .ref (gr g h0 3), .ref (gr g h0 4), .ref (gr g h0 5), .ref (gr g h0 6), .ref (gr g h0 7), .ref (gr g h0 8), .ref (gr g h0 9), .ref (gr g h0 10), .int x_2]) := Kp.at kc_89 i_h0 (by decide) k_74
          have k_91 : f_87 (gr g (gr g h0 3) 1) = .inl (gc g 4, 12, .inr (.inr (.inr (.inr q_21)))) := Kp.at kc_89 i_19 (by decide) k_75
          have k_92 : f_87 (gr g h0 3) = .inr (6, [.ref (gr g (gr g h0 3) 0), .ref (gr g (gr g h0 3) 1), .ref (gr g (gr g h0 3) 2), .ref (gr g (gr g h0 3) 3), .ref (gr g (gr g h0 3) 4), .int x_80, .int x_81, .long x_82, .int x_83, .int x_84]) := Kp.at kc_89 i_4 (by decide) k_79
          have kp_93 := Kp.call kp_76 kc_89 (by decide)
          generalize H1 = H at hI hS ⊢
          refine W.widen (k := 0) (n := 0) (Nat.le_of_ble_eq_true rfl) (Nat.le_of_ble_eq_true rfl) ?_
          refine lv_aload_n hx hb dX11_join_99 rfl (lv_at hl 1 rfl) ?_
          refine k_get (ci := 11) (v := .ref (gr g h0 10)) (C := RX11) (T := TX11) (N := 12) hx hb hts (fun _ h0_ => List.mem_cons_of_mem _ (List.mem_append_right _ (List.mem_append_left _ h0_))) hown hK hI i_h0.1 k_90 rfl 10 (by decide) (hts (.fieldLink RX11 72 "DeadlineShare" "refusals" "LDeadlineShare$Refusals;") (List.mem_cons_of_mem _ (List.mem_append_left _ (List.mem_of_getElem? (i := 7) rfl)))) (fun _ h9 => h9) rfl dX11_join_100 ?_
          have i_95 := kw_11_10 hG i_h0
          refine lv_aload_n hx hb dX11_join_103 rfl (lv_at hl 1 rfl) ?_
          refine k_get (ci := 11) (v := .ref (gr g h0 3)) (C := RX11) (T := TX11) (N := 12) hx hb hts (fun _ h0_ => List.mem_cons_of_mem _ (List.mem_append_right _ (List.mem_append_left _ h0_))) hown hK hI i_h0.1 k_90 rfl 3 (by decide) (hts (.fieldLink RX11 37 "DeadlineShare" "now" "LDeadlineShare$State;") (List.mem_cons_of_mem _ (List.mem_append_left _ (List.mem_of_getElem? (i := 0) rfl)))) (fun _ h9 => h9) rfl dX11_join_104 ?_
          refine va_calli (va_runV (As := []) (rest := [.ref (gr g h0 10)]) ⟨hx, hb, hml, hown, hts⟩ (c_X6_weightOfAll l dC dI g A hG f_87 (gr g h0 3) i_4) (cwV 0 hts (gi_V (fun w_ h0_ => ⟨List.mem_cons_of_mem _ (List.mem_append_right _ (List.mem_append_right _ (List.mem_append_right _ (List.mem_append_right _ (List.mem_append_right _ (List.mem_append_right _ (List.mem_append_right _ (List.mem_append_right _ (List.mem_append_right _ (List.mem_append_right _ (List.mem_append_left _ h0_))))))))))), (tb_c_X6_weightOfAll w_ h0_).2⟩) (List.mem_cons_of_mem _ (List.mem_append_left _ (List.mem_of_getElem? (i := 28) rfl))) (List.mem_cons_of_mem _ (List.mem_append_left _ (List.mem_of_getElem? (i := 29) rfl))) (List.mem_cons_of_mem _ (List.mem_append_left _ (List.mem_of_getElem? (i := 30) rfl))) (List.mem_cons_of_mem _ (List.mem_append_left _ (List.mem_of_getElem? (i := 4) rfl)))) rfl rfl rfl (by decide +kernel) ⟨Nat.le_of_ble_eq_true rfl, Nat.le_of_ble_eq_true rfl⟩) ⟨fun a U g mk q => ⟨q.1, q.2.calling rfl rfl⟩, k_recv hK hI i_4.1 k_92 (ci := 6) rfl, fun U hU hW => ⟨rfl, kIn.of hI hK hE hS hU hW⟩⟩ rfl rfl hl.1 rfl (lv_room (Nat.le_of_ble_eq_true rfl)) dX11_join_107 ⟨Nat.le_of_ble_eq_true rfl, Nat.le_of_ble_eq_true rfl⟩) hS (fun q _ h => h) (fun q h => h) (fun r_99 u t H1 locs ht hvm w_98 hB hz1 hk1 hS => ?_)
          have hI : Iv dC dI g A f_87 t.heap := hB
          rw [ht] at hI
          generalize H1 = H at hI hS ⊢
          refine W.widen (k := 0) (n := 0) (Nat.le_of_ble_eq_true rfl) (Nat.le_of_ble_eq_true rfl) ?_
          obtain ⟨x_101, k_100⟩ := op_4 hI i_95
          refine va_calli (va_runV (As := [.int r_99]) (rest := []) ⟨hx, hb, hml, hown, hts⟩ (c_X4_none l dC dI g A hG f_87 (gr g h0 10) r_99 i_95) (cwV 1 hts (gi_V (fun w_ h0_ => ⟨List.mem_cons_of_mem _ (List.mem_append_right _ (List.mem_append_right _ (List.mem_append_right _ (List.mem_append_right _ (List.mem_append_right _ (List.mem_append_right _ (List.mem_append_right _ (List.mem_append_right _ (List.mem_append_right _ (List.mem_append_right _ (List.mem_append_right _ (List.mem_append_left _ h0_)))))))))))), (tb_c_X4_none w_ h0_).2⟩) (List.mem_cons_of_mem _ (List.mem_append_left _ (List.mem_of_getElem? (i := 31) rfl))) (List.mem_cons_of_mem _ (List.mem_append_left _ (List.mem_of_getElem? (i := 32) rfl))) (List.mem_cons_of_mem _ (List.mem_append_left _ (List.mem_of_getElem? (i := 33) rfl))) (List.mem_cons_of_mem _ (List.mem_append_left _ (List.mem_of_getElem? (i := 11) rfl)))) rfl rfl rfl (by decide +kernel) ⟨Nat.le_of_ble_eq_true rfl, Nat.le_of_ble_eq_true rfl⟩) ⟨fun a U g mk q => ⟨q.1, q.2.calling rfl rfl⟩, k_recv hK hI i_95.1 k_100 (ci := 4) rfl, fun U hU hW => ⟨rfl, kIn.of hI hK hE hS hU hW⟩⟩ rfl rfl hl.1 rfl (lv_room (Nat.le_of_ble_eq_true rfl)) dX11_join_110 ⟨Nat.le_of_ble_eq_true rfl, Nat.le_of_ble_eq_true rfl⟩) hS (fun q _ h => h) (fun q h => h) (fun r_104 u t H1 locs ht hvm w_103 hB hz1 hk1 hS => ?_)
          obtain ⟨f_102, hI, kc_105⟩ := hB
          rw [ht] at hI
          have k_106 : f_102 h0 = .inr (11, [.ref (gr g h0 0), .ref (gr g h0 1), .ref (gr g h0 2), .ref (gr g h0 3), .ref (gr g h0 4), .ref (gr g h0 5), .ref (gr g h0 6), .ref (gr g h0 7), .ref (gr g h0 8), .ref (gr g h0 9), .ref (gr g h0 10), .int x_2]) := Kp.at kc_105 i_h0 (by decide) k_90
          have k_107 : f_102 (gr g (gr g h0 3) 1) = .inl (gc g 4, 12, .inr (.inr (.inr (.inr q_21)))) := Kp.at kc_105 i_19 (by decide) k_91
          have k_108 : f_102 (gr g h0 3) = .inr (6, [.ref (gr g (gr g h0 3) 0), .ref (gr g (gr g h0 3) 1), .ref (gr g (gr g h0 3) 2), .ref (gr g (gr g h0 3) 3), .ref (gr g (gr g h0 3) 4), .int x_80, .int x_81, .long x_82, .int x_83, .int x_84]) := Kp.at kc_105 i_4 (by decide) k_92
          have kp_109 := Kp.call kp_93 kc_105 (by decide)
          generalize H1 = H at hI hS ⊢
          refine W.widen (k := 0) (n := 0) (Nat.le_of_ble_eq_true rfl) (Nat.le_of_ble_eq_true rfl) ?_
          have w_103 : r_104.toInt = r_99.toInt := w_103
          exact W.iret (v := r_104) hx hb hr (fun t ht hW => ⟨⟨r_104, (), rfl, trivial, ⟨f_102, k_ret ht hI, kp_109⟩⟩, hS.F ht⟩) hS.2.2 dX11_join_113
        · have c_63 := kc_eq rfl (by decide : Int32.toInt 0 = 0) c_63
          refine lv_aload_n hx hb dX11_join_69 rfl (lv_at hl 1 rfl) ?_
          refine k_get (ci := 11) (v := .ref (gr g h0 10)) (C := RX11) (T := TX11) (N := 12) hx hb hts (fun _ h0_ => List.mem_cons_of_mem _ (List.mem_append_right _ (List.mem_append_left _ h0_))) hown hK hI i_h0.1 k_1 rfl 10 (by decide) (hts (.fieldLink RX11 72 "DeadlineShare" "refusals" "LDeadlineShare$Refusals;") (List.mem_cons_of_mem _ (List.mem_append_left _ (List.mem_of_getElem? (i := 7) rfl)))) (fun _ h9 => h9) rfl dX11_join_70 ?_
          have i_111 := kw_11_10 hG i_h0
          refine lv_bipush (v := (-5)) hx hb dX11_join_73 (by decide) ?_
          obtain ⟨x_113, k_112⟩ := op_4 hI i_111
          refine va_calli (va_runV (As := [.int (-5)]) (rest := []) ⟨hx, hb, hml, hown, hts⟩ (c_X4_add l dC dI g A hG f (gr g h0 10) (-5) i_111) (cwV 1 hts (gi_V (fun w_ h0_ => ⟨List.mem_cons_of_mem _ (List.mem_append_right _ (List.mem_append_right _ (List.mem_append_right _ (List.mem_append_right _ (List.mem_append_right _ (List.mem_append_left _ h0_)))))), (tb_c_X4_add w_ h0_).2⟩) (List.mem_cons_of_mem _ (List.mem_append_left _ (List.mem_of_getElem? (i := 8) rfl))) (List.mem_cons_of_mem _ (List.mem_append_left _ (List.mem_of_getElem? (i := 9) rfl))) (List.mem_cons_of_mem _ (List.mem_append_left _ (List.mem_of_getElem? (i := 10) rfl))) (List.mem_cons_of_mem _ (List.mem_append_left _ (List.mem_of_getElem? (i := 11) rfl)))) rfl rfl rfl (by decide +kernel) ⟨Nat.le_of_ble_eq_true rfl, Nat.le_of_ble_eq_true rfl⟩) ⟨fun a U g mk q => ⟨q.1, q.2.calling rfl rfl⟩, k_recv hK hI i_111.1 k_112 (ci := 4) rfl, fun U hU hW => ⟨rfl, kIn.of hI hK hE hS hU hW⟩⟩ rfl rfl hl.1 rfl (lv_room (Nat.le_of_ble_eq_true rfl)) dX11_join_75 ⟨Nat.le_of_ble_eq_true rfl, Nat.le_of_ble_eq_true rfl⟩) hS (fun q _ h => h) (fun q h => h) (fun r_116 u t H1 locs ht hvm w_115 hB hz1 hk1 hS => ?_)
          obtain ⟨f_114, hI, kc_117⟩ := hB
          rw [ht] at hI
          have k_118 : f_114 h0 = .inr (11, [.ref (gr g h0 0), .ref (gr g h0 1), .ref (gr g h0 2), .ref (gr g h0 3), .ref (gr g h0 4), .ref (gr g h0 5), .ref (gr g h0 6), .ref (gr g h0 7), .ref (gr g h0 8), .ref (gr g h0 9), .ref (gr g h0 10), .int x_2]) := Kp.at kc_117 i_h0 (by decide) k_1
          have k_119 : f_114 (gr g h0 3) = .inr (6, [.ref (gr g (gr g h0 3) 0), .ref (gr g (gr g h0 3) 1), .ref (gr g (gr g h0 3) 2), .ref (gr g (gr g h0 3) 3), .ref (gr g (gr g h0 3) 4), .int x_6, .int x_7, .long x_8, .int x_9, .int x_10]) := Kp.at kc_117 i_4 (by decide) k_5
          have k_120 : f_114 (gr g (gr g h0 3) 1) = .inl (gc g 4, 12, .inr (.inr (.inr (.inr q_21)))) := Kp.at kc_117 i_19 (by decide) k_20
          have k_121 : f_114 a_23 = .inr (8, [.int x_26, .ref (gr g a_23 1), .int x_27, .int x_28, .int x_29, .long x_30, .int x_31, .ref (gr g a_23 7), .int x_32, .int x_33, .int x_34, .int x_35, .int x_36, .int x_37, .int x_38, .int x_39, .int x_40, .int x_41]) := Kp.at kc_117 i_24 (by decide) k_25
          have kp_122 := Kp.call hk0 kc_117 (by decide)
          generalize H1 = H at hI hS ⊢
          refine W.widen (k := 0) (n := 0) (Nat.le_of_ble_eq_true rfl) (Nat.le_of_ble_eq_true rfl) ?_
          have w_115 : r_116.toInt = (-5 : Int32).toInt := w_115
          exact W.iret (v := r_116) hx hb hr (fun t ht hW => ⟨⟨r_116, (), rfl, trivial, ⟨f_114, k_ret ht hI, kp_122⟩⟩, hS.F ht⟩) hS.2.2 dX11_join_78
      · have c_58 := kn_eq rfl (by decide : Int32.toInt 0 = 0) c_58
        exact J_45  _ _ _ hI hS  (lv_sub hl [0, 1, 2] rfl)
  · have c_15 := kc_eq rfl (by decide : Int32.toInt 0 = 0) c_15
    refine lv_aload_n hx hb dX11_join_11 rfl (lv_at hl 0 rfl) ?_
    refine k_get (ci := 11) (v := .ref (gr g h0 10)) (C := RX11) (T := TX11) (N := 12) hx hb hts (fun _ h0_ => List.mem_cons_of_mem _ (List.mem_append_right _ (List.mem_append_left _ h0_))) hown hK hI i_h0.1 k_1 rfl 10 (by decide) (hts (.fieldLink RX11 72 "DeadlineShare" "refusals" "LDeadlineShare$Refusals;") (List.mem_cons_of_mem _ (List.mem_append_left _ (List.mem_of_getElem? (i := 7) rfl)))) (fun _ h9 => h9) rfl dX11_join_12 ?_
    have i_124 := kw_11_10 hG i_h0
    refine lv_bipush (v := (-2)) hx hb dX11_join_15 (by decide) ?_
    obtain ⟨x_126, k_125⟩ := op_4 hI i_124
    refine va_calli (va_runV (As := [.int (-2)]) (rest := []) ⟨hx, hb, hml, hown, hts⟩ (c_X4_add l dC dI g A hG f (gr g h0 10) (-2) i_124) (cwV 1 hts (gi_V (fun w_ h0_ => ⟨List.mem_cons_of_mem _ (List.mem_append_right _ (List.mem_append_right _ (List.mem_append_right _ (List.mem_append_right _ (List.mem_append_right _ (List.mem_append_left _ h0_)))))), (tb_c_X4_add w_ h0_).2⟩) (List.mem_cons_of_mem _ (List.mem_append_left _ (List.mem_of_getElem? (i := 8) rfl))) (List.mem_cons_of_mem _ (List.mem_append_left _ (List.mem_of_getElem? (i := 9) rfl))) (List.mem_cons_of_mem _ (List.mem_append_left _ (List.mem_of_getElem? (i := 10) rfl))) (List.mem_cons_of_mem _ (List.mem_append_left _ (List.mem_of_getElem? (i := 11) rfl)))) rfl rfl rfl (by decide +kernel) ⟨Nat.le_of_ble_eq_true rfl, Nat.le_of_ble_eq_true rfl⟩) ⟨fun a U g mk q => ⟨q.1, q.2.calling rfl rfl⟩, k_recv hK hI i_124.1 k_125 (ci := 4) rfl, fun U hU hW => ⟨rfl, kIn.of hI hK hE hS hU hW⟩⟩ rfl rfl hl.1 rfl (lv_room (Nat.le_of_ble_eq_true rfl)) dX11_join_17 ⟨Nat.le_of_ble_eq_true rfl, Nat.le_of_ble_eq_true rfl⟩) hS (fun q _ h => h) (fun q h => h) (fun r_129 u t H1 locs ht hvm w_128 hB hz1 hk1 hS => ?_)
    obtain ⟨f_127, hI, kc_130⟩ := hB
    rw [ht] at hI
    have k_131 : f_127 h0 = .inr (11, [.ref (gr g h0 0), .ref (gr g h0 1), .ref (gr g h0 2), .ref (gr g h0 3), .ref (gr g h0 4), .ref (gr g h0 5), .ref (gr g h0 6), .ref (gr g h0 7), .ref (gr g h0 8), .ref (gr g h0 9), .ref (gr g h0 10), .int x_2]) := Kp.at kc_130 i_h0 (by decide) k_1
    have k_132 : f_127 (gr g h0 3) = .inr (6, [.ref (gr g (gr g h0 3) 0), .ref (gr g (gr g h0 3) 1), .ref (gr g (gr g h0 3) 2), .ref (gr g (gr g h0 3) 3), .ref (gr g (gr g h0 3) 4), .int x_6, .int x_7, .long x_8, .int x_9, .int x_10]) := Kp.at kc_130 i_4 (by decide) k_5
    have kp_133 := Kp.call hk0 kc_130 (by decide)
    generalize H1 = H at hI hS ⊢
    refine W.widen (k := 0) (n := 0) (Nat.le_of_ble_eq_true rfl) (Nat.le_of_ble_eq_true rfl) ?_
    have w_128 : r_129.toInt = (-2 : Int32).toInt := w_128
    exact W.iret (v := r_129) hx hb hr (fun t ht hW => ⟨⟨r_129, (), rfl, trivial, ⟨f_127, k_ret ht hI, kp_133⟩⟩, hS.F ht⟩) hS.2.2 dX11_join_20
theorem tw_573 : q_g (.methodLink RX11 162 yX6_depart) := ⟨(List.mem_append_right _ (List.mem_of_getElem? (i := 554) (by decide +kernel))), good_of_word (by decide +kernel)⟩
theorem tw_574 : q_g (.methodLink RX11 170 yX5_drop) := ⟨(List.mem_append_right _ (List.mem_of_getElem? (i := 562) (by decide +kernel))), good_of_word (by decide +kernel)⟩
theorem tw_575 : q_g (.fieldLink RX11 166 "DeadlineShare$Task" "script" "LDeadlineShare$Script;") := ⟨(List.mem_append_right _ (List.mem_of_getElem? (i := 152) (by decide +kernel))), good_of_word (by decide +kernel)⟩
theorem tw_576 : q_g (.methodLink RX11 159 yX8_isOn) := ⟨(List.mem_append_right _ (List.mem_of_getElem? (i := 550) (by decide +kernel))), good_of_word (by decide +kernel)⟩
theorem tw_577 : q_g (.code yX11_leave cX11_leave 3 (some .int)) := ⟨(List.mem_append_right _ (List.mem_of_getElem? (i := 549) (by decide +kernel))), good_of_word (by decide +kernel)⟩
def ow_c_X11_leave : List Cond := [.fieldLink RX11 37 "DeadlineShare" "now" "LDeadlineShare$State;", .methodLink RX11 130 yX6_has, .instanceMethod yX6_has, .selects RX6 yX6_has yX6_has, .initialized RX6, .fieldLink RX11 133 "DeadlineShare$State" "tasks" "[LDeadlineShare$Task;", .fieldLink RX11 137 "DeadlineShare$Task" "state" "I", .fieldLink RX11 65 "DeadlineShare" "history" "LDeadlineShare$History;", .methodLink RX11 122 yX1_keep, .instanceMethod yX1_keep, .selects RX1 yX1_keep yX1_keep, .initialized RX1, .methodLink RX11 159 yX8_isOn, .instanceMethod yX8_isOn, .selects RX8 yX8_isOn yX8_isOn, .initialized RX8, .fieldLink RX11 166 "DeadlineShare$Task" "script" "LDeadlineShare$Script;", .methodLink RX11 170 yX5_drop, .instanceMethod yX5_drop, .selects RX5 yX5_drop yX5_drop, .initialized RX5, .fieldLink RX11 72 "DeadlineShare" "refusals" "LDeadlineShare$Refusals;", .methodLink RX11 155 yX6_weightOfAll, .instanceMethod yX6_weightOfAll, .selects RX6 yX6_weightOfAll yX6_weightOfAll, .methodLink RX11 95 yX4_none, .instanceMethod yX4_none, .selects RX4 yX4_none yX4_none, .initialized RX4, .methodLink RX11 162 yX6_depart, .instanceMethod yX6_depart, .selects RX6 yX6_depart yX6_depart, .methodLink RX11 84 yX4_add, .instanceMethod yX4_add, .selects RX4 yX4_add yX4_add]
def wq_c_X11_leave : List Cond := .code yX11_leave cX11_leave 3 (some .int) :: (ow_c_X11_leave ++ (u_ws RX11 TX11 12 ++ (wq_c_X6_has ++ (u_ws RX6 TX6 10 ++ (u_ws RX8 TX8 18 ++ (wq_c_X1_keep ++ (wq_c_X8_isOn ++ (wq_c_X5_drop ++ (wq_c_X6_weightOfAll ++ (wq_c_X4_none ++ (wq_c_X6_depart ++ (wq_c_X4_add ++ ([] : List Cond)))))))))))))
theorem tb_c_X11_leave : ∀ w ∈ wq_c_X11_leave, q_g w := by
  unfold wq_c_X11_leave ow_c_X11_leave
  exact q_cons tw_577 (q_app (q_cons tw_558 (q_cons tw_571 (q_cons tw_74 (q_cons tw_73 (q_cons tw_47 (q_cons tw_570 (q_cons tw_569 (q_cons tw_556 (q_cons tw_555 (q_cons tw_554 (q_cons tw_553 (q_cons tw_552 (q_cons tw_576 (q_cons tw_10 (q_cons tw_9 (q_cons tw_8 (q_cons tw_575 (q_cons tw_574 (q_cons tw_269 (q_cons tw_268 (q_cons tw_133 (q_cons tw_522 (q_cons tw_564 (q_cons tw_88 (q_cons tw_87 (q_cons tw_521 (q_cons tw_520 (q_cons tw_519 (q_cons tw_273 (q_cons tw_573 (q_cons tw_426 (q_cons tw_425 (q_cons tw_518 (q_cons tw_517 (q_cons tw_516 q_nil))))))))))))))))))))))))))))))))))) (q_app tu_X11 (q_app tb_c_X6_has (q_app tu_X6 (q_app tu_X8 (q_app tb_c_X1_keep (q_app tb_c_X8_isOn (q_app tb_c_X5_drop (q_app tb_c_X6_weightOfAll (q_app tb_c_X4_none (q_app tb_c_X6_depart (q_app tb_c_X4_add q_nil))))))))))))
set_option maxHeartbeats 4000000 in
set_option maxRecDepth 100000 in
theorem c_X11_leave (l : Launch) (dC : Nat → ClassId) (dI : Nat → Nat → Nat) (g : kG) (A : Nat → Prop) (hG : kWf g) (f : Nat → va_E) (h0 : Nat) (p1 : Int32) (i_h0 : ik g 11 h0) : Met l yX11_leave wq_c_X11_leave ({ frames := 5, cells := 0, slots := 0, locals := 126 } : Room) (va_Pc [.ref h0, .int p1] (fun U => kIn dC dI g A f U)) (va_Qi (fun (r : Int32) (_ : Unit) => True) (fun (_ : Unit) t => ∃ f1 : Nat → va_E, Iv dC dI g A f1 t.heap ∧ Kp g [1, 4, 5, 6, 8, 10, 23, 24, 27, 28] f f1) A) 0 0 A := by
  refine Met.ofW (cc := cX11_leave) (maxL := 3) (ret := (some .int)) (by decide) rfl ?_
  intro p e s m args below meth c s₁ B hml hv
  obtain ⟨rfl, hI, hK, hE⟩ := hv
  have hx := B.exec
  have hb := B.bytes
  have hr := B.returns
  have hts := atoms_spec (ws := wq_c_X11_leave) B.pre
  have hown : s.vm.findClass RX11 = some m.cls := findClass_of_methodNamed B.named
  have hlocks := B.notSynchronized
  have hS : va_S A s.heap s.heap [] := va_S.rf
  have hk0 : Kp g [1, 4, 5, 6, 8, 10, 23, 24, 27, 28] f f := Kp.rf
  have hl := lv_entry ([.ref h0, .int p1]) (n := 3) (Nat.le_of_ble_eq_true rfl)
  rw [lg_entry_eq]
  generalize (lg_sl ([.ref h0, .int p1]) ++ List.replicate (3 - (lg_sl ([.ref h0, .int p1])).length) Slot.unset).toArray = ls at hl ⊢
  have hl : lv_has ls 3 [(0, .ref h0), (1, .int p1)] := hl
  refine lv_aload_n hx hb dX11_leave_0 rfl (lv_at hl 0 rfl) ?_
  obtain ⟨x_2, k_1⟩ := op_11 hI i_h0
  refine k_get (ci := 11) (v := .ref (gr g h0 3)) (C := RX11) (T := TX11) (N := 12) hx hb hts (fun _ h0_ => List.mem_cons_of_mem _ (List.mem_append_right _ (List.mem_append_left _ h0_))) hown hK hI i_h0.1 k_1 rfl 3 (by decide) (hts (.fieldLink RX11 37 "DeadlineShare" "now" "LDeadlineShare$State;") (List.mem_cons_of_mem _ (List.mem_append_left _ (List.mem_of_getElem? (i := 0) rfl)))) (fun _ h9 => h9) rfl dX11_leave_1 ?_
  have i_4 := kw_11_3 hG i_h0
  refine lv_iload_n hx hb dX11_leave_4 rfl (lv_at hl 1 rfl) ?_
  obtain ⟨x_6, x_7, x_8, x_9, x_10, k_5, b_11, b_12⟩ := op_6 hI i_4
  refine va_calli (va_runV (As := [.int p1]) (rest := []) ⟨hx, hb, hml, hown, hts⟩ (c_X6_has l dC dI g A hG f (gr g h0 3) p1 i_4) (cwV 1 hts (gi_V (fun w_ h0_ => ⟨List.mem_cons_of_mem _ (List.mem_append_right _ (List.mem_append_right _ (List.mem_append_left _ h0_))), (tb_c_X6_has w_ h0_).2⟩) (List.mem_cons_of_mem _ (List.mem_append_left _ (List.mem_of_getElem? (i := 1) rfl))) (List.mem_cons_of_mem _ (List.mem_append_left _ (List.mem_of_getElem? (i := 2) rfl))) (List.mem_cons_of_mem _ (List.mem_append_left _ (List.mem_of_getElem? (i := 3) rfl))) (List.mem_cons_of_mem _ (List.mem_append_left _ (List.mem_of_getElem? (i := 4) rfl)))) rfl rfl rfl (by decide +kernel) ⟨Nat.le_of_ble_eq_true rfl, Nat.le_of_ble_eq_true rfl⟩) ⟨fun a U g mk q => ⟨q.1, q.2.calling rfl rfl⟩, k_recv hK hI i_4.1 k_5 (ci := 6) rfl, fun U hU hW => ⟨rfl, kIn.of hI hK hE hS hU hW⟩⟩ rfl rfl hl.1 rfl (lv_room (Nat.le_of_ble_eq_true rfl)) dX11_leave_5 ⟨Nat.le_of_ble_eq_true rfl, Nat.le_of_ble_eq_true rfl⟩) hS (fun q _ h => h) (fun q h => h) (fun r_14 u t H1 locs ht hvm w_13 hB hz1 hk1 hS => ?_)
  have hI : Iv dC dI g A f t.heap := hB
  rw [ht] at hI
  generalize H1 = H at hI hS ⊢
  refine W.widen (k := 0) (n := 0) (Nat.le_of_ble_eq_true rfl) (Nat.le_of_ble_eq_true rfl) ?_
  have w_13 : r_14.toInt = 0 ∨ (0 ≤ p1.toInt ∧ p1.toInt < 12) := w_13
  refine lv_if_ne (tgt := 21) hx hb dX11_leave_8 (by decide) (fun c_15 => ?_) (fun c_15 => ?_)
  · have c_15 := kn_eq rfl (by decide : Int32.toInt 0 = 0) c_15
    refine lv_aload_n hx hb dX11_leave_21 rfl (lv_at hl 0 rfl) ?_
    refine k_get (ci := 11) (v := .ref (gr g h0 3)) (C := RX11) (T := TX11) (N := 12) hx hb hts (fun _ h0_ => List.mem_cons_of_mem _ (List.mem_append_right _ (List.mem_append_left _ h0_))) hown hK hI i_h0.1 k_1 rfl 3 (by decide) (hts (.fieldLink RX11 37 "DeadlineShare" "now" "LDeadlineShare$State;") (List.mem_cons_of_mem _ (List.mem_append_left _ (List.mem_of_getElem? (i := 0) rfl)))) (fun _ h9 => h9) rfl dX11_leave_22 ?_
    refine k_get (ci := 6) (v := .ref (gr g (gr g h0 3) 1)) (C := RX6) (T := TX6) (N := 10) hx hb hts (fun _ h0_ => List.mem_cons_of_mem _ (List.mem_append_right _ (List.mem_append_right _ (List.mem_append_right _ (List.mem_append_left _ h0_))))) hown hK hI i_4.1 k_5 rfl 1 (by decide) (hts (.fieldLink RX11 133 "DeadlineShare$State" "tasks" "[LDeadlineShare$Task;") (List.mem_cons_of_mem _ (List.mem_append_left _ (List.mem_of_getElem? (i := 5) rfl)))) (fun _ h9 => h9) rfl dX11_leave_25 ?_
    have i_19 := kw_6_1 hG i_4
    refine lv_iload_n hx hb dX11_leave_28 rfl (lv_at hl 1 rfl) ?_
    obtain ⟨q_21, k_20, b_22⟩ := op_20 hI i_19
    refine k_aald hx hb hK hI i_19.1 4 k_20 rfl (vp_in_iff.mpr (by omega)) b_22 (fun _ hj => kw_20 hG i_19 hj) dX11_leave_29 (fun a_23 i_24 => ?_)
    refine lv_astore_n (lv' := [(2, .ref a_23), (0, .ref h0), (1, .int p1)]) hx hb dX11_leave_30 rfl hl (by decide) rfl (fun ls hl => ?_)
    refine lv_aload_n hx hb dX11_leave_31 rfl (lv_at hl 0 rfl) ?_
    obtain ⟨x_26, x_27, x_28, x_29, x_30, x_31, x_32, x_33, x_34, x_35, x_36, x_37, x_38, x_39, x_40, x_41, k_25⟩ := op_8 hI i_24
    refine k_get (ci := 8) (v := .int x_29) (C := RX8) (T := TX8) (N := 18) hx hb hts (fun _ h0_ => List.mem_cons_of_mem _ (List.mem_append_right _ (List.mem_append_right _ (List.mem_append_right _ (List.mem_append_right _ (List.mem_append_left _ h0_)))))) hown hK hI i_24.1 k_25 rfl 4 (by decide) (hts (.fieldLink RX11 137 "DeadlineShare$Task" "state" "I") (List.mem_cons_of_mem _ (List.mem_append_left _ (List.mem_of_getElem? (i := 6) rfl)))) (fun _ h9 => h9) rfl dX11_leave_32 ?_
    refine lv_if_ne (tgt := 48) hx hb dX11_leave_35 (by decide) (fun c_42 => ?_) (fun c_42 => ?_)
    · have c_42 := kn_eq rfl (by decide : Int32.toInt 0 = 0) c_42
      refine lv_aload_n hx hb dX11_leave_48 rfl (lv_at hl 1 rfl) ?_
      refine k_get (ci := 11) (v := .ref (gr g h0 9)) (C := RX11) (T := TX11) (N := 12) hx hb hts (fun _ h0_ => List.mem_cons_of_mem _ (List.mem_append_right _ (List.mem_append_left _ h0_))) hown hK hI i_h0.1 k_1 rfl 9 (by decide) (hts (.fieldLink RX11 65 "DeadlineShare" "history" "LDeadlineShare$History;") (List.mem_cons_of_mem _ (List.mem_append_left _ (List.mem_of_getElem? (i := 7) rfl)))) (fun _ h9 => h9) rfl dX11_leave_49 ?_
      have i_44 := kw_11_9 hG i_h0
      refine lv_aload_n hx hb dX11_leave_52 rfl (lv_at hl 1 rfl) ?_
      refine k_get (ci := 11) (v := .ref (gr g h0 3)) (C := RX11) (T := TX11) (N := 12) hx hb hts (fun _ h0_ => List.mem_cons_of_mem _ (List.mem_append_right _ (List.mem_append_left _ h0_))) hown hK hI i_h0.1 k_1 rfl 3 (by decide) (hts (.fieldLink RX11 37 "DeadlineShare" "now" "LDeadlineShare$State;") (List.mem_cons_of_mem _ (List.mem_append_left _ (List.mem_of_getElem? (i := 0) rfl)))) (fun _ h9 => h9) rfl dX11_leave_53 ?_
      refine lv_iconst (v := 2) hx hb dX11_leave_56 (by decide) ?_
      obtain ⟨x_48, x_49, k_47⟩ := op_1 hI i_44
      refine va_callv (va_runV (As := [.ref (gr g h0 3), .int 2]) (rest := []) ⟨hx, hb, hml, hown, hts⟩ (c_X1_keep l dC dI g A hG f (gr g h0 9) (gr g h0 3) 2 i_44 i_4) (cwV 2 hts (gi_V (fun w_ h0_ => ⟨List.mem_cons_of_mem _ (List.mem_append_right _ (List.mem_append_right _ (List.mem_append_right _ (List.mem_append_right _ (List.mem_append_right _ (List.mem_append_left _ h0_)))))), (tb_c_X1_keep w_ h0_).2⟩) (List.mem_cons_of_mem _ (List.mem_append_left _ (List.mem_of_getElem? (i := 8) rfl))) (List.mem_cons_of_mem _ (List.mem_append_left _ (List.mem_of_getElem? (i := 9) rfl))) (List.mem_cons_of_mem _ (List.mem_append_left _ (List.mem_of_getElem? (i := 10) rfl))) (List.mem_cons_of_mem _ (List.mem_append_left _ (List.mem_of_getElem? (i := 11) rfl)))) rfl rfl rfl (by decide +kernel) ⟨Nat.le_of_ble_eq_true rfl, Nat.le_of_ble_eq_true rfl⟩) ⟨fun a U g mk q => ⟨q.1, q.2.calling rfl rfl⟩, k_recv hK hI i_44.1 k_47 (ci := 1) rfl, fun U hU hW => ⟨rfl, kIn.of hI hK hE hS hU hW⟩⟩ rfl rfl hl.1 rfl (lv_room (Nat.le_of_ble_eq_true rfl)) dX11_leave_57 ⟨Nat.le_of_ble_eq_true rfl, Nat.le_of_ble_eq_true rfl⟩) hS (fun q _ h => h) (fun q h => h) (fun u t H1 locs ht hvm _ hB hz1 hk1 hS => ?_)
      obtain ⟨f_50, hI, kc_52⟩ := hB
      rw [ht] at hI
      have k_53 : f_50 h0 = .inr (11, [.ref (gr g h0 0), .ref (gr g h0 1), .ref (gr g h0 2), .ref (gr g h0 3), .ref (gr g h0 4), .ref (gr g h0 5), .ref (gr g h0 6), .ref (gr g h0 7), .ref (gr g h0 8), .ref (gr g h0 9), .ref (gr g h0 10), .int x_2]) := Kp.at kc_52 i_h0 (by decide) k_1
      have k_54 : f_50 (gr g (gr g h0 3) 1) = .inl (gc g 4, 12, .inr (.inr (.inr (.inr q_21)))) := Kp.at kc_52 i_19 (by decide) k_20
      have kp_55 := Kp.call hk0 kc_52 (by decide)
      generalize H1 = H at hI hS ⊢
      refine W.widen (k := 0) (n := 0) (Nat.le_of_ble_eq_true rfl) (Nat.le_of_ble_eq_true rfl) ?_
      refine lv_aload_n hx hb dX11_leave_60 rfl (lv_at hl 0 rfl) ?_
      obtain ⟨x_57, x_58, x_59, x_60, x_61, x_62, x_63, x_64, x_65, x_66, x_67, x_68, x_69, x_70, x_71, x_72, k_56⟩ := op_8 hI i_24
      refine va_calli (va_runV (As := []) (rest := []) ⟨hx, hb, hml, hown, hts⟩ (c_X8_isOn l dC dI g A hG f_50 a_23 i_24) (cwV 0 hts (gi_V (fun w_ h0_ => ⟨List.mem_cons_of_mem _ (List.mem_append_right _ (List.mem_append_right _ (List.mem_append_right _ (List.mem_append_right _ (List.mem_append_right _ (List.mem_append_right _ (List.mem_append_left _ h0_))))))), (tb_c_X8_isOn w_ h0_).2⟩) (List.mem_cons_of_mem _ (List.mem_append_left _ (List.mem_of_getElem? (i := 12) rfl))) (List.mem_cons_of_mem _ (List.mem_append_left _ (List.mem_of_getElem? (i := 13) rfl))) (List.mem_cons_of_mem _ (List.mem_append_left _ (List.mem_of_getElem? (i := 14) rfl))) (List.mem_cons_of_mem _ (List.mem_append_left _ (List.mem_of_getElem? (i := 15) rfl)))) rfl rfl rfl (by decide +kernel) ⟨Nat.le_of_ble_eq_true rfl, Nat.le_of_ble_eq_true rfl⟩) ⟨fun a U g mk q => ⟨q.1, q.2.calling rfl rfl⟩, k_recv hK hI i_24.1 k_56 (ci := 8) rfl, fun U hU hW => ⟨rfl, kIn.of hI hK hE hS hU hW⟩⟩ rfl rfl hl.1 rfl (lv_room (Nat.le_of_ble_eq_true rfl)) dX11_leave_61 ⟨Nat.le_of_ble_eq_true rfl, Nat.le_of_ble_eq_true rfl⟩) hS (fun q _ h => h) (fun q h => h) (fun r_74 u t H1 locs ht hvm w_73 hB hz1 hk1 hS => ?_)
      have hI : Iv dC dI g A f_50 t.heap := hB
      rw [ht] at hI
      generalize H1 = H at hI hS ⊢
      refine W.widen (k := 0) (n := 0) (Nat.le_of_ble_eq_true rfl) (Nat.le_of_ble_eq_true rfl) ?_
      have J_76 : ∀ (f_75 : Nat → va_E) (H : Heap) (locs : List Loc) (ls : Array Slot), Iv dC dI g A f_75 H → va_S A s.heap H locs → f_75 h0 = .inr (11, [.ref (gr g h0 0), .ref (gr g h0 1), .ref (gr g h0 2), .ref (gr g h0 3), .ref (gr g h0 4), .ref (gr g h0 5), .ref (gr g h0 6), .ref (gr g h0 7), .ref (gr g h0 8), .ref (gr g h0 9), .ref (gr g h0 10), .int x_2]) → f_75 (gr g (gr g h0 3) 1) = .inl (gc g 4, 12, .inr (.inr (.inr (.inr q_21)))) → Kp g [1, 4, 5, 6, 8, 10, 23, 24, 27, 28] f f_75 → lv_has ls 3 [(2, .ref a_23), (0, .ref h0), (1, .int p1)] → W p l e (headSpec wq_c_X11_leave ({ frames := 5, cells := 0, slots := 0, locals := 126 } : Room)).room s m ([.ref h0, .int p1].toArray) below meth c H locs 0 0 (MQ below (va_Qi (fun (r : Int32) (_ : Unit) => True) (fun (_ : Unit) t => ∃ f1 : Nat → va_E, Iv dC dI g A f1 t.heap ∧ Kp g [1, 4, 5, 6, 8, 10, 23, 24, 27, 28] f f1) A) ([.ref h0, .int p1].toArray) s 0 0 A) (F0 m 76 ls []) := by
        intro f_75 H locs ls hI hS k_76 k_77 kp_78 hl
        refine lv_aload_n hx hb dX11_leave_76 rfl (lv_at hl 0 rfl) ?_
        refine lv_iconst (v := 0) hx hb dX11_leave_77 (by decide) ?_
        obtain ⟨x_80, x_81, x_82, x_83, x_84, x_85, x_86, x_87, x_88, x_89, x_90, x_91, x_92, x_93, x_94, x_95, k_79⟩ := op_8 hI i_24
        refine k_put (ci := 8) (v := .int 0) (ty := .int) (C := RX8) (T := TX8) (N := 18) hx hb hts (fun _ h0_ => List.mem_cons_of_mem _ (List.mem_append_right _ (List.mem_append_right _ (List.mem_append_right _ (List.mem_append_right _ (List.mem_append_left _ h0_)))))) tyX8 tyX8_ok nmX8 hown hK hI hS i_24.1 k_79 rfl 4 (by decide) (hts (.fieldLink RX11 137 "DeadlineShare$Task" "state" "I") (List.mem_cons_of_mem _ (List.mem_append_left _ (List.mem_of_getElem? (i := 6) rfl)))) (fun _ h9 => h9) rfl (by decide +kernel) rfl rfl (Nat.le_of_ble_eq_true rfl) rfl (cl_8 i_24) dX11_leave_78 (fun f_96 H locs e_97 hI hS => ?_)
        have k_99 : f_96 h0 = .inr (11, [.ref (gr g h0 0), .ref (gr g h0 1), .ref (gr g h0 2), .ref (gr g h0 3), .ref (gr g h0 4), .ref (gr g h0 5), .ref (gr g h0 6), .ref (gr g h0 7), .ref (gr g h0 8), .ref (gr g h0 9), .ref (gr g h0 10), .int x_2]) := by rw [e_97, va_up_ne _ _ (ik_ne i_h0 i_24 (by decide))]; exact k_76
        have k_100 : f_96 (gr g (gr g h0 3) 1) = .inl (gc g 4, 12, .inr (.inr (.inr (.inr q_21)))) := by rw [e_97, va_up_ne _ _ (ik_ne i_19 i_24 (by decide))]; exact k_77
        have k_101 : f_96 a_23 = .inr (8, [.int x_80, .ref (gr g a_23 1), .int x_81, .int x_82, .int 0, .long x_84, .int x_85, .ref (gr g a_23 7), .int x_86, .int x_87, .int x_88, .int x_89, .int x_90, .int x_91, .int x_92, .int x_93, .int x_94, .int x_95]) := by rw [e_97]; exact va_up_self _ _ _
        have kp_98 := Kp.put kp_78 i_24 (by decide) e_97
        refine lv_aload_n hx hb dX11_leave_81 rfl (lv_at hl 0 rfl) ?_
        refine k_get (ci := 8) (v := .ref (gr g a_23 1)) (C := RX8) (T := TX8) (N := 18) hx hb hts (fun _ h0_ => List.mem_cons_of_mem _ (List.mem_append_right _ (List.mem_append_right _ (List.mem_append_right _ (List.mem_append_right _ (List.mem_append_left _ h0_)))))) hown hK hI i_24.1 k_101 rfl 1 (by decide) (hts (.fieldLink RX11 166 "DeadlineShare$Task" "script" "LDeadlineShare$Script;") (List.mem_cons_of_mem _ (List.mem_append_left _ (List.mem_of_getElem? (i := 16) rfl)))) (fun _ h9 => h9) rfl dX11_leave_82 ?_
        have i_103 := kw_8_1 hG i_24
        obtain ⟨x_105, x_106, x_107, x_108, k_104, b_109, b_110⟩ := op_5 hI i_103
        refine va_callv (va_runV (As := []) (rest := []) ⟨hx, hb, hml, hown, hts⟩ (c_X5_drop l dC dI g A hG f_96 (gr g a_23 1) i_103) (cwV 0 hts (gi_V (fun w_ h0_ => ⟨List.mem_cons_of_mem _ (List.mem_append_right _ (List.mem_append_right _ (List.mem_append_right _ (List.mem_append_right _ (List.mem_append_right _ (List.mem_append_right _ (List.mem_append_right _ (List.mem_append_left _ h0_)))))))), (tb_c_X5_drop w_ h0_).2⟩) (List.mem_cons_of_mem _ (List.mem_append_left _ (List.mem_of_getElem? (i := 17) rfl))) (List.mem_cons_of_mem _ (List.mem_append_left _ (List.mem_of_getElem? (i := 18) rfl))) (List.mem_cons_of_mem _ (List.mem_append_left _ (List.mem_of_getElem? (i := 19) rfl))) (List.mem_cons_of_mem _ (List.mem_append_left _ (List.mem_of_getElem? (i := 20) rfl)))) rfl rfl rfl (by decide +kernel) ⟨Nat.le_of_ble_eq_true rfl, Nat.le_of_ble_eq_true rfl⟩) ⟨fun a U g mk q => ⟨q.1, q.2.calling rfl rfl⟩, k_recv hK hI i_103.1 k_104 (ci := 5) rfl, fun U hU hW => ⟨rfl, kIn.of hI hK hE hS hU hW⟩⟩ rfl rfl hl.1 rfl (lv_room (Nat.le_of_ble_eq_true rfl)) dX11_leave_85 ⟨Nat.le_of_ble_eq_true rfl, Nat.le_of_ble_eq_true rfl⟩) hS (fun q _ h => h) (fun q h => h) (fun u t H1 locs ht hvm _ hB hz1 hk1 hS => ?_)
        obtain ⟨f_111, hI, kc_113⟩ := hB
        rw [ht] at hI
        have k_114 : f_111 h0 = .inr (11, [.ref (gr g h0 0), .ref (gr g h0 1), .ref (gr g h0 2), .ref (gr g h0 3), .ref (gr g h0 4), .ref (gr g h0 5), .ref (gr g h0 6), .ref (gr g h0 7), .ref (gr g h0 8), .ref (gr g h0 9), .ref (gr g h0 10), .int x_2]) := Kp.at kc_113 i_h0 (by decide) k_99
        have k_115 : f_111 (gr g (gr g h0 3) 1) = .inl (gc g 4, 12, .inr (.inr (.inr (.inr q_21)))) := Kp.at kc_113 i_19 (by decide) k_100
        have k_116 : f_111 a_23 = .inr (8, [.int x_80, .ref (gr g a_23 1), .int x_81, .int x_82, .int 0, .long x_84, .int x_85, .ref (gr g a_23 7), .int x_86, .int x_87, .int x_88, .int x_89, .int x_90, .int x_91, .int x_92, .int x_93, .int x_94, .int x_95]) := Kp.at kc_113 i_24 (by decide) k_101
        have kp_117 := Kp.call kp_98 kc_113 (by decide)
        generalize H1 = H at hI hS ⊢
        refine W.widen (k := 0) (n := 0) (Nat.le_of_ble_eq_true rfl) (Nat.le_of_ble_eq_true rfl) ?_
        refine lv_aload_n hx hb dX11_leave_88 rfl (lv_at hl 1 rfl) ?_
        refine k_get (ci := 11) (v := .ref (gr g h0 10)) (C := RX11) (T := TX11) (N := 12) hx hb hts (fun _ h0_ => List.mem_cons_of_mem _ (List.mem_append_right _ (List.mem_append_left _ h0_))) hown hK hI i_h0.1 k_114 rfl 10 (by decide) (hts (.fieldLink RX11 72 "DeadlineShare" "refusals" "LDeadlineShare$Refusals;") (List.mem_cons_of_mem _ (List.mem_append_left _ (List.mem_of_getElem? (i := 21) rfl)))) (fun _ h9 => h9) rfl dX11_leave_89 ?_
        have i_119 := kw_11_10 hG i_h0
        refine lv_aload_n hx hb dX11_leave_92 rfl (lv_at hl 1 rfl) ?_
        refine k_get (ci := 11) (v := .ref (gr g h0 3)) (C := RX11) (T := TX11) (N := 12) hx hb hts (fun _ h0_ => List.mem_cons_of_mem _ (List.mem_append_right _ (List.mem_append_left _ h0_))) hown hK hI i_h0.1 k_114 rfl 3 (by decide) (hts (.fieldLink RX11 37 "DeadlineShare" "now" "LDeadlineShare$State;") (List.mem_cons_of_mem _ (List.mem_append_left _ (List.mem_of_getElem? (i := 0) rfl)))) (fun _ h9 => h9) rfl dX11_leave_93 ?_
        obtain ⟨x_123, x_124, x_125, x_126, x_127, k_122, b_128, b_129⟩ := op_6 hI i_4
        refine va_calli (va_runV (As := []) (rest := [.ref (gr g h0 10)]) ⟨hx, hb, hml, hown, hts⟩ (c_X6_weightOfAll l dC dI g A hG f_111 (gr g h0 3) i_4) (cwV 0 hts (gi_V (fun w_ h0_ => ⟨List.mem_cons_of_mem _ (List.mem_append_right _ (List.mem_append_right _ (List.mem_append_right _ (List.mem_append_right _ (List.mem_append_right _ (List.mem_append_right _ (List.mem_append_right _ (List.mem_append_right _ (List.mem_append_left _ h0_))))))))), (tb_c_X6_weightOfAll w_ h0_).2⟩) (List.mem_cons_of_mem _ (List.mem_append_left _ (List.mem_of_getElem? (i := 22) rfl))) (List.mem_cons_of_mem _ (List.mem_append_left _ (List.mem_of_getElem? (i := 23) rfl))) (List.mem_cons_of_mem _ (List.mem_append_left _ (List.mem_of_getElem? (i := 24) rfl))) (List.mem_cons_of_mem _ (List.mem_append_left _ (List.mem_of_getElem? (i := 4) rfl)))) rfl rfl rfl (by decide +kernel) ⟨Nat.le_of_ble_eq_true rfl, Nat.le_of_ble_eq_true rfl⟩) ⟨fun a U g mk q => ⟨q.1, q.2.calling rfl rfl⟩, k_recv hK hI i_4.1 k_122 (ci := 6) rfl, fun U hU hW => ⟨rfl, kIn.of hI hK hE hS hU hW⟩⟩ rfl rfl hl.1 rfl (lv_room (Nat.le_of_ble_eq_true rfl)) dX11_leave_96 ⟨Nat.le_of_ble_eq_true rfl, Nat.le_of_ble_eq_true rfl⟩) hS (fun q _ h => h) (fun q h => h) (fun r_131 u t H1 locs ht hvm w_130 hB hz1 hk1 hS => ?_)
        have hI : Iv dC dI g A f_111 t.heap := hB
        rw [ht] at hI
        generalize H1 = H at hI hS ⊢
        refine W.widen (k := 0) (n := 0) (Nat.le_of_ble_eq_true rfl) (Nat.le_of_ble_eq_true rfl) ?_
        obtain ⟨x_133, k_132⟩ := op_4 hI i_119
        refine va_calli (va_runV (As := [.int r_131]) (rest := []) ⟨hx, hb, hml, hown, hts⟩ (c_X4_none l dC dI g A hG f_111 (gr g h0 10) r_131 i_119) (cwV 1 hts (gi_V (fun w_ h0_ => ⟨List.mem_cons_of_mem _ (List.mem_append_right _ (List.mem_append_right _ (List.mem_append_right _ (List.mem_append_right _ (List.mem_append_right _ (List.mem_append_right _ (List.mem_append_right _ (List.mem_append_right _ (List.mem_append_right _ (List.mem_append_left _ h0_)))))))))), (tb_c_X4_none w_ h0_).2⟩) (List.mem_cons_of_mem _ (List.mem_append_left _ (List.mem_of_getElem? (i := 25) rfl))) (List.mem_cons_of_mem _ (List.mem_append_left _ (List.mem_of_getElem? (i := 26) rfl))) (List.mem_cons_of_mem _ (List.mem_append_left _ (List.mem_of_getElem? (i := 27) rfl))) (List.mem_cons_of_mem _ (List.mem_append_left _ (List.mem_of_getElem? (i := 28) rfl)))) rfl rfl rfl (by decide +kernel) ⟨Nat.le_of_ble_eq_true rfl, Nat.le_of_ble_eq_true rfl⟩) ⟨fun a U g mk q => ⟨q.1, q.2.calling rfl rfl⟩, k_recv hK hI i_119.1 k_132 (ci := 4) rfl, fun U hU hW => ⟨rfl, kIn.of hI hK hE hS hU hW⟩⟩ rfl rfl hl.1 rfl (lv_room (Nat.le_of_ble_eq_true rfl)) dX11_leave_99 ⟨Nat.le_of_ble_eq_true rfl, Nat.le_of_ble_eq_true rfl⟩) hS (fun q _ h => h) (fun q h => h) (fun r_136 u t H1 locs ht hvm w_135 hB hz1 hk1 hS => ?_)
        obtain ⟨f_134, hI, kc_137⟩ := hB
        rw [ht] at hI
        have k_138 : f_134 h0 = .inr (11, [.ref (gr g h0 0), .ref (gr g h0 1), .ref (gr g h0 2), .ref (gr g h0 3), .ref (gr g h0 4), .ref (gr g h0 5), .ref (gr g h0 6), .ref (gr g h0 7), .ref (gr g h0 8), .ref (gr g h0 9), .ref (gr g h0 10), .int x_2]) := Kp.at kc_137 i_h0 (by decide) k_114
        have k_139 : f_134 (gr g (gr g h0 3) 1) = .inl (gc g 4, 12, .inr (.inr (.inr (.inr q_21)))) := Kp.at kc_137 i_19 (by decide) k_115
        have k_140 : f_134 a_23 = .inr (8, [.int x_80, .ref (gr g a_23 1), .int x_81, .int x_82, .int 0, .long x_84, .int x_85, .ref (gr g a_23 7), .int x_86, .int x_87, .int x_88, .int x_89, .int x_90, .int x_91, .int x_92, .int x_93, .int x_94, .int x_95]) := Kp.at kc_137 i_24 (by decide) k_116
        have k_141 : f_134 (gr g h0 3) = .inr (6, [.ref (gr g (gr g h0 3) 0), .ref (gr g (gr g h0 3) 1), .ref (gr g (gr g h0 3) 2), .ref (gr g (gr g h0 3) 3), .ref (gr g (gr g h0 3) 4), .int x_123, .int x_124, .long x_125, .int x_126, .int x_127]) := Kp.at kc_137 i_4 (by decide) k_122
        have kp_142 := Kp.call kp_117 kc_137 (by decide)
        generalize H1 = H at hI hS ⊢
        refine W.widen (k := 0) (n := 0) (Nat.le_of_ble_eq_true rfl) (Nat.le_of_ble_eq_true rfl) ?_
        have w_135 : r_136.toInt = r_131.toInt := w_135
        exact W.iret (v := r_136) hx hb hr (fun t ht hW => ⟨⟨r_136, (), rfl, trivial, ⟨f_134, k_ret ht hI, kp_142⟩⟩, hS.F ht⟩) hS.2.2 dX11_leave_102
      refine lv_if_eq (tgt := 76) hx hb dX11_leave_64 (by decide) (fun c_143 => ?_) (fun c_143 => ?_)
      · have c_143 := kc_eq rfl (by decide : Int32.toInt 0 = 0) c_143
        exact J_76 f_50 _ _ _ hI hS k_53 k_54 kp_55 (lv_sub hl [0, 1, 2] rfl)
      · have c_143 := kn_eq rfl (by decide : Int32.toInt 0 = 0) c_143
        refine lv_aload_n hx hb dX11_leave_67 rfl (lv_at hl 1 rfl) ?_
        refine k_get (ci := 11) (v := .ref (gr g h0 3)) (C := RX11) (T := TX11) (N := 12) hx hb hts (fun _ h0_ => List.mem_cons_of_mem _ (List.mem_append_right _ (List.mem_append_left _ h0_))) hown hK hI i_h0.1 k_53 rfl 3 (by decide) (hts (.fieldLink RX11 37 "DeadlineShare" "now" "LDeadlineShare$State;") (List.mem_cons_of_mem _ (List.mem_append_left _ (List.mem_of_getElem? (i := 0) rfl)))) (fun _ h9 => h9) rfl dX11_leave_68 ?_
        refine lv_aload_n hx hb dX11_leave_71 rfl (lv_at hl 0 rfl) ?_
        refine lv_iconst (v := 0) hx hb dX11_leave_72 (by decide) ?_
        obtain ⟨x_147, x_148, x_149, x_150, x_151, k_146, b_152, b_153⟩ := op_6 hI i_4
        refine va_callv (va_runV (As := [.ref a_23, .int 0]) (rest := []) ⟨hx, hb, hml, hown, hts⟩ (c_X6_depart l dC dI g A hG f_50 (gr g h0 3) a_23 0 i_4 i_24) (cwV 2 hts (gi_V (fun w_ h0_ => ⟨List.mem_cons_of_mem _ (List.mem_append_right _ (List.mem_append_right _ (List.mem_append_right _ (List.mem_append_right _ (List.mem_append_right _ (List.mem_append_right _ (List.mem_append_right _ (List.mem_append_right _ (List.mem_append_right _ (List.mem_append_right _ (List.mem_append_left _ h0_))))))))))), (tb_c_X6_depart w_ h0_).2⟩) (List.mem_cons_of_mem _ (List.mem_append_left _ (List.mem_of_getElem? (i := 29) rfl))) (List.mem_cons_of_mem _ (List.mem_append_left _ (List.mem_of_getElem? (i := 30) rfl))) (List.mem_cons_of_mem _ (List.mem_append_left _ (List.mem_of_getElem? (i := 31) rfl))) (List.mem_cons_of_mem _ (List.mem_append_left _ (List.mem_of_getElem? (i := 4) rfl)))) rfl rfl rfl (by decide +kernel) ⟨Nat.le_of_ble_eq_true rfl, Nat.le_of_ble_eq_true rfl⟩) ⟨fun a U g mk q => ⟨q.1, q.2.calling rfl rfl⟩, k_recv hK hI i_4.1 k_146 (ci := 6) rfl, fun U hU hW => ⟨rfl, kIn.of hI hK hE hS hU hW⟩⟩ rfl rfl hl.1 rfl (lv_room (Nat.le_of_ble_eq_true rfl)) dX11_leave_73 ⟨Nat.le_of_ble_eq_true rfl, Nat.le_of_ble_eq_true rfl⟩) hS (fun q _ h => h) (fun q h => h) (fun u t H1 locs ht hvm _ hB hz1 hk1 hS => ?_)
        obtain ⟨f_154, hI, kc_156⟩ := hB
        rw [ht] at hI
        have k_157 : f_154 h0 = .inr (11, [.ref (gr g h0 0), .ref (gr g h0 1), .ref (gr g h0 2), .ref (gr g h0 3), .ref (gr g h0 4), .ref (gr g h0 5), .ref (gr g h0 6), .ref (gr g h0 7), .ref (gr g h0 8), .ref (gr g h0 9), .ref (gr g h0 10), .int x_2]) := Kp.at kc_156 i_h0 (by decide) k_53
        have k_158 : f_154 (gr g (gr g h0 3) 1) = .inl (gc g 4, 12, .inr (.inr (.inr (.inr q_21)))) := Kp.at kc_156 i_19 (by decide) k_54
        have kp_159 := Kp.call kp_55 kc_156 (by decide)
        generalize H1 = H at hI hS ⊢
        refine W.widen (k := 0) (n := 0) (Nat.le_of_ble_eq_true rfl) (Nat.le_of_ble_eq_true rfl) ?_
        exact J_76 f_154 _ _ _ hI hS k_157 k_158 kp_159 (lv_sub hl [0, 1, 2] rfl)
    · have c_42 := kc_eq rfl (by decide : Int32.toInt 0 = 0) c_42
      refine lv_aload_n hx hb dX11_leave_38 rfl (lv_at hl 1 rfl) ?_
      refine k_get (ci := 11) (v := .ref (gr g h0 10)) (C := RX11) (T := TX11) (N := 12) hx hb hts (fun _ h0_ => List.mem_cons_of_mem _ (List.mem_append_right _ (List.mem_append_left _ h0_))) hown hK hI i_h0.1 k_1 rfl 10 (by decide) (hts (.fieldLink RX11 72 "DeadlineShare" "refusals" "LDeadlineShare$Refusals;") (List.mem_cons_of_mem _ (List.mem_append_left _ (List.mem_of_getElem? (i := 21) rfl)))) (fun _ h9 => h9) rfl dX11_leave_39 ?_
      have i_161 := kw_11_10 hG i_h0
      refine lv_bipush (v := (-4)) hx hb dX11_leave_42 (by decide) ?_
      obtain ⟨x_163, k_162⟩ := op_4 hI i_161
      refine va_calli (va_runV (As := [.int (-4)]) (rest := []) ⟨hx, hb, hml, hown, hts⟩ (c_X4_add l dC dI g A hG f (gr g h0 10) (-4) i_161) (cwV 1 hts (gi_V (fun w_ h0_ => ⟨List.mem_cons_of_mem _ (List.mem_append_right _ (List.mem_append_right _ (List.mem_append_right _ (List.mem_append_right _ (List.mem_append_right _ (List.mem_append_right _ (List.mem_append_right _ (List.mem_append_right _ (List.mem_append_right _ (List.mem_append_right _ (List.mem_append_right _ (List.mem_append_left _ h0_)))))))))))), (tb_c_X4_add w_ h0_).2⟩) (List.mem_cons_of_mem _ (List.mem_append_left _ (List.mem_of_getElem? (i := 32) rfl))) (List.mem_cons_of_mem _ (List.mem_append_left _ (List.mem_of_getElem? (i := 33) rfl))) (List.mem_cons_of_mem _ (List.mem_append_left _ (List.mem_of_getElem? (i := 34) rfl))) (List.mem_cons_of_mem _ (List.mem_append_left _ (List.mem_of_getElem? (i := 28) rfl)))) rfl rfl rfl (by decide +kernel) ⟨Nat.le_of_ble_eq_true rfl, Nat.le_of_ble_eq_true rfl⟩) ⟨fun a U g mk q => ⟨q.1, q.2.calling rfl rfl⟩, k_recv hK hI i_161.1 k_162 (ci := 4) rfl, fun U hU hW => ⟨rfl, kIn.of hI hK hE hS hU hW⟩⟩ rfl rfl hl.1 rfl (lv_room (Nat.le_of_ble_eq_true rfl)) dX11_leave_44 ⟨Nat.le_of_ble_eq_true rfl, Nat.le_of_ble_eq_true rfl⟩) hS (fun q _ h => h) (fun q h => h) (fun r_166 u t H1 locs ht hvm w_165 hB hz1 hk1 hS => ?_)
      obtain ⟨f_164, hI, kc_167⟩ := hB
      rw [ht] at hI
      have k_168 : f_164 h0 = .inr (11, [.ref (gr g h0 0), .ref (gr g h0 1), .ref (gr g h0 2), .ref (gr g h0 3), .ref (gr g h0 4), .ref (gr g h0 5), .ref (gr g h0 6), .ref (gr g h0 7), .ref (gr g h0 8), .ref (gr g h0 9), .ref (gr g h0 10), .int x_2]) := Kp.at kc_167 i_h0 (by decide) k_1
      have k_169 : f_164 (gr g h0 3) = .inr (6, [.ref (gr g (gr g h0 3) 0), .ref (gr g (gr g h0 3) 1), .ref (gr g (gr g h0 3) 2), .ref (gr g (gr g h0 3) 3), .ref (gr g (gr g h0 3) 4), .int x_6, .int x_7, .long x_8, .int x_9, .int x_10]) := Kp.at kc_167 i_4 (by decide) k_5
      have k_170 : f_164 (gr g (gr g h0 3) 1) = .inl (gc g 4, 12, .inr (.inr (.inr (.inr q_21)))) := Kp.at kc_167 i_19 (by decide) k_20
      have k_171 : f_164 a_23 = .inr (8, [.int x_26, .ref (gr g a_23 1), .int x_27, .int x_28, .int x_29, .long x_30, .int x_31, .ref (gr g a_23 7), .int x_32, .int x_33, .int x_34, .int x_35, .int x_36, .int x_37, .int x_38, .int x_39, .int x_40, .int x_41]) := Kp.at kc_167 i_24 (by decide) k_25
      have kp_172 := Kp.call hk0 kc_167 (by decide)
      generalize H1 = H at hI hS ⊢
      refine W.widen (k := 0) (n := 0) (Nat.le_of_ble_eq_true rfl) (Nat.le_of_ble_eq_true rfl) ?_
      have w_165 : r_166.toInt = (-4 : Int32).toInt := w_165
      exact W.iret (v := r_166) hx hb hr (fun t ht hW => ⟨⟨r_166, (), rfl, trivial, ⟨f_164, k_ret ht hI, kp_172⟩⟩, hS.F ht⟩) hS.2.2 dX11_leave_47
  · have c_15 := kc_eq rfl (by decide : Int32.toInt 0 = 0) c_15
    refine lv_aload_n hx hb dX11_leave_11 rfl (lv_at hl 0 rfl) ?_
    refine k_get (ci := 11) (v := .ref (gr g h0 10)) (C := RX11) (T := TX11) (N := 12) hx hb hts (fun _ h0_ => List.mem_cons_of_mem _ (List.mem_append_right _ (List.mem_append_left _ h0_))) hown hK hI i_h0.1 k_1 rfl 10 (by decide) (hts (.fieldLink RX11 72 "DeadlineShare" "refusals" "LDeadlineShare$Refusals;") (List.mem_cons_of_mem _ (List.mem_append_left _ (List.mem_of_getElem? (i := 21) rfl)))) (fun _ h9 => h9) rfl dX11_leave_12 ?_
    have i_174 := kw_11_10 hG i_h0
    refine lv_bipush (v := (-2)) hx hb dX11_leave_15 (by decide) ?_
    obtain ⟨x_176, k_175⟩ := op_4 hI i_174
    refine va_calli (va_runV (As := [.int (-2)]) (rest := []) ⟨hx, hb, hml, hown, hts⟩ (c_X4_add l dC dI g A hG f (gr g h0 10) (-2) i_174) (cwV 1 hts (gi_V (fun w_ h0_ => ⟨List.mem_cons_of_mem _ (List.mem_append_right _ (List.mem_append_right _ (List.mem_append_right _ (List.mem_append_right _ (List.mem_append_right _ (List.mem_append_right _ (List.mem_append_right _ (List.mem_append_right _ (List.mem_append_right _ (List.mem_append_right _ (List.mem_append_right _ (List.mem_append_left _ h0_)))))))))))), (tb_c_X4_add w_ h0_).2⟩) (List.mem_cons_of_mem _ (List.mem_append_left _ (List.mem_of_getElem? (i := 32) rfl))) (List.mem_cons_of_mem _ (List.mem_append_left _ (List.mem_of_getElem? (i := 33) rfl))) (List.mem_cons_of_mem _ (List.mem_append_left _ (List.mem_of_getElem? (i := 34) rfl))) (List.mem_cons_of_mem _ (List.mem_append_left _ (List.mem_of_getElem? (i := 28) rfl)))) rfl rfl rfl (by decide +kernel) ⟨Nat.le_of_ble_eq_true rfl, Nat.le_of_ble_eq_true rfl⟩) ⟨fun a U g mk q => ⟨q.1, q.2.calling rfl rfl⟩, k_recv hK hI i_174.1 k_175 (ci := 4) rfl, fun U hU hW => ⟨rfl, kIn.of hI hK hE hS hU hW⟩⟩ rfl rfl hl.1 rfl (lv_room (Nat.le_of_ble_eq_true rfl)) dX11_leave_17 ⟨Nat.le_of_ble_eq_true rfl, Nat.le_of_ble_eq_true rfl⟩) hS (fun q _ h => h) (fun q h => h) (fun r_179 u t H1 locs ht hvm w_178 hB hz1 hk1 hS => ?_)
    obtain ⟨f_177, hI, kc_180⟩ := hB
    rw [ht] at hI
    have k_181 : f_177 h0 = .inr (11, [.ref (gr g h0 0), .ref (gr g h0 1), .ref (gr g h0 2), .ref (gr g h0 3), .ref (gr g h0 4), .ref (gr g h0 5), .ref (gr g h0 6), .ref (gr g h0 7), .ref (gr g h0 8), .ref (gr g h0 9), .ref (gr g h0 10), .int x_2]) := Kp.at kc_180 i_h0 (by decide) k_1
    have k_182 : f_177 (gr g h0 3) = .inr (6, [.ref (gr g (gr g h0 3) 0), .ref (gr g (gr g h0 3) 1), .ref (gr g (gr g h0 3) 2), .ref (gr g (gr g h0 3) 3), .ref (gr g (gr g h0 3) 4), .int x_6, .int x_7, .long x_8, .int x_9, .int x_10]) := Kp.at kc_180 i_4 (by decide) k_5
    have kp_183 := Kp.call hk0 kc_180 (by decide)
    generalize H1 = H at hI hS ⊢
    refine W.widen (k := 0) (n := 0) (Nat.le_of_ble_eq_true rfl) (Nat.le_of_ble_eq_true rfl) ?_
    have w_178 : r_179.toInt = (-2 : Int32).toInt := w_178
    exact W.iret (v := r_179) hx hb hr (fun t ht hW => ⟨⟨r_179, (), rfl, trivial, ⟨f_177, k_ret ht hI, kp_183⟩⟩, hS.F ht⟩) hS.2.2 dX11_leave_20
theorem tw_578 : q_g (.methodLink RX11 179 yX6_weighAnew) := ⟨(List.mem_append_right _ (List.mem_of_getElem? (i := 572) (by decide +kernel))), good_of_word (by decide +kernel)⟩
theorem tw_579 : q_g (.methodLink RX11 175 yX6_canWeigh) := ⟨(List.mem_append_right _ (List.mem_of_getElem? (i := 567) (by decide +kernel))), good_of_word (by decide +kernel)⟩
theorem tw_580 : q_g (.code yX11_weigh cX11_weigh 5 (some .int)) := ⟨(List.mem_append_right _ (List.mem_of_getElem? (i := 566) (by decide +kernel))), good_of_word (by decide +kernel)⟩
def ow_c_X11_weigh : List Cond := [.methodLink RX11 112 yX11_isWeight, .static yX11_isWeight, .initialized RX11, .fieldLink RX11 37 "DeadlineShare" "now" "LDeadlineShare$State;", .methodLink RX11 130 yX6_has, .instanceMethod yX6_has, .selects RX6 yX6_has yX6_has, .initialized RX6, .fieldLink RX11 133 "DeadlineShare$State" "tasks" "[LDeadlineShare$Task;", .fieldLink RX11 145 "DeadlineShare$Task" "weight" "I", .methodLink RX11 175 yX6_canWeigh, .instanceMethod yX6_canWeigh, .selects RX6 yX6_canWeigh yX6_canWeigh, .fieldLink RX11 65 "DeadlineShare" "history" "LDeadlineShare$History;", .methodLink RX11 122 yX1_keep, .instanceMethod yX1_keep, .selects RX1 yX1_keep yX1_keep, .initialized RX1, .methodLink RX11 179 yX6_weighAnew, .instanceMethod yX6_weighAnew, .selects RX6 yX6_weighAnew yX6_weighAnew, .fieldLink RX11 72 "DeadlineShare" "refusals" "LDeadlineShare$Refusals;", .methodLink RX11 95 yX4_none, .instanceMethod yX4_none, .selects RX4 yX4_none yX4_none, .initialized RX4, .methodLink RX11 84 yX4_add, .instanceMethod yX4_add, .selects RX4 yX4_add yX4_add]
def wq_c_X11_weigh : List Cond := .code yX11_weigh cX11_weigh 5 (some .int) :: (ow_c_X11_weigh ++ (wq_c_X11_isWeight ++ (u_ws RX11 TX11 12 ++ (wq_c_X6_has ++ (u_ws RX6 TX6 10 ++ (u_ws RX8 TX8 18 ++ (wq_c_X6_canWeigh ++ (wq_c_X1_keep ++ (wq_c_X6_weighAnew ++ (wq_c_X4_none ++ (wq_c_X4_add ++ ([] : List Cond))))))))))))
theorem tb_c_X11_weigh : ∀ w ∈ wq_c_X11_weigh, q_g w := by
  unfold wq_c_X11_weigh ow_c_X11_weigh
  exact q_cons tw_580 (q_app (q_cons tw_562 (q_cons tw_561 (q_cons tw_56 (q_cons tw_558 (q_cons tw_571 (q_cons tw_74 (q_cons tw_73 (q_cons tw_47 (q_cons tw_570 (q_cons tw_567 (q_cons tw_579 (q_cons tw_414 (q_cons tw_413 (q_cons tw_556 (q_cons tw_555 (q_cons tw_554 (q_cons tw_553 (q_cons tw_552 (q_cons tw_578 (q_cons tw_411 (q_cons tw_410 (q_cons tw_522 (q_cons tw_521 (q_cons tw_520 (q_cons tw_519 (q_cons tw_273 (q_cons tw_518 (q_cons tw_517 (q_cons tw_516 q_nil))))))))))))))))))))))))))))) (q_app tb_c_X11_isWeight (q_app tu_X11 (q_app tb_c_X6_has (q_app tu_X6 (q_app tu_X8 (q_app tb_c_X6_canWeigh (q_app tb_c_X1_keep (q_app tb_c_X6_weighAnew (q_app tb_c_X4_none (q_app tb_c_X4_add q_nil)))))))))))
set_option maxHeartbeats 4000000 in
set_option maxRecDepth 100000 in
theorem c_X11_weigh (l : Launch) (dC : Nat → ClassId) (dI : Nat → Nat → Nat) (g : kG) (A : Nat → Prop) (hG : kWf g) (f : Nat → va_E) (h0 : Nat) (p1 : Int32) (p2 : Int32) (i_h0 : ik g 11 h0) : Met l yX11_weigh wq_c_X11_weigh ({ frames := 5, cells := 0, slots := 0, locals := 126 } : Room) (va_Pc [.ref h0, .int p1, .int p2] (fun U => kIn dC dI g A f U)) (va_Qi (fun (r : Int32) (_ : Unit) => True) (fun (_ : Unit) t => ∃ f1 : Nat → va_E, Iv dC dI g A f1 t.heap ∧ Kp g [1, 4, 5, 6, 8, 10, 23, 24, 27, 28] f f1) A) 0 0 A := by
  refine Met.ofW (cc := cX11_weigh) (maxL := 5) (ret := (some .int)) (by decide) rfl ?_
  intro p e s m args below meth c s₁ B hml hv
  obtain ⟨rfl, hI, hK, hE⟩ := hv
  have hx := B.exec
  have hb := B.bytes
  have hr := B.returns
  have hts := atoms_spec (ws := wq_c_X11_weigh) B.pre
  have hown : s.vm.findClass RX11 = some m.cls := findClass_of_methodNamed B.named
  have hlocks := B.notSynchronized
  have hS : va_S A s.heap s.heap [] := va_S.rf
  have hk0 : Kp g [1, 4, 5, 6, 8, 10, 23, 24, 27, 28] f f := Kp.rf
  have hl := lv_entry ([.ref h0, .int p1, .int p2]) (n := 5) (Nat.le_of_ble_eq_true rfl)
  rw [lg_entry_eq]
  generalize (lg_sl ([.ref h0, .int p1, .int p2]) ++ List.replicate (5 - (lg_sl ([.ref h0, .int p1, .int p2])).length) Slot.unset).toArray = ls at hl ⊢
  have hl : lv_has ls 5 [(0, .ref h0), (1, .int p1), (2, .int p2)] := hl
  refine lv_iload_n hx hb dX11_weigh_0 rfl (lv_at hl 2 rfl) ?_
  refine va_calli (va_runS (As := [.int p2]) (rest := []) ⟨hx, hb, hml, hown, hts⟩ (c_X11_isWeight l dC dI g A hG f p2) (va_cwS 1 hts (gi_S (fun w_ h0_ => ⟨List.mem_cons_of_mem _ (List.mem_append_right _ (List.mem_append_left _ h0_)), (tb_c_X11_isWeight w_ h0_).2⟩) (List.mem_cons_of_mem _ (List.mem_append_left _ (List.mem_of_getElem? (i := 0) rfl))) (List.mem_cons_of_mem _ (List.mem_append_left _ (List.mem_of_getElem? (i := 1) rfl))) (List.mem_cons_of_mem _ (List.mem_append_left _ (List.mem_of_getElem? (i := 2) rfl)))) rfl rfl rfl (by decide +kernel) ⟨Nat.le_of_ble_eq_true rfl, Nat.le_of_ble_eq_true rfl⟩) ⟨fun a U g mk q => ⟨q.1, q.2.calling rfl rfl⟩, fun U hU hW => ⟨rfl, kIn.of hI hK hE hS hU hW⟩⟩ rfl rfl hl.1 rfl (lv_room (Nat.le_of_ble_eq_true rfl)) dX11_weigh_1 ⟨Nat.le_of_ble_eq_true rfl, Nat.le_of_ble_eq_true rfl⟩) hS (fun q _ h => h) (fun q h => h) (fun r_2 u t H1 locs ht hvm w_1 hB hz1 hk1 hS => ?_)
  have hI : Iv dC dI g A f t.heap := hB
  rw [ht] at hI
  generalize H1 = H at hI hS ⊢
  refine W.widen (k := 0) (n := 0) (Nat.le_of_ble_eq_true rfl) (Nat.le_of_ble_eq_true rfl) ?_
  refine lv_if_ne (tgt := 16) hx hb dX11_weigh_4 (by decide) (fun c_3 => ?_) (fun c_3 => ?_)
  · have c_3 := kn_eq rfl (by decide : Int32.toInt 0 = 0) c_3
    refine lv_aload_n hx hb dX11_weigh_16 rfl (lv_at hl 0 rfl) ?_
    obtain ⟨x_5, k_4⟩ := op_11 hI i_h0
    refine k_get (ci := 11) (v := .ref (gr g h0 3)) (C := RX11) (T := TX11) (N := 12) hx hb hts (fun _ h0_ => List.mem_cons_of_mem _ (List.mem_append_right _ (List.mem_append_right _ (List.mem_append_left _ h0_)))) hown hK hI i_h0.1 k_4 rfl 3 (by decide) (hts (.fieldLink RX11 37 "DeadlineShare" "now" "LDeadlineShare$State;") (List.mem_cons_of_mem _ (List.mem_append_left _ (List.mem_of_getElem? (i := 3) rfl)))) (fun _ h9 => h9) rfl dX11_weigh_17 ?_
    have i_7 := kw_11_3 hG i_h0
    refine lv_iload_n hx hb dX11_weigh_20 rfl (lv_at hl 1 rfl) ?_
    obtain ⟨x_9, x_10, x_11, x_12, x_13, k_8, b_14, b_15⟩ := op_6 hI i_7
    refine va_calli (va_runV (As := [.int p1]) (rest := []) ⟨hx, hb, hml, hown, hts⟩ (c_X6_has l dC dI g A hG f (gr g h0 3) p1 i_7) (cwV 1 hts (gi_V (fun w_ h0_ => ⟨List.mem_cons_of_mem _ (List.mem_append_right _ (List.mem_append_right _ (List.mem_append_right _ (List.mem_append_left _ h0_)))), (tb_c_X6_has w_ h0_).2⟩) (List.mem_cons_of_mem _ (List.mem_append_left _ (List.mem_of_getElem? (i := 4) rfl))) (List.mem_cons_of_mem _ (List.mem_append_left _ (List.mem_of_getElem? (i := 5) rfl))) (List.mem_cons_of_mem _ (List.mem_append_left _ (List.mem_of_getElem? (i := 6) rfl))) (List.mem_cons_of_mem _ (List.mem_append_left _ (List.mem_of_getElem? (i := 7) rfl)))) rfl rfl rfl (by decide +kernel) ⟨Nat.le_of_ble_eq_true rfl, Nat.le_of_ble_eq_true rfl⟩) ⟨fun a U g mk q => ⟨q.1, q.2.calling rfl rfl⟩, k_recv hK hI i_7.1 k_8 (ci := 6) rfl, fun U hU hW => ⟨rfl, kIn.of hI hK hE hS hU hW⟩⟩ rfl rfl hl.1 rfl (lv_room (Nat.le_of_ble_eq_true rfl)) dX11_weigh_21 ⟨Nat.le_of_ble_eq_true rfl, Nat.le_of_ble_eq_true rfl⟩) hS (fun q _ h => h) (fun q h => h) (fun r_17 u t H1 locs ht hvm w_16 hB hz1 hk1 hS => ?_)
    have hI : Iv dC dI g A f t.heap := hB
    rw [ht] at hI
    generalize H1 = H at hI hS ⊢
    refine W.widen (k := 0) (n := 0) (Nat.le_of_ble_eq_true rfl) (Nat.le_of_ble_eq_true rfl) ?_
    have w_16 : r_17.toInt = 0 ∨ (0 ≤ p1.toInt ∧ p1.toInt < 12) := w_16
    refine lv_if_ne (tgt := 37) hx hb dX11_weigh_24 (by decide) (fun c_18 => ?_) (fun c_18 => ?_)
    · have c_18 := kn_eq rfl (by decide : Int32.toInt 0 = 0) c_18
      refine lv_aload_n hx hb dX11_weigh_37 rfl (lv_at hl 0 rfl) ?_
      refine k_get (ci := 11) (v := .ref (gr g h0 3)) (C := RX11) (T := TX11) (N := 12) hx hb hts (fun _ h0_ => List.mem_cons_of_mem _ (List.mem_append_right _ (List.mem_append_right _ (List.mem_append_left _ h0_)))) hown hK hI i_h0.1 k_4 rfl 3 (by decide) (hts (.fieldLink RX11 37 "DeadlineShare" "now" "LDeadlineShare$State;") (List.mem_cons_of_mem _ (List.mem_append_left _ (List.mem_of_getElem? (i := 3) rfl)))) (fun _ h9 => h9) rfl dX11_weigh_38 ?_
      refine k_get (ci := 6) (v := .ref (gr g (gr g h0 3) 1)) (C := RX6) (T := TX6) (N := 10) hx hb hts (fun _ h0_ => List.mem_cons_of_mem _ (List.mem_append_right _ (List.mem_append_right _ (List.mem_append_right _ (List.mem_append_right _ (List.mem_append_left _ h0_)))))) hown hK hI i_7.1 k_8 rfl 1 (by decide) (hts (.fieldLink RX11 133 "DeadlineShare$State" "tasks" "[LDeadlineShare$Task;") (List.mem_cons_of_mem _ (List.mem_append_left _ (List.mem_of_getElem? (i := 8) rfl)))) (fun _ h9 => h9) rfl dX11_weigh_41 ?_
      have i_22 := kw_6_1 hG i_7
      refine lv_iload_n hx hb dX11_weigh_44 rfl (lv_at hl 1 rfl) ?_
      obtain ⟨q_24, k_23, b_25⟩ := op_20 hI i_22
      refine k_aald hx hb hK hI i_22.1 4 k_23 rfl (vp_in_iff.mpr (by omega)) b_25 (fun _ hj => kw_20 hG i_22 hj) dX11_weigh_45 (fun a_26 i_27 => ?_)
      refine lv_astore_n (lv' := [(3, .ref a_26), (0, .ref h0), (1, .int p1), (2, .int p2)]) hx hb dX11_weigh_46 rfl hl (by decide) rfl (fun ls hl => ?_)
      refine lv_aload_n hx hb dX11_weigh_47 rfl (lv_at hl 0 rfl) ?_
      obtain ⟨x_29, x_30, x_31, x_32, x_33, x_34, x_35, x_36, x_37, x_38, x_39, x_40, x_41, x_42, x_43, x_44, k_28⟩ := op_8 hI i_27
      refine k_get (ci := 8) (v := .int x_30) (C := RX8) (T := TX8) (N := 18) hx hb hts (fun _ h0_ => List.mem_cons_of_mem _ (List.mem_append_right _ (List.mem_append_right _ (List.mem_append_right _ (List.mem_append_right _ (List.mem_append_right _ (List.mem_append_left _ h0_))))))) hown hK hI i_27.1 k_28 rfl 2 (by decide) (hts (.fieldLink RX11 145 "DeadlineShare$Task" "weight" "I") (List.mem_cons_of_mem _ (List.mem_append_left _ (List.mem_of_getElem? (i := 9) rfl)))) (fun _ h9 => h9) rfl dX11_weigh_48 ?_
      refine lv_istore (lv' := [(4, .int x_30), (3, .ref a_26), (0, .ref h0), (1, .int p1), (2, .int p2)]) hx hb dX11_weigh_51 hl (by decide) rfl (fun ls hl => ?_)
      refine lv_iload hx hb dX11_weigh_53 (lv_at hl 0 rfl) ?_
      refine lv_iload_n hx hb dX11_weigh_55 rfl (lv_at hl 4 rfl) ?_
      refine lv_icmp_ne (tgt := 69) hx hb dX11_weigh_56 (by decide) (fun c_45 => ?_) (fun c_45 => ?_)
      · have c_45 := kn_eq rfl rfl c_45
        refine lv_aload_n hx hb dX11_weigh_69 rfl (lv_at hl 2 rfl) ?_
        refine k_get (ci := 11) (v := .ref (gr g h0 3)) (C := RX11) (T := TX11) (N := 12) hx hb hts (fun _ h0_ => List.mem_cons_of_mem _ (List.mem_append_right _ (List.mem_append_right _ (List.mem_append_left _ h0_)))) hown hK hI i_h0.1 k_4 rfl 3 (by decide) (hts (.fieldLink RX11 37 "DeadlineShare" "now" "LDeadlineShare$State;") (List.mem_cons_of_mem _ (List.mem_append_left _ (List.mem_of_getElem? (i := 3) rfl)))) (fun _ h9 => h9) rfl dX11_weigh_70 ?_
        refine lv_aload_n hx hb dX11_weigh_73 rfl (lv_at hl 1 rfl) ?_
        refine lv_iload_n hx hb dX11_weigh_74 rfl (lv_at hl 4 rfl) ?_
        refine va_calli (va_runV (As := [.ref a_26, .int p2]) (rest := []) ⟨hx, hb, hml, hown, hts⟩ (c_X6_canWeigh l dC dI g A hG f (gr g h0 3) a_26 p2 i_7 i_27) (cwV 2 hts (gi_V (fun w_ h0_ => ⟨List.mem_cons_of_mem _ (List.mem_append_right _ (List.mem_append_right _ (List.mem_append_right _ (List.mem_append_right _ (List.mem_append_right _ (List.mem_append_right _ (List.mem_append_left _ h0_))))))), (tb_c_X6_canWeigh w_ h0_).2⟩) (List.mem_cons_of_mem _ (List.mem_append_left _ (List.mem_of_getElem? (i := 10) rfl))) (List.mem_cons_of_mem _ (List.mem_append_left _ (List.mem_of_getElem? (i := 11) rfl))) (List.mem_cons_of_mem _ (List.mem_append_left _ (List.mem_of_getElem? (i := 12) rfl))) (List.mem_cons_of_mem _ (List.mem_append_left _ (List.mem_of_getElem? (i := 7) rfl)))) rfl rfl rfl (by decide +kernel) ⟨Nat.le_of_ble_eq_true rfl, Nat.le_of_ble_eq_true rfl⟩) ⟨fun a U g mk q => ⟨q.1, q.2.calling rfl rfl⟩, k_recv hK hI i_7.1 k_8 (ci := 6) rfl, fun U hU hW => ⟨rfl, kIn.of hI hK hE hS hU hW⟩⟩ rfl rfl hl.1 rfl (lv_room (Nat.le_of_ble_eq_true rfl)) dX11_weigh_75 ⟨Nat.le_of_ble_eq_true rfl, Nat.le_of_ble_eq_true rfl⟩) hS (fun q _ h => h) (fun q h => h) (fun r_49 u t H1 locs ht hvm w_48 hB hz1 hk1 hS => ?_)
        have hI : Iv dC dI g A f t.heap := hB
        rw [ht] at hI
        generalize H1 = H at hI hS ⊢
        refine W.widen (k := 0) (n := 0) (Nat.le_of_ble_eq_true rfl) (Nat.le_of_ble_eq_true rfl) ?_
        refine lv_if_ne (tgt := 91) hx hb dX11_weigh_78 (by decide) (fun c_50 => ?_) (fun c_50 => ?_)
        · have c_50 := kn_eq rfl (by decide : Int32.toInt 0 = 0) c_50
          refine lv_aload_n hx hb dX11_weigh_91 rfl (lv_at hl 2 rfl) ?_
          refine k_get (ci := 11) (v := .ref (gr g h0 9)) (C := RX11) (T := TX11) (N := 12) hx hb hts (fun _ h0_ => List.mem_cons_of_mem _ (List.mem_append_right _ (List.mem_append_right _ (List.mem_append_left _ h0_)))) hown hK hI i_h0.1 k_4 rfl 9 (by decide) (hts (.fieldLink RX11 65 "DeadlineShare" "history" "LDeadlineShare$History;") (List.mem_cons_of_mem _ (List.mem_append_left _ (List.mem_of_getElem? (i := 13) rfl)))) (fun _ h9 => h9) rfl dX11_weigh_92 ?_
          have i_52 := kw_11_9 hG i_h0
          refine lv_aload_n hx hb dX11_weigh_95 rfl (lv_at hl 2 rfl) ?_
          refine k_get (ci := 11) (v := .ref (gr g h0 3)) (C := RX11) (T := TX11) (N := 12) hx hb hts (fun _ h0_ => List.mem_cons_of_mem _ (List.mem_append_right _ (List.mem_append_right _ (List.mem_append_left _ h0_)))) hown hK hI i_h0.1 k_4 rfl 3 (by decide) (hts (.fieldLink RX11 37 "DeadlineShare" "now" "LDeadlineShare$State;") (List.mem_cons_of_mem _ (List.mem_append_left _ (List.mem_of_getElem? (i := 3) rfl)))) (fun _ h9 => h9) rfl dX11_weigh_96 ?_
          refine lv_iconst (v := 3) hx hb dX11_weigh_99 (by decide) ?_
          obtain ⟨x_56, x_57, k_55⟩ := op_1 hI i_52
          refine va_callv (va_runV (As := [.ref (gr g h0 3), .int 3]) (rest := []) ⟨hx, hb, hml, hown, hts⟩ (c_X1_keep l dC dI g A hG f (gr g h0 9) (gr g h0 3) 3 i_52 i_7) (cwV 2 hts (gi_V (fun w_ h0_ => ⟨List.mem_cons_of_mem _ (List.mem_append_right _ (List.mem_append_right _ (List.mem_append_right _ (List.mem_append_right _ (List.mem_append_right _ (List.mem_append_right _ (List.mem_append_right _ (List.mem_append_left _ h0_)))))))), (tb_c_X1_keep w_ h0_).2⟩) (List.mem_cons_of_mem _ (List.mem_append_left _ (List.mem_of_getElem? (i := 14) rfl))) (List.mem_cons_of_mem _ (List.mem_append_left _ (List.mem_of_getElem? (i := 15) rfl))) (List.mem_cons_of_mem _ (List.mem_append_left _ (List.mem_of_getElem? (i := 16) rfl))) (List.mem_cons_of_mem _ (List.mem_append_left _ (List.mem_of_getElem? (i := 17) rfl)))) rfl rfl rfl (by decide +kernel) ⟨Nat.le_of_ble_eq_true rfl, Nat.le_of_ble_eq_true rfl⟩) ⟨fun a U g mk q => ⟨q.1, q.2.calling rfl rfl⟩, k_recv hK hI i_52.1 k_55 (ci := 1) rfl, fun U hU hW => ⟨rfl, kIn.of hI hK hE hS hU hW⟩⟩ rfl rfl hl.1 rfl (lv_room (Nat.le_of_ble_eq_true rfl)) dX11_weigh_100 ⟨Nat.le_of_ble_eq_true rfl, Nat.le_of_ble_eq_true rfl⟩) hS (fun q _ h => h) (fun q h => h) (fun u t H1 locs ht hvm _ hB hz1 hk1 hS => ?_)
          obtain ⟨f_58, hI, kc_60⟩ := hB
          rw [ht] at hI
          have k_61 : f_58 h0 = .inr (11, [.ref (gr g h0 0), .ref (gr g h0 1), .ref (gr g h0 2), .ref (gr g h0 3), .ref (gr g h0 4), .ref (gr g h0 5), .ref (gr g h0 6), .ref (gr g h0 7), .ref (gr g h0 8), .ref (gr g h0 9), .ref (gr g h0 10), .int x_5]) := Kp.at kc_60 i_h0 (by decide) k_4
          have k_62 : f_58 (gr g (gr g h0 3) 1) = .inl (gc g 4, 12, .inr (.inr (.inr (.inr q_24)))) := Kp.at kc_60 i_22 (by decide) k_23
          have kp_63 := Kp.call hk0 kc_60 (by decide)
          generalize H1 = H at hI hS ⊢
          refine W.widen (k := 0) (n := 0) (Nat.le_of_ble_eq_true rfl) (Nat.le_of_ble_eq_true rfl) ?_
          refine lv_aload_n hx hb dX11_weigh_103 rfl (lv_at hl 2 rfl) ?_
          refine k_get (ci := 11) (v := .ref (gr g h0 3)) (C := RX11) (T := TX11) (N := 12) hx hb hts (fun _ h0_ => List.mem_cons_of_mem _ (List.mem_append_right _ (List.mem_append_right _ (List.mem_append_left _ h0_)))) hown hK hI i_h0.1 k_61 rfl 3 (by decide) (hts (.fieldLink RX11 37 "DeadlineShare" "now" "LDeadlineShare$State;") (List.mem_cons_of_mem _ (List.mem_append_left _ (List.mem_of_getElem? (i := 3) rfl)))) (fun _ h9 => h9) rfl dX11_weigh_104 ?_
          refine lv_aload_n hx hb dX11_weigh_107 rfl (lv_at hl 1 rfl) ?_
          refine lv_iload_n hx hb dX11_weigh_108 rfl (lv_at hl 4 rfl) ?_
          obtain ⟨x_67, x_68, x_69, x_70, x_71, k_66, b_72, b_73⟩ := op_6 hI i_7
          refine va_callv (va_runV (As := [.ref a_26, .int p2]) (rest := []) ⟨hx, hb, hml, hown, hts⟩ (c_X6_weighAnew l dC dI g A hG f_58 (gr g h0 3) a_26 p2 i_7 i_27) (cwV 2 hts (gi_V (fun w_ h0_ => ⟨List.mem_cons_of_mem _ (List.mem_append_right _ (List.mem_append_right _ (List.mem_append_right _ (List.mem_append_right _ (List.mem_append_right _ (List.mem_append_right _ (List.mem_append_right _ (List.mem_append_right _ (List.mem_append_left _ h0_))))))))), (tb_c_X6_weighAnew w_ h0_).2⟩) (List.mem_cons_of_mem _ (List.mem_append_left _ (List.mem_of_getElem? (i := 18) rfl))) (List.mem_cons_of_mem _ (List.mem_append_left _ (List.mem_of_getElem? (i := 19) rfl))) (List.mem_cons_of_mem _ (List.mem_append_left _ (List.mem_of_getElem? (i := 20) rfl))) (List.mem_cons_of_mem _ (List.mem_append_left _ (List.mem_of_getElem? (i := 7) rfl)))) rfl rfl rfl (by decide +kernel) ⟨Nat.le_of_ble_eq_true rfl, Nat.le_of_ble_eq_true rfl⟩) ⟨fun a U g mk q => ⟨q.1, q.2.calling rfl rfl⟩, k_recv hK hI i_7.1 k_66 (ci := 6) rfl, fun U hU hW => ⟨rfl, kIn.of hI hK hE hS hU hW⟩⟩ rfl rfl hl.1 rfl (lv_room (Nat.le_of_ble_eq_true rfl)) dX11_weigh_109 ⟨Nat.le_of_ble_eq_true rfl, Nat.le_of_ble_eq_true rfl⟩) hS (fun q _ h => h) (fun q h => h) (fun u t H1 locs ht hvm _ hB hz1 hk1 hS => ?_)
          obtain ⟨f_74, hI, kc_76⟩ := hB
          rw [ht] at hI
          have k_77 : f_74 h0 = .inr (11, [.ref (gr g h0 0), .ref (gr g h0 1), .ref (gr g h0 2), .ref (gr g h0 3), .ref (gr g h0 4), .ref (gr g h0 5), .ref (gr g h0 6), .ref (gr g h0 7), .ref (gr g h0 8), .ref (gr g h0 9), .ref (gr g h0 10), .int x_5]) := Kp.at kc_76 i_h0 (by decide) k_61
          have k_78 : f_74 (gr g (gr g h0 3) 1) = .inl (gc g 4, 12, .inr (.inr (.inr (.inr q_24)))) := Kp.at kc_76 i_22 (by decide) k_62
          have k_79 : f_74 (gr g h0 3) = .inr (6, [.ref (gr g (gr g h0 3) 0), .ref (gr g (gr g h0 3) 1), .ref (gr g (gr g h0 3) 2), .ref (gr g (gr g h0 3) 3), .ref (gr g (gr g h0 3) 4), .int x_67, .int x_68, .long x_69, .int x_70, .int x_71]) := Kp.at kc_76 i_7 (by decide) k_66
          have kp_80 := Kp.call kp_63 kc_76 (by decide)
          generalize H1 = H at hI hS ⊢
          refine W.widen (k := 0) (n := 0) (Nat.le_of_ble_eq_true rfl) (Nat.le_of_ble_eq_true rfl) ?_
          refine lv_aload_n hx hb dX11_weigh_112 rfl (lv_at hl 2 rfl) ?_
          refine k_get (ci := 11) (v := .ref (gr g h0 10)) (C := RX11) (T := TX11) (N := 12) hx hb hts (fun _ h0_ => List.mem_cons_of_mem _ (List.mem_append_right _ (List.mem_append_right _ (List.mem_append_left _ h0_)))) hown hK hI i_h0.1 k_77 rfl 10 (by decide) (hts (.fieldLink RX11 72 "DeadlineShare" "refusals" "LDeadlineShare$Refusals;") (List.mem_cons_of_mem _ (List.mem_append_left _ (List.mem_of_getElem? (i := 21) rfl)))) (fun _ h9 => h9) rfl dX11_weigh_113 ?_
          have i_82 := kw_11_10 hG i_h0
          refine lv_iload hx hb dX11_weigh_116 (lv_at hl 0 rfl) ?_
          obtain ⟨x_84, k_83⟩ := op_4 hI i_82
          refine va_calli (va_runV (As := [.int x_30]) (rest := []) ⟨hx, hb, hml, hown, hts⟩ (c_X4_none l dC dI g A hG f_74 (gr g h0 10) x_30 i_82) (cwV 1 hts (gi_V (fun w_ h0_ => ⟨List.mem_cons_of_mem _ (List.mem_append_right _ (List.mem_append_right _ (List.mem_append_right _ (List.mem_append_right _ (List.mem_append_right _ (List.mem_append_right _ (List.mem_append_right _ (List.mem_append_right _ (List.mem_append_right _ (List.mem_append_left _ h0_)))))))))), (tb_c_X4_none w_ h0_).2⟩) (List.mem_cons_of_mem _ (List.mem_append_left _ (List.mem_of_getElem? (i := 22) rfl))) (List.mem_cons_of_mem _ (List.mem_append_left _ (List.mem_of_getElem? (i := 23) rfl))) (List.mem_cons_of_mem _ (List.mem_append_left _ (List.mem_of_getElem? (i := 24) rfl))) (List.mem_cons_of_mem _ (List.mem_append_left _ (List.mem_of_getElem? (i := 25) rfl)))) rfl rfl rfl (by decide +kernel) ⟨Nat.le_of_ble_eq_true rfl, Nat.le_of_ble_eq_true rfl⟩) ⟨fun a U g mk q => ⟨q.1, q.2.calling rfl rfl⟩, k_recv hK hI i_82.1 k_83 (ci := 4) rfl, fun U hU hW => ⟨rfl, kIn.of hI hK hE hS hU hW⟩⟩ rfl rfl hl.1 rfl (lv_room (Nat.le_of_ble_eq_true rfl)) dX11_weigh_118 ⟨Nat.le_of_ble_eq_true rfl, Nat.le_of_ble_eq_true rfl⟩) hS (fun q _ h => h) (fun q h => h) (fun r_87 u t H1 locs ht hvm w_86 hB hz1 hk1 hS => ?_)
          obtain ⟨f_85, hI, kc_88⟩ := hB
          rw [ht] at hI
          have k_89 : f_85 h0 = .inr (11, [.ref (gr g h0 0), .ref (gr g h0 1), .ref (gr g h0 2), .ref (gr g h0 3), .ref (gr g h0 4), .ref (gr g h0 5), .ref (gr g h0 6), .ref (gr g h0 7), .ref (gr g h0 8), .ref (gr g h0 9), .ref (gr g h0 10), .int x_5]) := Kp.at kc_88 i_h0 (by decide) k_77
          have k_90 : f_85 (gr g (gr g h0 3) 1) = .inl (gc g 4, 12, .inr (.inr (.inr (.inr q_24)))) := Kp.at kc_88 i_22 (by decide) k_78
          have k_91 : f_85 (gr g h0 3) = .inr (6, [.ref (gr g (gr g h0 3) 0), .ref (gr g (gr g h0 3) 1), .ref (gr g (gr g h0 3) 2), .ref (gr g (gr g h0 3) 3), .ref (gr g (gr g h0 3) 4), .int x_67, .int x_68, .long x_69, .int x_70, .int x_71]) := Kp.at kc_88 i_7 (by decide) k_79
          have kp_92 := Kp.call kp_80 kc_88 (by decide)
          generalize H1 = H at hI hS ⊢
          refine W.widen (k := 0) (n := 0) (Nat.le_of_ble_eq_true rfl) (Nat.le_of_ble_eq_true rfl) ?_
          have w_86 : r_87.toInt = x_30.toInt := w_86
          exact W.iret (v := r_87) hx hb hr (fun t ht hW => ⟨⟨r_87, (), rfl, trivial, ⟨f_85, k_ret ht hI, kp_92⟩⟩, hS.F ht⟩) hS.2.2 dX11_weigh_121
        · have c_50 := kc_eq rfl (by decide : Int32.toInt 0 = 0) c_50
          refine lv_aload_n hx hb dX11_weigh_81 rfl (lv_at hl 2 rfl) ?_
          refine k_get (ci := 11) (v := .ref (gr g h0 10)) (C := RX11) (T := TX11) (N := 12) hx hb hts (fun _ h0_ => List.mem_cons_of_mem _ (List.mem_append_right _ (List.mem_append_right _ (List.mem_append_left _ h0_)))) hown hK hI i_h0.1 k_4 rfl 10 (by decide) (hts (.fieldLink RX11 72 "DeadlineShare" "refusals" "LDeadlineShare$Refusals;") (List.mem_cons_of_mem _ (List.mem_append_left _ (List.mem_of_getElem? (i := 21) rfl)))) (fun _ h9 => h9) rfl dX11_weigh_82 ?_
          have i_94 := kw_11_10 hG i_h0
          refine lv_bipush (v := (-5)) hx hb dX11_weigh_85 (by decide) ?_
          obtain ⟨x_96, k_95⟩ := op_4 hI i_94
          refine va_calli (va_runV (As := [.int (-5)]) (rest := []) ⟨hx, hb, hml, hown, hts⟩ (c_X4_add l dC dI g A hG f (gr g h0 10) (-5) i_94) (cwV 1 hts (gi_V (fun w_ h0_ => ⟨List.mem_cons_of_mem _ (List.mem_append_right _ (List.mem_append_right _ (List.mem_append_right _ (List.mem_append_right _ (List.mem_append_right _ (List.mem_append_right _ (List.mem_append_right _ (List.mem_append_right _ (List.mem_append_right _ (List.mem_append_right _ (List.mem_append_left _ h0_))))))))))), (tb_c_X4_add w_ h0_).2⟩) (List.mem_cons_of_mem _ (List.mem_append_left _ (List.mem_of_getElem? (i := 26) rfl))) (List.mem_cons_of_mem _ (List.mem_append_left _ (List.mem_of_getElem? (i := 27) rfl))) (List.mem_cons_of_mem _ (List.mem_append_left _ (List.mem_of_getElem? (i := 28) rfl))) (List.mem_cons_of_mem _ (List.mem_append_left _ (List.mem_of_getElem? (i := 25) rfl)))) rfl rfl rfl (by decide +kernel) ⟨Nat.le_of_ble_eq_true rfl, Nat.le_of_ble_eq_true rfl⟩) ⟨fun a U g mk q => ⟨q.1, q.2.calling rfl rfl⟩, k_recv hK hI i_94.1 k_95 (ci := 4) rfl, fun U hU hW => ⟨rfl, kIn.of hI hK hE hS hU hW⟩⟩ rfl rfl hl.1 rfl (lv_room (Nat.le_of_ble_eq_true rfl)) dX11_weigh_87 ⟨Nat.le_of_ble_eq_true rfl, Nat.le_of_ble_eq_true rfl⟩) hS (fun q _ h => h) (fun q h => h) (fun r_99 u t H1 locs ht hvm w_98 hB hz1 hk1 hS => ?_)
          obtain ⟨f_97, hI, kc_100⟩ := hB
          rw [ht] at hI
          have k_101 : f_97 h0 = .inr (11, [.ref (gr g h0 0), .ref (gr g h0 1), .ref (gr g h0 2), .ref (gr g h0 3), .ref (gr g h0 4), .ref (gr g h0 5), .ref (gr g h0 6), .ref (gr g h0 7), .ref (gr g h0 8), .ref (gr g h0 9), .ref (gr g h0 10), .int x_5]) := Kp.at kc_100 i_h0 (by decide) k_4
          have k_102 : f_97 (gr g h0 3) = .inr (6, [.ref (gr g (gr g h0 3) 0), .ref (gr g (gr g h0 3) 1), .ref (gr g (gr g h0 3) 2), .ref (gr g (gr g h0 3) 3), .ref (gr g (gr g h0 3) 4), .int x_9, .int x_10, .long x_11, .int x_12, .int x_13]) := Kp.at kc_100 i_7 (by decide) k_8
          have k_103 : f_97 (gr g (gr g h0 3) 1) = .inl (gc g 4, 12, .inr (.inr (.inr (.inr q_24)))) := Kp.at kc_100 i_22 (by decide) k_23
          have k_104 : f_97 a_26 = .inr (8, [.int x_29, .ref (gr g a_26 1), .int x_30, .int x_31, .int x_32, .long x_33, .int x_34, .ref (gr g a_26 7), .int x_35, .int x_36, .int x_37, .int x_38, .int x_39, .int x_40, .int x_41, .int x_42, .int x_43, .int x_44]) := Kp.at kc_100 i_27 (by decide) k_28
          have kp_105 := Kp.call hk0 kc_100 (by decide)
          generalize H1 = H at hI hS ⊢
          refine W.widen (k := 0) (n := 0) (Nat.le_of_ble_eq_true rfl) (Nat.le_of_ble_eq_true rfl) ?_
          have w_98 : r_99.toInt = (-5 : Int32).toInt := w_98
          exact W.iret (v := r_99) hx hb hr (fun t ht hW => ⟨⟨r_99, (), rfl, trivial, ⟨f_97, k_ret ht hI, kp_105⟩⟩, hS.F ht⟩) hS.2.2 dX11_weigh_90
      · have c_45 := kc_eq rfl rfl c_45
        refine lv_aload_n hx hb dX11_weigh_59 rfl (lv_at hl 2 rfl) ?_
        refine k_get (ci := 11) (v := .ref (gr g h0 10)) (C := RX11) (T := TX11) (N := 12) hx hb hts (fun _ h0_ => List.mem_cons_of_mem _ (List.mem_append_right _ (List.mem_append_right _ (List.mem_append_left _ h0_)))) hown hK hI i_h0.1 k_4 rfl 10 (by decide) (hts (.fieldLink RX11 72 "DeadlineShare" "refusals" "LDeadlineShare$Refusals;") (List.mem_cons_of_mem _ (List.mem_append_left _ (List.mem_of_getElem? (i := 21) rfl)))) (fun _ h9 => h9) rfl dX11_weigh_60 ?_
        have i_107 := kw_11_10 hG i_h0
        refine lv_bipush (v := (-4)) hx hb dX11_weigh_63 (by decide) ?_
        obtain ⟨x_109, k_108⟩ := op_4 hI i_107
        refine va_calli (va_runV (As := [.int (-4)]) (rest := []) ⟨hx, hb, hml, hown, hts⟩ (c_X4_add l dC dI g A hG f (gr g h0 10) (-4) i_107) (cwV 1 hts (gi_V (fun w_ h0_ => ⟨List.mem_cons_of_mem _ (List.mem_append_right _ (List.mem_append_right _ (List.mem_append_right _ (List.mem_append_right _ (List.mem_append_right _ (List.mem_append_right _ (List.mem_append_right _ (List.mem_append_right _ (List.mem_append_right _ (List.mem_append_right _ (List.mem_append_left _ h0_))))))))))), (tb_c_X4_add w_ h0_).2⟩) (List.mem_cons_of_mem _ (List.mem_append_left _ (List.mem_of_getElem? (i := 26) rfl))) (List.mem_cons_of_mem _ (List.mem_append_left _ (List.mem_of_getElem? (i := 27) rfl))) (List.mem_cons_of_mem _ (List.mem_append_left _ (List.mem_of_getElem? (i := 28) rfl))) (List.mem_cons_of_mem _ (List.mem_append_left _ (List.mem_of_getElem? (i := 25) rfl)))) rfl rfl rfl (by decide +kernel) ⟨Nat.le_of_ble_eq_true rfl, Nat.le_of_ble_eq_true rfl⟩) ⟨fun a U g mk q => ⟨q.1, q.2.calling rfl rfl⟩, k_recv hK hI i_107.1 k_108 (ci := 4) rfl, fun U hU hW => ⟨rfl, kIn.of hI hK hE hS hU hW⟩⟩ rfl rfl hl.1 rfl (lv_room (Nat.le_of_ble_eq_true rfl)) dX11_weigh_65 ⟨Nat.le_of_ble_eq_true rfl, Nat.le_of_ble_eq_true rfl⟩) hS (fun q _ h => h) (fun q h => h) (fun r_112 u t H1 locs ht hvm w_111 hB hz1 hk1 hS => ?_)
        obtain ⟨f_110, hI, kc_113⟩ := hB
        rw [ht] at hI
        have k_114 : f_110 h0 = .inr (11, [.ref (gr g h0 0), .ref (gr g h0 1), .ref (gr g h0 2), .ref (gr g h0 3), .ref (gr g h0 4), .ref (gr g h0 5), .ref (gr g h0 6), .ref (gr g h0 7), .ref (gr g h0 8), .ref (gr g h0 9), .ref (gr g h0 10), .int x_5]) := Kp.at kc_113 i_h0 (by decide) k_4
        have k_115 : f_110 (gr g h0 3) = .inr (6, [.ref (gr g (gr g h0 3) 0), .ref (gr g (gr g h0 3) 1), .ref (gr g (gr g h0 3) 2), .ref (gr g (gr g h0 3) 3), .ref (gr g (gr g h0 3) 4), .int x_9, .int x_10, .long x_11, .int x_12, .int x_13]) := Kp.at kc_113 i_7 (by decide) k_8
        have k_116 : f_110 (gr g (gr g h0 3) 1) = .inl (gc g 4, 12, .inr (.inr (.inr (.inr q_24)))) := Kp.at kc_113 i_22 (by decide) k_23
        have k_117 : f_110 a_26 = .inr (8, [.int x_29, .ref (gr g a_26 1), .int x_30, .int x_31, .int x_32, .long x_33, .int x_34, .ref (gr g a_26 7), .int x_35, .int x_36, .int x_37, .int x_38, .int x_39, .int x_40, .int x_41, .int x_42, .int x_43, .int x_44]) := Kp.at kc_113 i_27 (by decide) k_28
        have kp_118 := Kp.call hk0 kc_113 (by decide)
        generalize H1 = H at hI hS ⊢
        refine W.widen (k := 0) (n := 0) (Nat.le_of_ble_eq_true rfl) (Nat.le_of_ble_eq_true rfl) ?_
        have w_111 : r_112.toInt = (-4 : Int32).toInt := w_111
        exact W.iret (v := r_112) hx hb hr (fun t ht hW => ⟨⟨r_112, (), rfl, trivial, ⟨f_110, k_ret ht hI, kp_118⟩⟩, hS.F ht⟩) hS.2.2 dX11_weigh_68
    · have c_18 := kc_eq rfl (by decide : Int32.toInt 0 = 0) c_18
      refine lv_aload_n hx hb dX11_weigh_27 rfl (lv_at hl 0 rfl) ?_
      refine k_get (ci := 11) (v := .ref (gr g h0 10)) (C := RX11) (T := TX11) (N := 12) hx hb hts (fun _ h0_ => List.mem_cons_of_mem _ (List.mem_append_right _ (List.mem_append_right _ (List.mem_append_left _ h0_)))) hown hK hI i_h0.1 k_4 rfl 10 (by decide) (hts (.fieldLink RX11 72 "DeadlineShare" "refusals" "LDeadlineShare$Refusals;") (List.mem_cons_of_mem _ (List.mem_append_left _ (List.mem_of_getElem? (i := 21) rfl)))) (fun _ h9 => h9) rfl dX11_weigh_28 ?_
      have i_120 := kw_11_10 hG i_h0
      refine lv_bipush (v := (-2)) hx hb dX11_weigh_31 (by decide) ?_
      obtain ⟨x_122, k_121⟩ := op_4 hI i_120
      refine va_calli (va_runV (As := [.int (-2)]) (rest := []) ⟨hx, hb, hml, hown, hts⟩ (c_X4_add l dC dI g A hG f (gr g h0 10) (-2) i_120) (cwV 1 hts (gi_V (fun w_ h0_ => ⟨List.mem_cons_of_mem _ (List.mem_append_right _ (List.mem_append_right _ (List.mem_append_right _ (List.mem_append_right _ (List.mem_append_right _ (List.mem_append_right _ (List.mem_append_right _ (List.mem_append_right _ (List.mem_append_right _ (List.mem_append_right _ (List.mem_append_left _ h0_))))))))))), (tb_c_X4_add w_ h0_).2⟩) (List.mem_cons_of_mem _ (List.mem_append_left _ (List.mem_of_getElem? (i := 26) rfl))) (List.mem_cons_of_mem _ (List.mem_append_left _ (List.mem_of_getElem? (i := 27) rfl))) (List.mem_cons_of_mem _ (List.mem_append_left _ (List.mem_of_getElem? (i := 28) rfl))) (List.mem_cons_of_mem _ (List.mem_append_left _ (List.mem_of_getElem? (i := 25) rfl)))) rfl rfl rfl (by decide +kernel) ⟨Nat.le_of_ble_eq_true rfl, Nat.le_of_ble_eq_true rfl⟩) ⟨fun a U g mk q => ⟨q.1, q.2.calling rfl rfl⟩, k_recv hK hI i_120.1 k_121 (ci := 4) rfl, fun U hU hW => ⟨rfl, kIn.of hI hK hE hS hU hW⟩⟩ rfl rfl hl.1 rfl (lv_room (Nat.le_of_ble_eq_true rfl)) dX11_weigh_33 ⟨Nat.le_of_ble_eq_true rfl, Nat.le_of_ble_eq_true rfl⟩) hS (fun q _ h => h) (fun q h => h) (fun r_125 u t H1 locs ht hvm w_124 hB hz1 hk1 hS => ?_)
      obtain ⟨f_123, hI, kc_126⟩ := hB
      rw [ht] at hI
      have k_127 : f_123 h0 = .inr (11, [.ref (gr g h0 0), .ref (gr g h0 1), .ref (gr g h0 2), .ref (gr g h0 3), .ref (gr g h0 4), .ref (gr g h0 5), .ref (gr g h0 6), .ref (gr g h0 7), .ref (gr g h0 8), .ref (gr g h0 9), .ref (gr g h0 10), .int x_5]) := Kp.at kc_126 i_h0 (by decide) k_4
      have k_128 : f_123 (gr g h0 3) = .inr (6, [.ref (gr g (gr g h0 3) 0), .ref (gr g (gr g h0 3) 1), .ref (gr g (gr g h0 3) 2), .ref (gr g (gr g h0 3) 3), .ref (gr g (gr g h0 3) 4), .int x_9, .int x_10, .long x_11, .int x_12, .int x_13]) := Kp.at kc_126 i_7 (by decide) k_8
      have kp_129 := Kp.call hk0 kc_126 (by decide)
      generalize H1 = H at hI hS ⊢
      refine W.widen (k := 0) (n := 0) (Nat.le_of_ble_eq_true rfl) (Nat.le_of_ble_eq_true rfl) ?_
      have w_124 : r_125.toInt = (-2 : Int32).toInt := w_124
      exact W.iret (v := r_125) hx hb hr (fun t ht hW => ⟨⟨r_125, (), rfl, trivial, ⟨f_123, k_ret ht hI, kp_129⟩⟩, hS.F ht⟩) hS.2.2 dX11_weigh_36
  · have c_3 := kc_eq rfl (by decide : Int32.toInt 0 = 0) c_3
    refine lv_aload_n hx hb dX11_weigh_7 rfl (lv_at hl 0 rfl) ?_
    obtain ⟨x_131, k_130⟩ := op_11 hI i_h0
    refine k_get (ci := 11) (v := .ref (gr g h0 10)) (C := RX11) (T := TX11) (N := 12) hx hb hts (fun _ h0_ => List.mem_cons_of_mem _ (List.mem_append_right _ (List.mem_append_right _ (List.mem_append_left _ h0_)))) hown hK hI i_h0.1 k_130 rfl 10 (by decide) (hts (.fieldLink RX11 72 "DeadlineShare" "refusals" "LDeadlineShare$Refusals;") (List.mem_cons_of_mem _ (List.mem_append_left _ (List.mem_of_getElem? (i := 21) rfl)))) (fun _ h9 => h9) rfl dX11_weigh_8 ?_
    have i_133 := kw_11_10 hG i_h0
    refine lv_iconst (v := (-1)) hx hb dX11_weigh_11 (by decide) ?_
    obtain ⟨x_135, k_134⟩ := op_4 hI i_133
    refine va_calli (va_runV (As := [.int (-1)]) (rest := []) ⟨hx, hb, hml, hown, hts⟩ (c_X4_add l dC dI g A hG f (gr g h0 10) (-1) i_133) (cwV 1 hts (gi_V (fun w_ h0_ => ⟨List.mem_cons_of_mem _ (List.mem_append_right _ (List.mem_append_right _ (List.mem_append_right _ (List.mem_append_right _ (List.mem_append_right _ (List.mem_append_right _ (List.mem_append_right _ (List.mem_append_right _ (List.mem_append_right _ (List.mem_append_right _ (List.mem_append_left _ h0_))))))))))), (tb_c_X4_add w_ h0_).2⟩) (List.mem_cons_of_mem _ (List.mem_append_left _ (List.mem_of_getElem? (i := 26) rfl))) (List.mem_cons_of_mem _ (List.mem_append_left _ (List.mem_of_getElem? (i := 27) rfl))) (List.mem_cons_of_mem _ (List.mem_append_left _ (List.mem_of_getElem? (i := 28) rfl))) (List.mem_cons_of_mem _ (List.mem_append_left _ (List.mem_of_getElem? (i := 25) rfl)))) rfl rfl rfl (by decide +kernel) ⟨Nat.le_of_ble_eq_true rfl, Nat.le_of_ble_eq_true rfl⟩) ⟨fun a U g mk q => ⟨q.1, q.2.calling rfl rfl⟩, k_recv hK hI i_133.1 k_134 (ci := 4) rfl, fun U hU hW => ⟨rfl, kIn.of hI hK hE hS hU hW⟩⟩ rfl rfl hl.1 rfl (lv_room (Nat.le_of_ble_eq_true rfl)) dX11_weigh_12 ⟨Nat.le_of_ble_eq_true rfl, Nat.le_of_ble_eq_true rfl⟩) hS (fun q _ h => h) (fun q h => h) (fun r_138 u t H1 locs ht hvm w_137 hB hz1 hk1 hS => ?_)
    obtain ⟨f_136, hI, kc_139⟩ := hB
    rw [ht] at hI
    have k_140 : f_136 h0 = .inr (11, [.ref (gr g h0 0), .ref (gr g h0 1), .ref (gr g h0 2), .ref (gr g h0 3), .ref (gr g h0 4), .ref (gr g h0 5), .ref (gr g h0 6), .ref (gr g h0 7), .ref (gr g h0 8), .ref (gr g h0 9), .ref (gr g h0 10), .int x_131]) := Kp.at kc_139 i_h0 (by decide) k_130
    have kp_141 := Kp.call hk0 kc_139 (by decide)
    generalize H1 = H at hI hS ⊢
    refine W.widen (k := 0) (n := 0) (Nat.le_of_ble_eq_true rfl) (Nat.le_of_ble_eq_true rfl) ?_
    have w_137 : r_138.toInt = (-1 : Int32).toInt := w_137
    exact W.iret (v := r_138) hx hb hr (fun t ht hW => ⟨⟨r_138, (), rfl, trivial, ⟨f_136, k_ret ht hI, kp_141⟩⟩, hS.F ht⟩) hS.2.2 dX11_weigh_15
theorem tw_581 : q_g (.methodLink RX11 185 yX8_takeSlice) := ⟨(List.mem_append_right _ (List.mem_of_getElem? (i := 580) (by decide +kernel))), good_of_word (by decide +kernel)⟩
theorem tw_582 : q_g (.fieldLink RX11 182 "DeadlineShare$Task" "slice" "I") := ⟨(List.mem_append_right _ (List.mem_of_getElem? (i := 158) (by decide +kernel))), good_of_word (by decide +kernel)⟩
theorem tw_583 : q_g (.code yX11_slice cX11_slice 5 (some .int)) := ⟨(List.mem_append_right _ (List.mem_of_getElem? (i := 579) (by decide +kernel))), good_of_word (by decide +kernel)⟩
def ow_c_X11_slice : List Cond := [.methodLink RX11 116 yX11_isSlice, .static yX11_isSlice, .initialized RX11, .fieldLink RX11 37 "DeadlineShare" "now" "LDeadlineShare$State;", .methodLink RX11 130 yX6_has, .instanceMethod yX6_has, .selects RX6 yX6_has yX6_has, .initialized RX6, .fieldLink RX11 133 "DeadlineShare$State" "tasks" "[LDeadlineShare$Task;", .fieldLink RX11 182 "DeadlineShare$Task" "slice" "I", .fieldLink RX11 65 "DeadlineShare" "history" "LDeadlineShare$History;", .methodLink RX11 122 yX1_keep, .instanceMethod yX1_keep, .selects RX1 yX1_keep yX1_keep, .initialized RX1, .methodLink RX11 185 yX8_takeSlice, .instanceMethod yX8_takeSlice, .selects RX8 yX8_takeSlice yX8_takeSlice, .initialized RX8, .fieldLink RX11 72 "DeadlineShare" "refusals" "LDeadlineShare$Refusals;", .methodLink RX11 95 yX4_none, .instanceMethod yX4_none, .selects RX4 yX4_none yX4_none, .initialized RX4, .methodLink RX11 84 yX4_add, .instanceMethod yX4_add, .selects RX4 yX4_add yX4_add]
def wq_c_X11_slice : List Cond := .code yX11_slice cX11_slice 5 (some .int) :: (ow_c_X11_slice ++ (wq_c_X11_isSlice ++ (u_ws RX11 TX11 12 ++ (wq_c_X6_has ++ (u_ws RX6 TX6 10 ++ (u_ws RX8 TX8 18 ++ (wq_c_X1_keep ++ (wq_c_X8_takeSlice ++ (wq_c_X4_none ++ (wq_c_X4_add ++ ([] : List Cond)))))))))))
theorem tb_c_X11_slice : ∀ w ∈ wq_c_X11_slice, q_g w := by
  unfold wq_c_X11_slice ow_c_X11_slice
  exact q_cons tw_583 (q_app (q_cons tw_560 (q_cons tw_559 (q_cons tw_56 (q_cons tw_558 (q_cons tw_571 (q_cons tw_74 (q_cons tw_73 (q_cons tw_47 (q_cons tw_570 (q_cons tw_582 (q_cons tw_556 (q_cons tw_555 (q_cons tw_554 (q_cons tw_553 (q_cons tw_552 (q_cons tw_581 (q_cons tw_408 (q_cons tw_407 (q_cons tw_8 (q_cons tw_522 (q_cons tw_521 (q_cons tw_520 (q_cons tw_519 (q_cons tw_273 (q_cons tw_518 (q_cons tw_517 (q_cons tw_516 q_nil))))))))))))))))))))))))))) (q_app tb_c_X11_isSlice (q_app tu_X11 (q_app tb_c_X6_has (q_app tu_X6 (q_app tu_X8 (q_app tb_c_X1_keep (q_app tb_c_X8_takeSlice (q_app tb_c_X4_none (q_app tb_c_X4_add q_nil))))))))))
set_option maxHeartbeats 4000000 in
set_option maxRecDepth 100000 in
theorem c_X11_slice (l : Launch) (dC : Nat → ClassId) (dI : Nat → Nat → Nat) (g : kG) (A : Nat → Prop) (hG : kWf g) (f : Nat → va_E) (h0 : Nat) (p1 : Int32) (p2 : Int32) (i_h0 : ik g 11 h0) : Met l yX11_slice wq_c_X11_slice ({ frames := 5, cells := 0, slots := 0, locals := 126 } : Room) (va_Pc [.ref h0, .int p1, .int p2] (fun U => kIn dC dI g A f U)) (va_Qi (fun (r : Int32) (_ : Unit) => True) (fun (_ : Unit) t => ∃ f1 : Nat → va_E, Iv dC dI g A f1 t.heap ∧ Kp g [1, 4, 5, 6, 8, 10, 23, 24, 27, 28] f f1) A) 0 0 A := by
  refine Met.ofW (cc := cX11_slice) (maxL := 5) (ret := (some .int)) (by decide) rfl ?_
  intro p e s m args below meth c s₁ B hml hv
  obtain ⟨rfl, hI, hK, hE⟩ := hv
  have hx := B.exec
  have hb := B.bytes
  have hr := B.returns
  have hts := atoms_spec (ws := wq_c_X11_slice) B.pre
  have hown : s.vm.findClass RX11 = some m.cls := findClass_of_methodNamed B.named
  have hlocks := B.notSynchronized
  have hS : va_S A s.heap s.heap [] := va_S.rf
  have hk0 : Kp g [1, 4, 5, 6, 8, 10, 23, 24, 27, 28] f f := Kp.rf
  have hl := lv_entry ([.ref h0, .int p1, .int p2]) (n := 5) (Nat.le_of_ble_eq_true rfl)
  rw [lg_entry_eq]
  generalize (lg_sl ([.ref h0, .int p1, .int p2]) ++ List.replicate (5 - (lg_sl ([.ref h0, .int p1, .int p2])).length) Slot.unset).toArray = ls at hl ⊢
  have hl : lv_has ls 5 [(0, .ref h0), (1, .int p1), (2, .int p2)] := hl
  refine lv_iload_n hx hb dX11_slice_0 rfl (lv_at hl 2 rfl) ?_
  refine va_calli (va_runS (As := [.int p2]) (rest := []) ⟨hx, hb, hml, hown, hts⟩ (c_X11_isSlice l dC dI g A hG f p2) (va_cwS 1 hts (gi_S (fun w_ h0_ => ⟨List.mem_cons_of_mem _ (List.mem_append_right _ (List.mem_append_left _ h0_)), (tb_c_X11_isSlice w_ h0_).2⟩) (List.mem_cons_of_mem _ (List.mem_append_left _ (List.mem_of_getElem? (i := 0) rfl))) (List.mem_cons_of_mem _ (List.mem_append_left _ (List.mem_of_getElem? (i := 1) rfl))) (List.mem_cons_of_mem _ (List.mem_append_left _ (List.mem_of_getElem? (i := 2) rfl)))) rfl rfl rfl (by decide +kernel) ⟨Nat.le_of_ble_eq_true rfl, Nat.le_of_ble_eq_true rfl⟩) ⟨fun a U g mk q => ⟨q.1, q.2.calling rfl rfl⟩, fun U hU hW => ⟨rfl, kIn.of hI hK hE hS hU hW⟩⟩ rfl rfl hl.1 rfl (lv_room (Nat.le_of_ble_eq_true rfl)) dX11_slice_1 ⟨Nat.le_of_ble_eq_true rfl, Nat.le_of_ble_eq_true rfl⟩) hS (fun q _ h => h) (fun q h => h) (fun r_2 u t H1 locs ht hvm w_1 hB hz1 hk1 hS => ?_)
  have hI : Iv dC dI g A f t.heap := hB
  rw [ht] at hI
  generalize H1 = H at hI hS ⊢
  refine W.widen (k := 0) (n := 0) (Nat.le_of_ble_eq_true rfl) (Nat.le_of_ble_eq_true rfl) ?_
  refine lv_if_ne (tgt := 16) hx hb dX11_slice_4 (by decide) (fun c_3 => ?_) (fun c_3 => ?_)
  · have c_3 := kn_eq rfl (by decide : Int32.toInt 0 = 0) c_3
    refine lv_aload_n hx hb dX11_slice_16 rfl (lv_at hl 0 rfl) ?_
    obtain ⟨x_5, k_4⟩ := op_11 hI i_h0
    refine k_get (ci := 11) (v := .ref (gr g h0 3)) (C := RX11) (T := TX11) (N := 12) hx hb hts (fun _ h0_ => List.mem_cons_of_mem _ (List.mem_append_right _ (List.mem_append_right _ (List.mem_append_left _ h0_)))) hown hK hI i_h0.1 k_4 rfl 3 (by decide) (hts (.fieldLink RX11 37 "DeadlineShare" "now" "LDeadlineShare$State;") (List.mem_cons_of_mem _ (List.mem_append_left _ (List.mem_of_getElem? (i := 3) rfl)))) (fun _ h9 => h9) rfl dX11_slice_17 ?_
    have i_7 := kw_11_3 hG i_h0
    refine lv_iload_n hx hb dX11_slice_20 rfl (lv_at hl 1 rfl) ?_
    obtain ⟨x_9, x_10, x_11, x_12, x_13, k_8, b_14, b_15⟩ := op_6 hI i_7
    refine va_calli (va_runV (As := [.int p1]) (rest := []) ⟨hx, hb, hml, hown, hts⟩ (c_X6_has l dC dI g A hG f (gr g h0 3) p1 i_7) (cwV 1 hts (gi_V (fun w_ h0_ => ⟨List.mem_cons_of_mem _ (List.mem_append_right _ (List.mem_append_right _ (List.mem_append_right _ (List.mem_append_left _ h0_)))), (tb_c_X6_has w_ h0_).2⟩) (List.mem_cons_of_mem _ (List.mem_append_left _ (List.mem_of_getElem? (i := 4) rfl))) (List.mem_cons_of_mem _ (List.mem_append_left _ (List.mem_of_getElem? (i := 5) rfl))) (List.mem_cons_of_mem _ (List.mem_append_left _ (List.mem_of_getElem? (i := 6) rfl))) (List.mem_cons_of_mem _ (List.mem_append_left _ (List.mem_of_getElem? (i := 7) rfl)))) rfl rfl rfl (by decide +kernel) ⟨Nat.le_of_ble_eq_true rfl, Nat.le_of_ble_eq_true rfl⟩) ⟨fun a U g mk q => ⟨q.1, q.2.calling rfl rfl⟩, k_recv hK hI i_7.1 k_8 (ci := 6) rfl, fun U hU hW => ⟨rfl, kIn.of hI hK hE hS hU hW⟩⟩ rfl rfl hl.1 rfl (lv_room (Nat.le_of_ble_eq_true rfl)) dX11_slice_21 ⟨Nat.le_of_ble_eq_true rfl, Nat.le_of_ble_eq_true rfl⟩) hS (fun q _ h => h) (fun q h => h) (fun r_17 u t H1 locs ht hvm w_16 hB hz1 hk1 hS => ?_)
    have hI : Iv dC dI g A f t.heap := hB
    rw [ht] at hI
    generalize H1 = H at hI hS ⊢
    refine W.widen (k := 0) (n := 0) (Nat.le_of_ble_eq_true rfl) (Nat.le_of_ble_eq_true rfl) ?_
    have w_16 : r_17.toInt = 0 ∨ (0 ≤ p1.toInt ∧ p1.toInt < 12) := w_16
    refine lv_if_ne (tgt := 37) hx hb dX11_slice_24 (by decide) (fun c_18 => ?_) (fun c_18 => ?_)
    · have c_18 := kn_eq rfl (by decide : Int32.toInt 0 = 0) c_18
      refine lv_aload_n hx hb dX11_slice_37 rfl (lv_at hl 0 rfl) ?_
      refine k_get (ci := 11) (v := .ref (gr g h0 3)) (C := RX11) (T := TX11) (N := 12) hx hb hts (fun _ h0_ => List.mem_cons_of_mem _ (List.mem_append_right _ (List.mem_append_right _ (List.mem_append_left _ h0_)))) hown hK hI i_h0.1 k_4 rfl 3 (by decide) (hts (.fieldLink RX11 37 "DeadlineShare" "now" "LDeadlineShare$State;") (List.mem_cons_of_mem _ (List.mem_append_left _ (List.mem_of_getElem? (i := 3) rfl)))) (fun _ h9 => h9) rfl dX11_slice_38 ?_
      refine k_get (ci := 6) (v := .ref (gr g (gr g h0 3) 1)) (C := RX6) (T := TX6) (N := 10) hx hb hts (fun _ h0_ => List.mem_cons_of_mem _ (List.mem_append_right _ (List.mem_append_right _ (List.mem_append_right _ (List.mem_append_right _ (List.mem_append_left _ h0_)))))) hown hK hI i_7.1 k_8 rfl 1 (by decide) (hts (.fieldLink RX11 133 "DeadlineShare$State" "tasks" "[LDeadlineShare$Task;") (List.mem_cons_of_mem _ (List.mem_append_left _ (List.mem_of_getElem? (i := 8) rfl)))) (fun _ h9 => h9) rfl dX11_slice_41 ?_
      have i_22 := kw_6_1 hG i_7
      refine lv_iload_n hx hb dX11_slice_44 rfl (lv_at hl 1 rfl) ?_
      obtain ⟨q_24, k_23, b_25⟩ := op_20 hI i_22
      refine k_aald hx hb hK hI i_22.1 4 k_23 rfl (vp_in_iff.mpr (by omega)) b_25 (fun _ hj => kw_20 hG i_22 hj) dX11_slice_45 (fun a_26 i_27 => ?_)
      refine lv_astore_n (lv' := [(3, .ref a_26), (0, .ref h0), (1, .int p1), (2, .int p2)]) hx hb dX11_slice_46 rfl hl (by decide) rfl (fun ls hl => ?_)
      refine lv_aload_n hx hb dX11_slice_47 rfl (lv_at hl 0 rfl) ?_
      obtain ⟨x_29, x_30, x_31, x_32, x_33, x_34, x_35, x_36, x_37, x_38, x_39, x_40, x_41, x_42, x_43, x_44, k_28⟩ := op_8 hI i_27
      refine k_get (ci := 8) (v := .int x_31) (C := RX8) (T := TX8) (N := 18) hx hb hts (fun _ h0_ => List.mem_cons_of_mem _ (List.mem_append_right _ (List.mem_append_right _ (List.mem_append_right _ (List.mem_append_right _ (List.mem_append_right _ (List.mem_append_left _ h0_))))))) hown hK hI i_27.1 k_28 rfl 3 (by decide) (hts (.fieldLink RX11 182 "DeadlineShare$Task" "slice" "I") (List.mem_cons_of_mem _ (List.mem_append_left _ (List.mem_of_getElem? (i := 9) rfl)))) (fun _ h9 => h9) rfl dX11_slice_48 ?_
      refine lv_istore (lv' := [(4, .int x_31), (3, .ref a_26), (0, .ref h0), (1, .int p1), (2, .int p2)]) hx hb dX11_slice_51 hl (by decide) rfl (fun ls hl => ?_)
      refine lv_iload hx hb dX11_slice_53 (lv_at hl 0 rfl) ?_
      refine lv_iload_n hx hb dX11_slice_55 rfl (lv_at hl 4 rfl) ?_
      refine lv_icmp_ne (tgt := 69) hx hb dX11_slice_56 (by decide) (fun c_45 => ?_) (fun c_45 => ?_)
      · have c_45 := kn_eq rfl rfl c_45
        refine lv_aload_n hx hb dX11_slice_69 rfl (lv_at hl 2 rfl) ?_
        refine k_get (ci := 11) (v := .ref (gr g h0 9)) (C := RX11) (T := TX11) (N := 12) hx hb hts (fun _ h0_ => List.mem_cons_of_mem _ (List.mem_append_right _ (List.mem_append_right _ (List.mem_append_left _ h0_)))) hown hK hI i_h0.1 k_4 rfl 9 (by decide) (hts (.fieldLink RX11 65 "DeadlineShare" "history" "LDeadlineShare$History;") (List.mem_cons_of_mem _ (List.mem_append_left _ (List.mem_of_getElem? (i := 10) rfl)))) (fun _ h9 => h9) rfl dX11_slice_70 ?_
        have i_47 := kw_11_9 hG i_h0
        refine lv_aload_n hx hb dX11_slice_73 rfl (lv_at hl 2 rfl) ?_
        refine k_get (ci := 11) (v := .ref (gr g h0 3)) (C := RX11) (T := TX11) (N := 12) hx hb hts (fun _ h0_ => List.mem_cons_of_mem _ (List.mem_append_right _ (List.mem_append_right _ (List.mem_append_left _ h0_)))) hown hK hI i_h0.1 k_4 rfl 3 (by decide) (hts (.fieldLink RX11 37 "DeadlineShare" "now" "LDeadlineShare$State;") (List.mem_cons_of_mem _ (List.mem_append_left _ (List.mem_of_getElem? (i := 3) rfl)))) (fun _ h9 => h9) rfl dX11_slice_74 ?_
        refine lv_iconst (v := 4) hx hb dX11_slice_77 (by decide) ?_
        obtain ⟨x_51, x_52, k_50⟩ := op_1 hI i_47
        refine va_callv (va_runV (As := [.ref (gr g h0 3), .int 4]) (rest := []) ⟨hx, hb, hml, hown, hts⟩ (c_X1_keep l dC dI g A hG f (gr g h0 9) (gr g h0 3) 4 i_47 i_7) (cwV 2 hts (gi_V (fun w_ h0_ => ⟨List.mem_cons_of_mem _ (List.mem_append_right _ (List.mem_append_right _ (List.mem_append_right _ (List.mem_append_right _ (List.mem_append_right _ (List.mem_append_right _ (List.mem_append_left _ h0_))))))), (tb_c_X1_keep w_ h0_).2⟩) (List.mem_cons_of_mem _ (List.mem_append_left _ (List.mem_of_getElem? (i := 11) rfl))) (List.mem_cons_of_mem _ (List.mem_append_left _ (List.mem_of_getElem? (i := 12) rfl))) (List.mem_cons_of_mem _ (List.mem_append_left _ (List.mem_of_getElem? (i := 13) rfl))) (List.mem_cons_of_mem _ (List.mem_append_left _ (List.mem_of_getElem? (i := 14) rfl)))) rfl rfl rfl (by decide +kernel) ⟨Nat.le_of_ble_eq_true rfl, Nat.le_of_ble_eq_true rfl⟩) ⟨fun a U g mk q => ⟨q.1, q.2.calling rfl rfl⟩, k_recv hK hI i_47.1 k_50 (ci := 1) rfl, fun U hU hW => ⟨rfl, kIn.of hI hK hE hS hU hW⟩⟩ rfl rfl hl.1 rfl (lv_room (Nat.le_of_ble_eq_true rfl)) dX11_slice_78 ⟨Nat.le_of_ble_eq_true rfl, Nat.le_of_ble_eq_true rfl⟩) hS (fun q _ h => h) (fun q h => h) (fun u t H1 locs ht hvm _ hB hz1 hk1 hS => ?_)
        obtain ⟨f_53, hI, kc_55⟩ := hB
        rw [ht] at hI
        have k_56 : f_53 h0 = .inr (11, [.ref (gr g h0 0), .ref (gr g h0 1), .ref (gr g h0 2), .ref (gr g h0 3), .ref (gr g h0 4), .ref (gr g h0 5), .ref (gr g h0 6), .ref (gr g h0 7), .ref (gr g h0 8), .ref (gr g h0 9), .ref (gr g h0 10), .int x_5]) := Kp.at kc_55 i_h0 (by decide) k_4
        have k_57 : f_53 (gr g (gr g h0 3) 1) = .inl (gc g 4, 12, .inr (.inr (.inr (.inr q_24)))) := Kp.at kc_55 i_22 (by decide) k_23
        have kp_58 := Kp.call hk0 kc_55 (by decide)
        generalize H1 = H at hI hS ⊢
        refine W.widen (k := 0) (n := 0) (Nat.le_of_ble_eq_true rfl) (Nat.le_of_ble_eq_true rfl) ?_
        refine lv_aload_n hx hb dX11_slice_81 rfl (lv_at hl 1 rfl) ?_
        refine lv_iload_n hx hb dX11_slice_82 rfl (lv_at hl 4 rfl) ?_
        obtain ⟨x_60, x_61, x_62, x_63, x_64, x_65, x_66, x_67, x_68, x_69, x_70, x_71, x_72, x_73, x_74, x_75, k_59⟩ := op_8 hI i_27
        refine va_callv (va_runV (As := [.int p2]) (rest := []) ⟨hx, hb, hml, hown, hts⟩ (c_X8_takeSlice l dC dI g A hG f_53 a_26 p2 i_27) (cwV 1 hts (gi_V (fun w_ h0_ => ⟨List.mem_cons_of_mem _ (List.mem_append_right _ (List.mem_append_right _ (List.mem_append_right _ (List.mem_append_right _ (List.mem_append_right _ (List.mem_append_right _ (List.mem_append_right _ (List.mem_append_left _ h0_)))))))), (tb_c_X8_takeSlice w_ h0_).2⟩) (List.mem_cons_of_mem _ (List.mem_append_left _ (List.mem_of_getElem? (i := 15) rfl))) (List.mem_cons_of_mem _ (List.mem_append_left _ (List.mem_of_getElem? (i := 16) rfl))) (List.mem_cons_of_mem _ (List.mem_append_left _ (List.mem_of_getElem? (i := 17) rfl))) (List.mem_cons_of_mem _ (List.mem_append_left _ (List.mem_of_getElem? (i := 18) rfl)))) rfl rfl rfl (by decide +kernel) ⟨Nat.le_of_ble_eq_true rfl, Nat.le_of_ble_eq_true rfl⟩) ⟨fun a U g mk q => ⟨q.1, q.2.calling rfl rfl⟩, k_recv hK hI i_27.1 k_59 (ci := 8) rfl, fun U hU hW => ⟨rfl, kIn.of hI hK hE hS hU hW⟩⟩ rfl rfl hl.1 rfl (lv_room (Nat.le_of_ble_eq_true rfl)) dX11_slice_83 ⟨Nat.le_of_ble_eq_true rfl, Nat.le_of_ble_eq_true rfl⟩) hS (fun q _ h => h) (fun q h => h) (fun u t H1 locs ht hvm _ hB hz1 hk1 hS => ?_)
        obtain ⟨f_76, hI, kc_78⟩ := hB
        rw [ht] at hI
        have k_79 : f_76 h0 = .inr (11, [.ref (gr g h0 0), .ref (gr g h0 1), .ref (gr g h0 2), .ref (gr g h0 3), .ref (gr g h0 4), .ref (gr g h0 5), .ref (gr g h0 6), .ref (gr g h0 7), .ref (gr g h0 8), .ref (gr g h0 9), .ref (gr g h0 10), .int x_5]) := Kp.at kc_78 i_h0 (by decide) k_56
        have k_80 : f_76 (gr g (gr g h0 3) 1) = .inl (gc g 4, 12, .inr (.inr (.inr (.inr q_24)))) := Kp.at kc_78 i_22 (by decide) k_57
        have kp_81 := Kp.call kp_58 kc_78 (by decide)
        generalize H1 = H at hI hS ⊢
        refine W.widen (k := 0) (n := 0) (Nat.le_of_ble_eq_true rfl) (Nat.le_of_ble_eq_true rfl) ?_
        refine lv_aload_n hx hb dX11_slice_86 rfl (lv_at hl 2 rfl) ?_
        refine k_get (ci := 11) (v := .ref (gr g h0 10)) (C := RX11) (T := TX11) (N := 12) hx hb hts (fun _ h0_ => List.mem_cons_of_mem _ (List.mem_append_right _ (List.mem_append_right _ (List.mem_append_left _ h0_)))) hown hK hI i_h0.1 k_79 rfl 10 (by decide) (hts (.fieldLink RX11 72 "DeadlineShare" "refusals" "LDeadlineShare$Refusals;") (List.mem_cons_of_mem _ (List.mem_append_left _ (List.mem_of_getElem? (i := 19) rfl)))) (fun _ h9 => h9) rfl dX11_slice_87 ?_
        have i_83 := kw_11_10 hG i_h0
        refine lv_iload hx hb dX11_slice_90 (lv_at hl 0 rfl) ?_
        obtain ⟨x_85, k_84⟩ := op_4 hI i_83
        refine va_calli (va_runV (As := [.int x_31]) (rest := []) ⟨hx, hb, hml, hown, hts⟩ (c_X4_none l dC dI g A hG f_76 (gr g h0 10) x_31 i_83) (cwV 1 hts (gi_V (fun w_ h0_ => ⟨List.mem_cons_of_mem _ (List.mem_append_right _ (List.mem_append_right _ (List.mem_append_right _ (List.mem_append_right _ (List.mem_append_right _ (List.mem_append_right _ (List.mem_append_right _ (List.mem_append_right _ (List.mem_append_left _ h0_))))))))), (tb_c_X4_none w_ h0_).2⟩) (List.mem_cons_of_mem _ (List.mem_append_left _ (List.mem_of_getElem? (i := 20) rfl))) (List.mem_cons_of_mem _ (List.mem_append_left _ (List.mem_of_getElem? (i := 21) rfl))) (List.mem_cons_of_mem _ (List.mem_append_left _ (List.mem_of_getElem? (i := 22) rfl))) (List.mem_cons_of_mem _ (List.mem_append_left _ (List.mem_of_getElem? (i := 23) rfl)))) rfl rfl rfl (by decide +kernel) ⟨Nat.le_of_ble_eq_true rfl, Nat.le_of_ble_eq_true rfl⟩) ⟨fun a U g mk q => ⟨q.1, q.2.calling rfl rfl⟩, k_recv hK hI i_83.1 k_84 (ci := 4) rfl, fun U hU hW => ⟨rfl, kIn.of hI hK hE hS hU hW⟩⟩ rfl rfl hl.1 rfl (lv_room (Nat.le_of_ble_eq_true rfl)) dX11_slice_92 ⟨Nat.le_of_ble_eq_true rfl, Nat.le_of_ble_eq_true rfl⟩) hS (fun q _ h => h) (fun q h => h) (fun r_88 u t H1 locs ht hvm w_87 hB hz1 hk1 hS => ?_)
        obtain ⟨f_86, hI, kc_89⟩ := hB
        rw [ht] at hI
        have k_90 : f_86 h0 = .inr (11, [.ref (gr g h0 0), .ref (gr g h0 1), .ref (gr g h0 2), .ref (gr g h0 3), .ref (gr g h0 4), .ref (gr g h0 5), .ref (gr g h0 6), .ref (gr g h0 7), .ref (gr g h0 8), .ref (gr g h0 9), .ref (gr g h0 10), .int x_5]) := Kp.at kc_89 i_h0 (by decide) k_79
        have k_91 : f_86 (gr g (gr g h0 3) 1) = .inl (gc g 4, 12, .inr (.inr (.inr (.inr q_24)))) := Kp.at kc_89 i_22 (by decide) k_80
        have kp_92 := Kp.call kp_81 kc_89 (by decide)
        generalize H1 = H at hI hS ⊢
        refine W.widen (k := 0) (n := 0) (Nat.le_of_ble_eq_true rfl) (Nat.le_of_ble_eq_true rfl) ?_
        have w_87 : r_88.toInt = x_31.toInt := w_87
        exact W.iret (v := r_88) hx hb hr (fun t ht hW => ⟨⟨r_88, (), rfl, trivial, ⟨f_86, k_ret ht hI, kp_92⟩⟩, hS.F ht⟩) hS.2.2 dX11_slice_95
      · have c_45 := kc_eq rfl rfl c_45
        refine lv_aload_n hx hb dX11_slice_59 rfl (lv_at hl 2 rfl) ?_
        refine k_get (ci := 11) (v := .ref (gr g h0 10)) (C := RX11) (T := TX11) (N := 12) hx hb hts (fun _ h0_ => List.mem_cons_of_mem _ (List.mem_append_right _ (List.mem_append_right _ (List.mem_append_left _ h0_)))) hown hK hI i_h0.1 k_4 rfl 10 (by decide) (hts (.fieldLink RX11 72 "DeadlineShare" "refusals" "LDeadlineShare$Refusals;") (List.mem_cons_of_mem _ (List.mem_append_left _ (List.mem_of_getElem? (i := 19) rfl)))) (fun _ h9 => h9) rfl dX11_slice_60 ?_
        have i_94 := kw_11_10 hG i_h0
        refine lv_bipush (v := (-4)) hx hb dX11_slice_63 (by decide) ?_
        obtain ⟨x_96, k_95⟩ := op_4 hI i_94
        refine va_calli (va_runV (As := [.int (-4)]) (rest := []) ⟨hx, hb, hml, hown, hts⟩ (c_X4_add l dC dI g A hG f (gr g h0 10) (-4) i_94) (cwV 1 hts (gi_V (fun w_ h0_ => ⟨List.mem_cons_of_mem _ (List.mem_append_right _ (List.mem_append_right _ (List.mem_append_right _ (List.mem_append_right _ (List.mem_append_right _ (List.mem_append_right _ (List.mem_append_right _ (List.mem_append_right _ (List.mem_append_right _ (List.mem_append_left _ h0_)))))))))), (tb_c_X4_add w_ h0_).2⟩) (List.mem_cons_of_mem _ (List.mem_append_left _ (List.mem_of_getElem? (i := 24) rfl))) (List.mem_cons_of_mem _ (List.mem_append_left _ (List.mem_of_getElem? (i := 25) rfl))) (List.mem_cons_of_mem _ (List.mem_append_left _ (List.mem_of_getElem? (i := 26) rfl))) (List.mem_cons_of_mem _ (List.mem_append_left _ (List.mem_of_getElem? (i := 23) rfl)))) rfl rfl rfl (by decide +kernel) ⟨Nat.le_of_ble_eq_true rfl, Nat.le_of_ble_eq_true rfl⟩) ⟨fun a U g mk q => ⟨q.1, q.2.calling rfl rfl⟩, k_recv hK hI i_94.1 k_95 (ci := 4) rfl, fun U hU hW => ⟨rfl, kIn.of hI hK hE hS hU hW⟩⟩ rfl rfl hl.1 rfl (lv_room (Nat.le_of_ble_eq_true rfl)) dX11_slice_65 ⟨Nat.le_of_ble_eq_true rfl, Nat.le_of_ble_eq_true rfl⟩) hS (fun q _ h => h) (fun q h => h) (fun r_99 u t H1 locs ht hvm w_98 hB hz1 hk1 hS => ?_)
        obtain ⟨f_97, hI, kc_100⟩ := hB
        rw [ht] at hI
        have k_101 : f_97 h0 = .inr (11, [.ref (gr g h0 0), .ref (gr g h0 1), .ref (gr g h0 2), .ref (gr g h0 3), .ref (gr g h0 4), .ref (gr g h0 5), .ref (gr g h0 6), .ref (gr g h0 7), .ref (gr g h0 8), .ref (gr g h0 9), .ref (gr g h0 10), .int x_5]) := Kp.at kc_100 i_h0 (by decide) k_4
        have k_102 : f_97 (gr g h0 3) = .inr (6, [.ref (gr g (gr g h0 3) 0), .ref (gr g (gr g h0 3) 1), .ref (gr g (gr g h0 3) 2), .ref (gr g (gr g h0 3) 3), .ref (gr g (gr g h0 3) 4), .int x_9, .int x_10, .long x_11, .int x_12, .int x_13]) := Kp.at kc_100 i_7 (by decide) k_8
        have k_103 : f_97 (gr g (gr g h0 3) 1) = .inl (gc g 4, 12, .inr (.inr (.inr (.inr q_24)))) := Kp.at kc_100 i_22 (by decide) k_23
        have k_104 : f_97 a_26 = .inr (8, [.int x_29, .ref (gr g a_26 1), .int x_30, .int x_31, .int x_32, .long x_33, .int x_34, .ref (gr g a_26 7), .int x_35, .int x_36, .int x_37, .int x_38, .int x_39, .int x_40, .int x_41, .int x_42, .int x_43, .int x_44]) := Kp.at kc_100 i_27 (by decide) k_28
        have kp_105 := Kp.call hk0 kc_100 (by decide)
        generalize H1 = H at hI hS ⊢
        refine W.widen (k := 0) (n := 0) (Nat.le_of_ble_eq_true rfl) (Nat.le_of_ble_eq_true rfl) ?_
        have w_98 : r_99.toInt = (-4 : Int32).toInt := w_98
        exact W.iret (v := r_99) hx hb hr (fun t ht hW => ⟨⟨r_99, (), rfl, trivial, ⟨f_97, k_ret ht hI, kp_105⟩⟩, hS.F ht⟩) hS.2.2 dX11_slice_68
    · have c_18 := kc_eq rfl (by decide : Int32.toInt 0 = 0) c_18
      refine lv_aload_n hx hb dX11_slice_27 rfl (lv_at hl 0 rfl) ?_
      refine k_get (ci := 11) (v := .ref (gr g h0 10)) (C := RX11) (T := TX11) (N := 12) hx hb hts (fun _ h0_ => List.mem_cons_of_mem _ (List.mem_append_right _ (List.mem_append_right _ (List.mem_append_left _ h0_)))) hown hK hI i_h0.1 k_4 rfl 10 (by decide) (hts (.fieldLink RX11 72 "DeadlineShare" "refusals" "LDeadlineShare$Refusals;") (List.mem_cons_of_mem _ (List.mem_append_left _ (List.mem_of_getElem? (i := 19) rfl)))) (fun _ h9 => h9) rfl dX11_slice_28 ?_
      have i_107 := kw_11_10 hG i_h0
      refine lv_bipush (v := (-2)) hx hb dX11_slice_31 (by decide) ?_
      obtain ⟨x_109, k_108⟩ := op_4 hI i_107
      refine va_calli (va_runV (As := [.int (-2)]) (rest := []) ⟨hx, hb, hml, hown, hts⟩ (c_X4_add l dC dI g A hG f (gr g h0 10) (-2) i_107) (cwV 1 hts (gi_V (fun w_ h0_ => ⟨List.mem_cons_of_mem _ (List.mem_append_right _ (List.mem_append_right _ (List.mem_append_right _ (List.mem_append_right _ (List.mem_append_right _ (List.mem_append_right _ (List.mem_append_right _ (List.mem_append_right _ (List.mem_append_right _ (List.mem_append_left _ h0_)))))))))), (tb_c_X4_add w_ h0_).2⟩) (List.mem_cons_of_mem _ (List.mem_append_left _ (List.mem_of_getElem? (i := 24) rfl))) (List.mem_cons_of_mem _ (List.mem_append_left _ (List.mem_of_getElem? (i := 25) rfl))) (List.mem_cons_of_mem _ (List.mem_append_left _ (List.mem_of_getElem? (i := 26) rfl))) (List.mem_cons_of_mem _ (List.mem_append_left _ (List.mem_of_getElem? (i := 23) rfl)))) rfl rfl rfl (by decide +kernel) ⟨Nat.le_of_ble_eq_true rfl, Nat.le_of_ble_eq_true rfl⟩) ⟨fun a U g mk q => ⟨q.1, q.2.calling rfl rfl⟩, k_recv hK hI i_107.1 k_108 (ci := 4) rfl, fun U hU hW => ⟨rfl, kIn.of hI hK hE hS hU hW⟩⟩ rfl rfl hl.1 rfl (lv_room (Nat.le_of_ble_eq_true rfl)) dX11_slice_33 ⟨Nat.le_of_ble_eq_true rfl, Nat.le_of_ble_eq_true rfl⟩) hS (fun q _ h => h) (fun q h => h) (fun r_112 u t H1 locs ht hvm w_111 hB hz1 hk1 hS => ?_)
      obtain ⟨f_110, hI, kc_113⟩ := hB
      rw [ht] at hI
      have k_114 : f_110 h0 = .inr (11, [.ref (gr g h0 0), .ref (gr g h0 1), .ref (gr g h0 2), .ref (gr g h0 3), .ref (gr g h0 4), .ref (gr g h0 5), .ref (gr g h0 6), .ref (gr g h0 7), .ref (gr g h0 8), .ref (gr g h0 9), .ref (gr g h0 10), .int x_5]) := Kp.at kc_113 i_h0 (by decide) k_4
      have k_115 : f_110 (gr g h0 3) = .inr (6, [.ref (gr g (gr g h0 3) 0), .ref (gr g (gr g h0 3) 1), .ref (gr g (gr g h0 3) 2), .ref (gr g (gr g h0 3) 3), .ref (gr g (gr g h0 3) 4), .int x_9, .int x_10, .long x_11, .int x_12, .int x_13]) := Kp.at kc_113 i_7 (by decide) k_8
      have kp_116 := Kp.call hk0 kc_113 (by decide)
      generalize H1 = H at hI hS ⊢
      refine W.widen (k := 0) (n := 0) (Nat.le_of_ble_eq_true rfl) (Nat.le_of_ble_eq_true rfl) ?_
      have w_111 : r_112.toInt = (-2 : Int32).toInt := w_111
      exact W.iret (v := r_112) hx hb hr (fun t ht hW => ⟨⟨r_112, (), rfl, trivial, ⟨f_110, k_ret ht hI, kp_116⟩⟩, hS.F ht⟩) hS.2.2 dX11_slice_36
  · have c_3 := kc_eq rfl (by decide : Int32.toInt 0 = 0) c_3
    refine lv_aload_n hx hb dX11_slice_7 rfl (lv_at hl 0 rfl) ?_
    obtain ⟨x_118, k_117⟩ := op_11 hI i_h0
    refine k_get (ci := 11) (v := .ref (gr g h0 10)) (C := RX11) (T := TX11) (N := 12) hx hb hts (fun _ h0_ => List.mem_cons_of_mem _ (List.mem_append_right _ (List.mem_append_right _ (List.mem_append_left _ h0_)))) hown hK hI i_h0.1 k_117 rfl 10 (by decide) (hts (.fieldLink RX11 72 "DeadlineShare" "refusals" "LDeadlineShare$Refusals;") (List.mem_cons_of_mem _ (List.mem_append_left _ (List.mem_of_getElem? (i := 19) rfl)))) (fun _ h9 => h9) rfl dX11_slice_8 ?_
    have i_120 := kw_11_10 hG i_h0
    refine lv_iconst (v := (-1)) hx hb dX11_slice_11 (by decide) ?_
    obtain ⟨x_122, k_121⟩ := op_4 hI i_120
    refine va_calli (va_runV (As := [.int (-1)]) (rest := []) ⟨hx, hb, hml, hown, hts⟩ (c_X4_add l dC dI g A hG f (gr g h0 10) (-1) i_120) (cwV 1 hts (gi_V (fun w_ h0_ => ⟨List.mem_cons_of_mem _ (List.mem_append_right _ (List.mem_append_right _ (List.mem_append_right _ (List.mem_append_right _ (List.mem_append_right _ (List.mem_append_right _ (List.mem_append_right _ (List.mem_append_right _ (List.mem_append_right _ (List.mem_append_left _ h0_)))))))))), (tb_c_X4_add w_ h0_).2⟩) (List.mem_cons_of_mem _ (List.mem_append_left _ (List.mem_of_getElem? (i := 24) rfl))) (List.mem_cons_of_mem _ (List.mem_append_left _ (List.mem_of_getElem? (i := 25) rfl))) (List.mem_cons_of_mem _ (List.mem_append_left _ (List.mem_of_getElem? (i := 26) rfl))) (List.mem_cons_of_mem _ (List.mem_append_left _ (List.mem_of_getElem? (i := 23) rfl)))) rfl rfl rfl (by decide +kernel) ⟨Nat.le_of_ble_eq_true rfl, Nat.le_of_ble_eq_true rfl⟩) ⟨fun a U g mk q => ⟨q.1, q.2.calling rfl rfl⟩, k_recv hK hI i_120.1 k_121 (ci := 4) rfl, fun U hU hW => ⟨rfl, kIn.of hI hK hE hS hU hW⟩⟩ rfl rfl hl.1 rfl (lv_room (Nat.le_of_ble_eq_true rfl)) dX11_slice_12 ⟨Nat.le_of_ble_eq_true rfl, Nat.le_of_ble_eq_true rfl⟩) hS (fun q _ h => h) (fun q h => h) (fun r_125 u t H1 locs ht hvm w_124 hB hz1 hk1 hS => ?_)
    obtain ⟨f_123, hI, kc_126⟩ := hB
    rw [ht] at hI
    have k_127 : f_123 h0 = .inr (11, [.ref (gr g h0 0), .ref (gr g h0 1), .ref (gr g h0 2), .ref (gr g h0 3), .ref (gr g h0 4), .ref (gr g h0 5), .ref (gr g h0 6), .ref (gr g h0 7), .ref (gr g h0 8), .ref (gr g h0 9), .ref (gr g h0 10), .int x_118]) := Kp.at kc_126 i_h0 (by decide) k_117
    have kp_128 := Kp.call hk0 kc_126 (by decide)
    generalize H1 = H at hI hS ⊢
    refine W.widen (k := 0) (n := 0) (Nat.le_of_ble_eq_true rfl) (Nat.le_of_ble_eq_true rfl) ?_
    have w_124 : r_125.toInt = (-1 : Int32).toInt := w_124
    exact W.iret (v := r_125) hx hb hr (fun t ht hW => ⟨⟨r_125, (), rfl, trivial, ⟨f_123, k_ret ht hI, kp_128⟩⟩, hS.F ht⟩) hS.2.2 dX11_slice_15
theorem tw_584 : q_g (.selects RX6 yX6_sliceToBeServedIn yX6_sliceToBeServedIn) := ⟨(List.mem_append_right _ (List.mem_of_getElem? (i := 591) (by decide +kernel))), good_of_word (by decide +kernel)⟩
theorem tw_585 : q_g (.instanceMethod yX6_sliceToBeServedIn) := ⟨(List.mem_append_right _ (List.mem_of_getElem? (i := 590) (by decide +kernel))), good_of_word (by decide +kernel)⟩
theorem tw_586 : q_g (.methodLink RX11 188 yX6_sliceToBeServedIn) := ⟨(List.mem_append_right _ (List.mem_of_getElem? (i := 589) (by decide +kernel))), good_of_word (by decide +kernel)⟩
theorem tw_587 : q_g (.code yX11_wish cX11_wish 4 (some .int)) := ⟨(List.mem_append_right _ (List.mem_of_getElem? (i := 588) (by decide +kernel))), good_of_word (by decide +kernel)⟩
def ow_c_X11_wish : List Cond := [.fieldLink RX11 72 "DeadlineShare" "refusals" "LDeadlineShare$Refusals;", .methodLink RX11 84 yX4_add, .instanceMethod yX4_add, .selects RX4 yX4_add yX4_add, .initialized RX4, .fieldLink RX11 37 "DeadlineShare" "now" "LDeadlineShare$State;", .methodLink RX11 130 yX6_has, .instanceMethod yX6_has, .selects RX6 yX6_has yX6_has, .initialized RX6, .fieldLink RX11 65 "DeadlineShare" "history" "LDeadlineShare$History;", .methodLink RX11 122 yX1_keep, .instanceMethod yX1_keep, .selects RX1 yX1_keep yX1_keep, .initialized RX1, .fieldLink RX11 133 "DeadlineShare$State" "tasks" "[LDeadlineShare$Task;", .methodLink RX11 188 yX6_sliceToBeServedIn, .instanceMethod yX6_sliceToBeServedIn, .selects RX6 yX6_sliceToBeServedIn yX6_sliceToBeServedIn, .methodLink RX11 185 yX8_takeSlice, .instanceMethod yX8_takeSlice, .selects RX8 yX8_takeSlice yX8_takeSlice, .initialized RX8, .fieldLink RX11 182 "DeadlineShare$Task" "slice" "I", .methodLink RX11 95 yX4_none, .instanceMethod yX4_none, .selects RX4 yX4_none yX4_none]
def wq_c_X11_wish : List Cond := .code yX11_wish cX11_wish 4 (some .int) :: (ow_c_X11_wish ++ (u_ws RX11 TX11 12 ++ (wq_c_X4_add ++ (wq_c_X6_has ++ (wq_c_X1_keep ++ (u_ws RX6 TX6 10 ++ (wq_c_X6_sliceToBeServedIn ++ (wq_c_X8_takeSlice ++ (u_ws RX8 TX8 18 ++ (wq_c_X4_none ++ ([] : List Cond)))))))))))
theorem tb_c_X11_wish : ∀ w ∈ wq_c_X11_wish, q_g w := by
  unfold wq_c_X11_wish ow_c_X11_wish
  exact q_cons tw_587 (q_app (q_cons tw_522 (q_cons tw_518 (q_cons tw_517 (q_cons tw_516 (q_cons tw_273 (q_cons tw_558 (q_cons tw_571 (q_cons tw_74 (q_cons tw_73 (q_cons tw_47 (q_cons tw_556 (q_cons tw_555 (q_cons tw_554 (q_cons tw_553 (q_cons tw_552 (q_cons tw_570 (q_cons tw_586 (q_cons tw_585 (q_cons tw_584 (q_cons tw_581 (q_cons tw_408 (q_cons tw_407 (q_cons tw_8 (q_cons tw_582 (q_cons tw_521 (q_cons tw_520 (q_cons tw_519 q_nil))))))))))))))))))))))))))) (q_app tu_X11 (q_app tb_c_X4_add (q_app tb_c_X6_has (q_app tb_c_X1_keep (q_app tu_X6 (q_app tb_c_X6_sliceToBeServedIn (q_app tb_c_X8_takeSlice (q_app tu_X8 (q_app tb_c_X4_none q_nil))))))))))
set_option maxHeartbeats 4000000 in
set_option maxRecDepth 100000 in
theorem c_X11_wish (l : Launch) (dC : Nat → ClassId) (dI : Nat → Nat → Nat) (g : kG) (A : Nat → Prop) (hG : kWf g) (f : Nat → va_E) (h0 : Nat) (p1 : Int32) (p2 : Int32) (i_h0 : ik g 11 h0) : Met l yX11_wish wq_c_X11_wish ({ frames := 5, cells := 0, slots := 0, locals := 126 } : Room) (va_Pc [.ref h0, .int p1, .int p2] (fun U => kIn dC dI g A f U)) (va_Qi (fun (r : Int32) (_ : Unit) => True) (fun (_ : Unit) t => ∃ f1 : Nat → va_E, Iv dC dI g A f1 t.heap ∧ Kp g [1, 4, 5, 6, 8, 10, 23, 24, 27, 28] f f1) A) 0 0 A := by
  refine Met.ofW (cc := cX11_wish) (maxL := 4) (ret := (some .int)) (by decide) rfl ?_
  intro p e s m args below meth c s₁ B hml hv
  obtain ⟨rfl, hI, hK, hE⟩ := hv
  have hx := B.exec
  have hb := B.bytes
  have hr := B.returns
  have hts := atoms_spec (ws := wq_c_X11_wish) B.pre
  have hown : s.vm.findClass RX11 = some m.cls := findClass_of_methodNamed B.named
  have hlocks := B.notSynchronized
  have hS : va_S A s.heap s.heap [] := va_S.rf
  have hk0 : Kp g [1, 4, 5, 6, 8, 10, 23, 24, 27, 28] f f := Kp.rf
  have hl := lv_entry ([.ref h0, .int p1, .int p2]) (n := 4) (Nat.le_of_ble_eq_true rfl)
  rw [lg_entry_eq]
  generalize (lg_sl ([.ref h0, .int p1, .int p2]) ++ List.replicate (4 - (lg_sl ([.ref h0, .int p1, .int p2])).length) Slot.unset).toArray = ls at hl ⊢
  have hl : lv_has ls 4 [(0, .ref h0), (1, .int p1), (2, .int p2)] := hl
  refine lv_iload_n hx hb dX11_wish_0 rfl (lv_at hl 2 rfl) ?_
  refine lv_iconst (v := 1) hx hb dX11_wish_1 (by decide) ?_
  have J_11 : ∀ (H : Heap) (locs : List Loc) (ls : Array Slot), Iv dC dI g A f H → va_S A s.heap H locs → lv_has ls 4 [(0, .ref h0), (1, .int p1), (2, .int p2)] → W p l e (headSpec wq_c_X11_wish ({ frames := 5, cells := 0, slots := 0, locals := 126 } : Room)).room s m ([.ref h0, .int p1, .int p2].toArray) below meth c H locs 0 0 (MQ below (va_Qi (fun (r : Int32) (_ : Unit) => True) (fun (_ : Unit) t => ∃ f1 : Nat → va_E, Iv dC dI g A f1 t.heap ∧ Kp g [1, 4, 5, 6, 8, 10, 23, 24, 27, 28] f f1) A) ([.ref h0, .int p1, .int p2].toArray) s 0 0 A) (F0 m 11 ls []) := by
    intro H locs ls hI hS  hl
    refine lv_aload_n hx hb dX11_wish_11 rfl (lv_at hl 0 rfl) ?_
    obtain ⟨x_2, k_1⟩ := op_11 hI i_h0
    refine k_get (ci := 11) (v := .ref (gr g h0 10)) (C := RX11) (T := TX11) (N := 12) hx hb hts (fun _ h0_ => List.mem_cons_of_mem _ (List.mem_append_right _ (List.mem_append_left _ h0_))) hown hK hI i_h0.1 k_1 rfl 10 (by decide) (hts (.fieldLink RX11 72 "DeadlineShare" "refusals" "LDeadlineShare$Refusals;") (List.mem_cons_of_mem _ (List.mem_append_left _ (List.mem_of_getElem? (i := 0) rfl)))) (fun _ h9 => h9) rfl dX11_wish_12 ?_
    have i_4 := kw_11_10 hG i_h0
    refine lv_iconst (v := (-1)) hx hb dX11_wish_15 (by decide) ?_
    obtain ⟨x_6, k_5⟩ := op_4 hI i_4
    refine va_calli (va_runV (As := [.int (-1)]) (rest := []) ⟨hx, hb, hml, hown, hts⟩ (c_X4_add l dC dI g A hG f (gr g h0 10) (-1) i_4) (cwV 1 hts (gi_V (fun w_ h0_ => ⟨List.mem_cons_of_mem _ (List.mem_append_right _ (List.mem_append_right _ (List.mem_append_left _ h0_))), (tb_c_X4_add w_ h0_).2⟩) (List.mem_cons_of_mem _ (List.mem_append_left _ (List.mem_of_getElem? (i := 1) rfl))) (List.mem_cons_of_mem _ (List.mem_append_left _ (List.mem_of_getElem? (i := 2) rfl))) (List.mem_cons_of_mem _ (List.mem_append_left _ (List.mem_of_getElem? (i := 3) rfl))) (List.mem_cons_of_mem _ (List.mem_append_left _ (List.mem_of_getElem? (i := 4) rfl)))) rfl rfl rfl (by decide +kernel) ⟨Nat.le_of_ble_eq_true rfl, Nat.le_of_ble_eq_true rfl⟩) ⟨fun a U g mk q => ⟨q.1, q.2.calling rfl rfl⟩, k_recv hK hI i_4.1 k_5 (ci := 4) rfl, fun U hU hW => ⟨rfl, kIn.of hI hK hE hS hU hW⟩⟩ rfl rfl hl.1 rfl (lv_room (Nat.le_of_ble_eq_true rfl)) dX11_wish_16 ⟨Nat.le_of_ble_eq_true rfl, Nat.le_of_ble_eq_true rfl⟩) hS (fun q _ h => h) (fun q h => h) (fun r_9 u t H1 locs ht hvm w_8 hB hz1 hk1 hS => ?_)
    obtain ⟨f_7, hI, kc_10⟩ := hB
    rw [ht] at hI
    have k_11 : f_7 h0 = .inr (11, [.ref (gr g h0 0), .ref (gr g h0 1), .ref (gr g h0 2), .ref (gr g h0 3), .ref (gr g h0 4), .ref (gr g h0 5), .ref (gr g h0 6), .ref (gr g h0 7), .ref (gr g h0 8), .ref (gr g h0 9), .ref (gr g h0 10), .int x_2]) := Kp.at kc_10 i_h0 (by decide) k_1
    have kp_12 := Kp.call hk0 kc_10 (by decide)
    generalize H1 = H at hI hS ⊢
    refine W.widen (k := 0) (n := 0) (Nat.le_of_ble_eq_true rfl) (Nat.le_of_ble_eq_true rfl) ?_
    have w_8 : r_9.toInt = (-1 : Int32).toInt := w_8
    exact W.iret (v := r_9) hx hb hr (fun t ht hW => ⟨⟨r_9, (), rfl, trivial, ⟨f_7, k_ret ht hI, kp_12⟩⟩, hS.F ht⟩) hS.2.2 dX11_wish_19
  refine lv_icmp_lt (tgt := 11) hx hb dX11_wish_2 (by decide) (fun c_13 => ?_) (fun c_13 => ?_)
  · have c_13 := kc_lt rfl (by decide : Int32.toInt 1 = 1) c_13
    exact J_11  _ _ _ hI hS  (lv_sub hl [0, 1, 2] rfl)
  · have c_13 := kn_lt rfl (by decide : Int32.toInt 1 = 1) c_13
    refine lv_iload_n hx hb dX11_wish_5 rfl (lv_at hl 2 rfl) ?_
    refine lv_bipush (v := 99) hx hb dX11_wish_6 (by decide) ?_
    refine lv_icmp_le (tgt := 20) hx hb dX11_wish_8 (by decide) (fun c_14 => ?_) (fun c_14 => ?_)
    · have c_14 := kc_le rfl (by decide : Int32.toInt 99 = 99) c_14
      refine lv_aload_n hx hb dX11_wish_20 rfl (lv_at hl 0 rfl) ?_
      obtain ⟨x_16, k_15⟩ := op_11 hI i_h0
      refine k_get (ci := 11) (v := .ref (gr g h0 3)) (C := RX11) (T := TX11) (N := 12) hx hb hts (fun _ h0_ => List.mem_cons_of_mem _ (List.mem_append_right _ (List.mem_append_left _ h0_))) hown hK hI i_h0.1 k_15 rfl 3 (by decide) (hts (.fieldLink RX11 37 "DeadlineShare" "now" "LDeadlineShare$State;") (List.mem_cons_of_mem _ (List.mem_append_left _ (List.mem_of_getElem? (i := 5) rfl)))) (fun _ h9 => h9) rfl dX11_wish_21 ?_
      have i_18 := kw_11_3 hG i_h0
      refine lv_iload_n hx hb dX11_wish_24 rfl (lv_at hl 1 rfl) ?_
      obtain ⟨x_20, x_21, x_22, x_23, x_24, k_19, b_25, b_26⟩ := op_6 hI i_18
      refine va_calli (va_runV (As := [.int p1]) (rest := []) ⟨hx, hb, hml, hown, hts⟩ (c_X6_has l dC dI g A hG f (gr g h0 3) p1 i_18) (cwV 1 hts (gi_V (fun w_ h0_ => ⟨List.mem_cons_of_mem _ (List.mem_append_right _ (List.mem_append_right _ (List.mem_append_right _ (List.mem_append_left _ h0_)))), (tb_c_X6_has w_ h0_).2⟩) (List.mem_cons_of_mem _ (List.mem_append_left _ (List.mem_of_getElem? (i := 6) rfl))) (List.mem_cons_of_mem _ (List.mem_append_left _ (List.mem_of_getElem? (i := 7) rfl))) (List.mem_cons_of_mem _ (List.mem_append_left _ (List.mem_of_getElem? (i := 8) rfl))) (List.mem_cons_of_mem _ (List.mem_append_left _ (List.mem_of_getElem? (i := 9) rfl)))) rfl rfl rfl (by decide +kernel) ⟨Nat.le_of_ble_eq_true rfl, Nat.le_of_ble_eq_true rfl⟩) ⟨fun a U g mk q => ⟨q.1, q.2.calling rfl rfl⟩, k_recv hK hI i_18.1 k_19 (ci := 6) rfl, fun U hU hW => ⟨rfl, kIn.of hI hK hE hS hU hW⟩⟩ rfl rfl hl.1 rfl (lv_room (Nat.le_of_ble_eq_true rfl)) dX11_wish_25 ⟨Nat.le_of_ble_eq_true rfl, Nat.le_of_ble_eq_true rfl⟩) hS (fun q _ h => h) (fun q h => h) (fun r_28 u t H1 locs ht hvm w_27 hB hz1 hk1 hS => ?_)
      have hI : Iv dC dI g A f t.heap := hB
      rw [ht] at hI
      generalize H1 = H at hI hS ⊢
      refine W.widen (k := 0) (n := 0) (Nat.le_of_ble_eq_true rfl) (Nat.le_of_ble_eq_true rfl) ?_
      have w_27 : r_28.toInt = 0 ∨ (0 ≤ p1.toInt ∧ p1.toInt < 12) := w_27
      refine lv_if_ne (tgt := 41) hx hb dX11_wish_28 (by decide) (fun c_29 => ?_) (fun c_29 => ?_)
      · have c_29 := kn_eq rfl (by decide : Int32.toInt 0 = 0) c_29
        refine lv_aload_n hx hb dX11_wish_41 rfl (lv_at hl 0 rfl) ?_
        refine k_get (ci := 11) (v := .ref (gr g h0 9)) (C := RX11) (T := TX11) (N := 12) hx hb hts (fun _ h0_ => List.mem_cons_of_mem _ (List.mem_append_right _ (List.mem_append_left _ h0_))) hown hK hI i_h0.1 k_15 rfl 9 (by decide) (hts (.fieldLink RX11 65 "DeadlineShare" "history" "LDeadlineShare$History;") (List.mem_cons_of_mem _ (List.mem_append_left _ (List.mem_of_getElem? (i := 10) rfl)))) (fun _ h9 => h9) rfl dX11_wish_42 ?_
        have i_31 := kw_11_9 hG i_h0
        refine lv_aload_n hx hb dX11_wish_45 rfl (lv_at hl 0 rfl) ?_
        refine k_get (ci := 11) (v := .ref (gr g h0 3)) (C := RX11) (T := TX11) (N := 12) hx hb hts (fun _ h0_ => List.mem_cons_of_mem _ (List.mem_append_right _ (List.mem_append_left _ h0_))) hown hK hI i_h0.1 k_15 rfl 3 (by decide) (hts (.fieldLink RX11 37 "DeadlineShare" "now" "LDeadlineShare$State;") (List.mem_cons_of_mem _ (List.mem_append_left _ (List.mem_of_getElem? (i := 5) rfl)))) (fun _ h9 => h9) rfl dX11_wish_46 ?_
        refine lv_bipush (v := 7) hx hb dX11_wish_49 (by decide) ?_
        obtain ⟨x_35, x_36, k_34⟩ := op_1 hI i_31
        refine va_callv (va_runV (As := [.ref (gr g h0 3), .int 7]) (rest := []) ⟨hx, hb, hml, hown, hts⟩ (c_X1_keep l dC dI g A hG f (gr g h0 9) (gr g h0 3) 7 i_31 i_18) (cwV 2 hts (gi_V (fun w_ h0_ => ⟨List.mem_cons_of_mem _ (List.mem_append_right _ (List.mem_append_right _ (List.mem_append_right _ (List.mem_append_right _ (List.mem_append_left _ h0_))))), (tb_c_X1_keep w_ h0_).2⟩) (List.mem_cons_of_mem _ (List.mem_append_left _ (List.mem_of_getElem? (i := 11) rfl))) (List.mem_cons_of_mem _ (List.mem_append_left _ (List.mem_of_getElem? (i := 12) rfl))) (List.mem_cons_of_mem _ (List.mem_append_left _ (List.mem_of_getElem? (i := 13) rfl))) (List.mem_cons_of_mem _ (List.mem_append_left _ (List.mem_of_getElem? (i := 14) rfl)))) rfl rfl rfl (by decide +kernel) ⟨Nat.le_of_ble_eq_true rfl, Nat.le_of_ble_eq_true rfl⟩) ⟨fun a U g mk q => ⟨q.1, q.2.calling rfl rfl⟩, k_recv hK hI i_31.1 k_34 (ci := 1) rfl, fun U hU hW => ⟨rfl, kIn.of hI hK hE hS hU hW⟩⟩ rfl rfl hl.1 rfl (lv_room (Nat.le_of_ble_eq_true rfl)) dX11_wish_51 ⟨Nat.le_of_ble_eq_true rfl, Nat.le_of_ble_eq_true rfl⟩) hS (fun q _ h => h) (fun q h => h) (fun u t H1 locs ht hvm _ hB hz1 hk1 hS => ?_)
        obtain ⟨f_37, hI, kc_39⟩ := hB
        rw [ht] at hI
        have k_40 : f_37 h0 = .inr (11, [.ref (gr g h0 0), .ref (gr g h0 1), .ref (gr g h0 2), .ref (gr g h0 3), .ref (gr g h0 4), .ref (gr g h0 5), .ref (gr g h0 6), .ref (gr g h0 7), .ref (gr g h0 8), .ref (gr g h0 9), .ref (gr g h0 10), .int x_16]) := Kp.at kc_39 i_h0 (by decide) k_15
        have kp_41 := Kp.call hk0 kc_39 (by decide)
        generalize H1 = H at hI hS ⊢
        refine W.widen (k := 0) (n := 0) (Nat.le_of_ble_eq_true rfl) (Nat.le_of_ble_eq_true rfl) ?_
        refine lv_aload_n hx hb dX11_wish_54 rfl (lv_at hl 0 rfl) ?_
        refine k_get (ci := 11) (v := .ref (gr g h0 3)) (C := RX11) (T := TX11) (N := 12) hx hb hts (fun _ h0_ => List.mem_cons_of_mem _ (List.mem_append_right _ (List.mem_append_left _ h0_))) hown hK hI i_h0.1 k_40 rfl 3 (by decide) (hts (.fieldLink RX11 37 "DeadlineShare" "now" "LDeadlineShare$State;") (List.mem_cons_of_mem _ (List.mem_append_left _ (List.mem_of_getElem? (i := 5) rfl)))) (fun _ h9 => h9) rfl dX11_wish_55 ?_
        obtain ⟨x_45, x_46, x_47, x_48, x_49, k_44, b_50, b_51⟩ := op_6 hI i_18
        refine k_get (ci := 6) (v := .ref (gr g (gr g h0 3) 1)) (C := RX6) (T := TX6) (N := 10) hx hb hts (fun _ h0_ => List.mem_cons_of_mem _ (List.mem_append_right _ (List.mem_append_right _ (List.mem_append_right _ (List.mem_append_right _ (List.mem_append_right _ (List.mem_append_left _ h0_))))))) hown hK hI i_18.1 k_44 rfl 1 (by decide) (hts (.fieldLink RX11 133 "DeadlineShare$State" "tasks" "[LDeadlineShare$Task;") (List.mem_cons_of_mem _ (List.mem_append_left _ (List.mem_of_getElem? (i := 15) rfl)))) (fun _ h9 => h9) rfl dX11_wish_58 ?_
        have i_53 := kw_6_1 hG i_18
        refine lv_iload_n hx hb dX11_wish_61 rfl (lv_at hl 1 rfl) ?_
        obtain ⟨q_55, k_54, b_56⟩ := op_20 hI i_53
        refine k_aald hx hb hK hI i_53.1 4 k_54 rfl (vp_in_iff.mpr (by omega)) b_56 (fun _ hj => kw_20 hG i_53 hj) dX11_wish_62 (fun a_57 i_58 => ?_)
        refine lv_astore_n (lv' := [(3, .ref a_57), (0, .ref h0), (1, .int p1), (2, .int p2)]) hx hb dX11_wish_63 rfl hl (by decide) rfl (fun ls hl => ?_)
        refine lv_aload_n hx hb dX11_wish_64 rfl (lv_at hl 0 rfl) ?_
        refine lv_aload_n hx hb dX11_wish_65 rfl (lv_at hl 1 rfl) ?_
        refine k_get (ci := 11) (v := .ref (gr g h0 3)) (C := RX11) (T := TX11) (N := 12) hx hb hts (fun _ h0_ => List.mem_cons_of_mem _ (List.mem_append_right _ (List.mem_append_left _ h0_))) hown hK hI i_h0.1 k_40 rfl 3 (by decide) (hts (.fieldLink RX11 37 "DeadlineShare" "now" "LDeadlineShare$State;") (List.mem_cons_of_mem _ (List.mem_append_left _ (List.mem_of_getElem? (i := 5) rfl)))) (fun _ h9 => h9) rfl dX11_wish_66 ?_
        refine lv_aload_n hx hb dX11_wish_69 rfl (lv_at hl 0 rfl) ?_
        refine lv_iload_n hx hb dX11_wish_70 rfl (lv_at hl 3 rfl) ?_
        refine va_calli (va_runV (As := [.ref a_57, .int p2]) (rest := [.ref a_57]) ⟨hx, hb, hml, hown, hts⟩ (c_X6_sliceToBeServedIn l dC dI g A hG f_37 (gr g h0 3) a_57 p2 i_18 i_58) (cwV 2 hts (gi_V (fun w_ h0_ => ⟨List.mem_cons_of_mem _ (List.mem_append_right _ (List.mem_append_right _ (List.mem_append_right _ (List.mem_append_right _ (List.mem_append_right _ (List.mem_append_right _ (List.mem_append_left _ h0_))))))), (tb_c_X6_sliceToBeServedIn w_ h0_).2⟩) (List.mem_cons_of_mem _ (List.mem_append_left _ (List.mem_of_getElem? (i := 16) rfl))) (List.mem_cons_of_mem _ (List.mem_append_left _ (List.mem_of_getElem? (i := 17) rfl))) (List.mem_cons_of_mem _ (List.mem_append_left _ (List.mem_of_getElem? (i := 18) rfl))) (List.mem_cons_of_mem _ (List.mem_append_left _ (List.mem_of_getElem? (i := 9) rfl)))) rfl rfl rfl (by decide +kernel) ⟨Nat.le_of_ble_eq_true rfl, Nat.le_of_ble_eq_true rfl⟩) ⟨fun a U g mk q => ⟨q.1, q.2.calling rfl rfl⟩, k_recv hK hI i_18.1 k_44 (ci := 6) rfl, fun U hU hW => ⟨rfl, kIn.of hI hK hE hS hU hW⟩⟩ rfl rfl hl.1 rfl (lv_room (Nat.le_of_ble_eq_true rfl)) dX11_wish_71 ⟨Nat.le_of_ble_eq_true rfl, Nat.le_of_ble_eq_true rfl⟩) hS (fun q _ h => h) (fun q h => h) (fun r_62 u t H1 locs ht hvm w_61 hB hz1 hk1 hS => ?_)
        have hI : Iv dC dI g A f_37 t.heap := hB
        rw [ht] at hI
        generalize H1 = H at hI hS ⊢
        refine W.widen (k := 0) (n := 0) (Nat.le_of_ble_eq_true rfl) (Nat.le_of_ble_eq_true rfl) ?_
        obtain ⟨x_64, x_65, x_66, x_67, x_68, x_69, x_70, x_71, x_72, x_73, x_74, x_75, x_76, x_77, x_78, x_79, k_63⟩ := op_8 hI i_58
        refine va_callv (va_runV (As := [.int r_62]) (rest := []) ⟨hx, hb, hml, hown, hts⟩ (c_X8_takeSlice l dC dI g A hG f_37 a_57 r_62 i_58) (cwV 1 hts (gi_V (fun w_ h0_ => ⟨List.mem_cons_of_mem _ (List.mem_append_right _ (List.mem_append_right _ (List.mem_append_right _ (List.mem_append_right _ (List.mem_append_right _ (List.mem_append_right _ (List.mem_append_right _ (List.mem_append_left _ h0_)))))))), (tb_c_X8_takeSlice w_ h0_).2⟩) (List.mem_cons_of_mem _ (List.mem_append_left _ (List.mem_of_getElem? (i := 19) rfl))) (List.mem_cons_of_mem _ (List.mem_append_left _ (List.mem_of_getElem? (i := 20) rfl))) (List.mem_cons_of_mem _ (List.mem_append_left _ (List.mem_of_getElem? (i := 21) rfl))) (List.mem_cons_of_mem _ (List.mem_append_left _ (List.mem_of_getElem? (i := 22) rfl)))) rfl rfl rfl (by decide +kernel) ⟨Nat.le_of_ble_eq_true rfl, Nat.le_of_ble_eq_true rfl⟩) ⟨fun a U g mk q => ⟨q.1, q.2.calling rfl rfl⟩, k_recv hK hI i_58.1 k_63 (ci := 8) rfl, fun U hU hW => ⟨rfl, kIn.of hI hK hE hS hU hW⟩⟩ rfl rfl hl.1 rfl (lv_room (Nat.le_of_ble_eq_true rfl)) dX11_wish_74 ⟨Nat.le_of_ble_eq_true rfl, Nat.le_of_ble_eq_true rfl⟩) hS (fun q _ h => h) (fun q h => h) (fun u t H1 locs ht hvm _ hB hz1 hk1 hS => ?_)
        obtain ⟨f_80, hI, kc_82⟩ := hB
        rw [ht] at hI
        have k_83 : f_80 h0 = .inr (11, [.ref (gr g h0 0), .ref (gr g h0 1), .ref (gr g h0 2), .ref (gr g h0 3), .ref (gr g h0 4), .ref (gr g h0 5), .ref (gr g h0 6), .ref (gr g h0 7), .ref (gr g h0 8), .ref (gr g h0 9), .ref (gr g h0 10), .int x_16]) := Kp.at kc_82 i_h0 (by decide) k_40
        have k_84 : f_80 (gr g h0 3) = .inr (6, [.ref (gr g (gr g h0 3) 0), .ref (gr g (gr g h0 3) 1), .ref (gr g (gr g h0 3) 2), .ref (gr g (gr g h0 3) 3), .ref (gr g (gr g h0 3) 4), .int x_45, .int x_46, .long x_47, .int x_48, .int x_49]) := Kp.at kc_82 i_18 (by decide) k_44
        have k_85 : f_80 (gr g (gr g h0 3) 1) = .inl (gc g 4, 12, .inr (.inr (.inr (.inr q_55)))) := Kp.at kc_82 i_53 (by decide) k_54
        have kp_86 := Kp.call kp_41 kc_82 (by decide)
        generalize H1 = H at hI hS ⊢
        refine W.widen (k := 0) (n := 0) (Nat.le_of_ble_eq_true rfl) (Nat.le_of_ble_eq_true rfl) ?_
        refine lv_aload_n hx hb dX11_wish_77 rfl (lv_at hl 1 rfl) ?_
        refine k_get (ci := 11) (v := .ref (gr g h0 10)) (C := RX11) (T := TX11) (N := 12) hx hb hts (fun _ h0_ => List.mem_cons_of_mem _ (List.mem_append_right _ (List.mem_append_left _ h0_))) hown hK hI i_h0.1 k_83 rfl 10 (by decide) (hts (.fieldLink RX11 72 "DeadlineShare" "refusals" "LDeadlineShare$Refusals;") (List.mem_cons_of_mem _ (List.mem_append_left _ (List.mem_of_getElem? (i := 0) rfl)))) (fun _ h9 => h9) rfl dX11_wish_78 ?_
        have i_88 := kw_11_10 hG i_h0
        refine lv_aload_n hx hb dX11_wish_81 rfl (lv_at hl 0 rfl) ?_
        obtain ⟨x_90, x_91, x_92, x_93, x_94, x_95, x_96, x_97, x_98, x_99, x_100, x_101, x_102, x_103, x_104, x_105, k_89⟩ := op_8 hI i_58
        refine k_get (ci := 8) (v := .int x_92) (C := RX8) (T := TX8) (N := 18) hx hb hts (fun _ h0_ => List.mem_cons_of_mem _ (List.mem_append_right _ (List.mem_append_right _ (List.mem_append_right _ (List.mem_append_right _ (List.mem_append_right _ (List.mem_append_right _ (List.mem_append_right _ (List.mem_append_right _ (List.mem_append_left _ h0_)))))))))) hown hK hI i_58.1 k_89 rfl 3 (by decide) (hts (.fieldLink RX11 182 "DeadlineShare$Task" "slice" "I") (List.mem_cons_of_mem _ (List.mem_append_left _ (List.mem_of_getElem? (i := 23) rfl)))) (fun _ h9 => h9) rfl dX11_wish_82 ?_
        obtain ⟨x_107, k_106⟩ := op_4 hI i_88
        refine va_calli (va_runV (As := [.int x_92]) (rest := []) ⟨hx, hb, hml, hown, hts⟩ (c_X4_none l dC dI g A hG f_80 (gr g h0 10) x_92 i_88) (cwV 1 hts (gi_V (fun w_ h0_ => ⟨List.mem_cons_of_mem _ (List.mem_append_right _ (List.mem_append_right _ (List.mem_append_right _ (List.mem_append_right _ (List.mem_append_right _ (List.mem_append_right _ (List.mem_append_right _ (List.mem_append_right _ (List.mem_append_right _ (List.mem_append_left _ h0_)))))))))), (tb_c_X4_none w_ h0_).2⟩) (List.mem_cons_of_mem _ (List.mem_append_left _ (List.mem_of_getElem? (i := 24) rfl))) (List.mem_cons_of_mem _ (List.mem_append_left _ (List.mem_of_getElem? (i := 25) rfl))) (List.mem_cons_of_mem _ (List.mem_append_left _ (List.mem_of_getElem? (i := 26) rfl))) (List.mem_cons_of_mem _ (List.mem_append_left _ (List.mem_of_getElem? (i := 4) rfl)))) rfl rfl rfl (by decide +kernel) ⟨Nat.le_of_ble_eq_true rfl, Nat.le_of_ble_eq_true rfl⟩) ⟨fun a U g mk q => ⟨q.1, q.2.calling rfl rfl⟩, k_recv hK hI i_88.1 k_106 (ci := 4) rfl, fun U hU hW => ⟨rfl, kIn.of hI hK hE hS hU hW⟩⟩ rfl rfl hl.1 rfl (lv_room (Nat.le_of_ble_eq_true rfl)) dX11_wish_85 ⟨Nat.le_of_ble_eq_true rfl, Nat.le_of_ble_eq_true rfl⟩) hS (fun q _ h => h) (fun q h => h) (fun r_110 u t H1 locs ht hvm w_109 hB hz1 hk1 hS => ?_)
        obtain ⟨f_108, hI, kc_111⟩ := hB
        rw [ht] at hI
        have k_112 : f_108 h0 = .inr (11, [.ref (gr g h0 0), .ref (gr g h0 1), .ref (gr g h0 2), .ref (gr g h0 3), .ref (gr g h0 4), .ref (gr g h0 5), .ref (gr g h0 6), .ref (gr g h0 7), .ref (gr g h0 8), .ref (gr g h0 9), .ref (gr g h0 10), .int x_16]) := Kp.at kc_111 i_h0 (by decide) k_83
        have k_113 : f_108 (gr g h0 3) = .inr (6, [.ref (gr g (gr g h0 3) 0), .ref (gr g (gr g h0 3) 1), .ref (gr g (gr g h0 3) 2), .ref (gr g (gr g h0 3) 3), .ref (gr g (gr g h0 3) 4), .int x_45, .int x_46, .long x_47, .int x_48, .int x_49]) := Kp.at kc_111 i_18 (by decide) k_84
        have k_114 : f_108 (gr g (gr g h0 3) 1) = .inl (gc g 4, 12, .inr (.inr (.inr (.inr q_55)))) := Kp.at kc_111 i_53 (by decide) k_85
        have k_115 : f_108 a_57 = .inr (8, [.int x_90, .ref (gr g a_57 1), .int x_91, .int x_92, .int x_93, .long x_94, .int x_95, .ref (gr g a_57 7), .int x_96, .int x_97, .int x_98, .int x_99, .int x_100, .int x_101, .int x_102, .int x_103, .int x_104, .int x_105]) := Kp.at kc_111 i_58 (by decide) k_89
        have kp_116 := Kp.call kp_86 kc_111 (by decide)
        generalize H1 = H at hI hS ⊢
        refine W.widen (k := 0) (n := 0) (Nat.le_of_ble_eq_true rfl) (Nat.le_of_ble_eq_true rfl) ?_
        have w_109 : r_110.toInt = x_92.toInt := w_109
        exact W.iret (v := r_110) hx hb hr (fun t ht hW => ⟨⟨r_110, (), rfl, trivial, ⟨f_108, k_ret ht hI, kp_116⟩⟩, hS.F ht⟩) hS.2.2 dX11_wish_88
      · have c_29 := kc_eq rfl (by decide : Int32.toInt 0 = 0) c_29
        refine lv_aload_n hx hb dX11_wish_31 rfl (lv_at hl 0 rfl) ?_
        refine k_get (ci := 11) (v := .ref (gr g h0 10)) (C := RX11) (T := TX11) (N := 12) hx hb hts (fun _ h0_ => List.mem_cons_of_mem _ (List.mem_append_right _ (List.mem_append_left _ h0_))) hown hK hI i_h0.1 k_15 rfl 10 (by decide) (hts (.fieldLink RX11 72 "DeadlineShare" "refusals" "LDeadlineShare$Refusals;") (List.mem_cons_of_mem _ (List.mem_append_left _ (List.mem_of_getElem? (i := 0) rfl)))) (fun _ h9 => h9) rfl dX11_wish_32 ?_
        have i_118 := kw_11_10 hG i_h0
        refine lv_bipush (v := (-2)) hx hb dX11_wish_35 (by decide) ?_
        obtain ⟨x_120, k_119⟩ := op_4 hI i_118
        refine va_calli (va_runV (As := [.int (-2)]) (rest := []) ⟨hx, hb, hml, hown, hts⟩ (c_X4_add l dC dI g A hG f (gr g h0 10) (-2) i_118) (cwV 1 hts (gi_V (fun w_ h0_ => ⟨List.mem_cons_of_mem _ (List.mem_append_right _ (List.mem_append_right _ (List.mem_append_left _ h0_))), (tb_c_X4_add w_ h0_).2⟩) (List.mem_cons_of_mem _ (List.mem_append_left _ (List.mem_of_getElem? (i := 1) rfl))) (List.mem_cons_of_mem _ (List.mem_append_left _ (List.mem_of_getElem? (i := 2) rfl))) (List.mem_cons_of_mem _ (List.mem_append_left _ (List.mem_of_getElem? (i := 3) rfl))) (List.mem_cons_of_mem _ (List.mem_append_left _ (List.mem_of_getElem? (i := 4) rfl)))) rfl rfl rfl (by decide +kernel) ⟨Nat.le_of_ble_eq_true rfl, Nat.le_of_ble_eq_true rfl⟩) ⟨fun a U g mk q => ⟨q.1, q.2.calling rfl rfl⟩, k_recv hK hI i_118.1 k_119 (ci := 4) rfl, fun U hU hW => ⟨rfl, kIn.of hI hK hE hS hU hW⟩⟩ rfl rfl hl.1 rfl (lv_room (Nat.le_of_ble_eq_true rfl)) dX11_wish_37 ⟨Nat.le_of_ble_eq_true rfl, Nat.le_of_ble_eq_true rfl⟩) hS (fun q _ h => h) (fun q h => h) (fun r_123 u t H1 locs ht hvm w_122 hB hz1 hk1 hS => ?_)
        obtain ⟨f_121, hI, kc_124⟩ := hB
        rw [ht] at hI
        have k_125 : f_121 h0 = .inr (11, [.ref (gr g h0 0), .ref (gr g h0 1), .ref (gr g h0 2), .ref (gr g h0 3), .ref (gr g h0 4), .ref (gr g h0 5), .ref (gr g h0 6), .ref (gr g h0 7), .ref (gr g h0 8), .ref (gr g h0 9), .ref (gr g h0 10), .int x_16]) := Kp.at kc_124 i_h0 (by decide) k_15
        have k_126 : f_121 (gr g h0 3) = .inr (6, [.ref (gr g (gr g h0 3) 0), .ref (gr g (gr g h0 3) 1), .ref (gr g (gr g h0 3) 2), .ref (gr g (gr g h0 3) 3), .ref (gr g (gr g h0 3) 4), .int x_20, .int x_21, .long x_22, .int x_23, .int x_24]) := Kp.at kc_124 i_18 (by decide) k_19
        have kp_127 := Kp.call hk0 kc_124 (by decide)
        generalize H1 = H at hI hS ⊢
        refine W.widen (k := 0) (n := 0) (Nat.le_of_ble_eq_true rfl) (Nat.le_of_ble_eq_true rfl) ?_
        have w_122 : r_123.toInt = (-2 : Int32).toInt := w_122
        exact W.iret (v := r_123) hx hb hr (fun t ht hW => ⟨⟨r_123, (), rfl, trivial, ⟨f_121, k_ret ht hI, kp_127⟩⟩, hS.F ht⟩) hS.2.2 dX11_wish_40
    · have c_14 := kn_le rfl (by decide : Int32.toInt 99 = 99) c_14
      exact J_11  _ _ _ hI hS  (lv_sub hl [0, 1, 2] rfl)
theorem tw_588 : q_g (.selects RX6 yX6_giveUpRequest yX6_giveUpRequest) := ⟨(List.mem_append_right _ (List.mem_of_getElem? (i := 603) (by decide +kernel))), good_of_word (by decide +kernel)⟩
theorem tw_589 : q_g (.instanceMethod yX6_giveUpRequest) := ⟨(List.mem_append_right _ (List.mem_of_getElem? (i := 602) (by decide +kernel))), good_of_word (by decide +kernel)⟩
theorem tw_590 : q_g (.methodLink RX11 195 yX6_giveUpRequest) := ⟨(List.mem_append_right _ (List.mem_of_getElem? (i := 601) (by decide +kernel))), good_of_word (by decide +kernel)⟩
theorem tw_591 : q_g (.fieldLink RX11 192 "DeadlineShare$Task" "left" "I") := ⟨(List.mem_append_right _ (List.mem_of_getElem? (i := 167) (by decide +kernel))), good_of_word (by decide +kernel)⟩
theorem tw_592 : q_g (.code yX11_yields cX11_yields 4 (some .int)) := ⟨(List.mem_append_right _ (List.mem_of_getElem? (i := 600) (by decide +kernel))), good_of_word (by decide +kernel)⟩
def ow_c_X11_yields : List Cond := [.fieldLink RX11 37 "DeadlineShare" "now" "LDeadlineShare$State;", .methodLink RX11 130 yX6_has, .instanceMethod yX6_has, .selects RX6 yX6_has yX6_has, .initialized RX6, .fieldLink RX11 133 "DeadlineShare$State" "tasks" "[LDeadlineShare$Task;", .methodLink RX11 159 yX8_isOn, .instanceMethod yX8_isOn, .selects RX8 yX8_isOn yX8_isOn, .initialized RX8, .fieldLink RX11 65 "DeadlineShare" "history" "LDeadlineShare$History;", .methodLink RX11 122 yX1_keep, .instanceMethod yX1_keep, .selects RX1 yX1_keep yX1_keep, .initialized RX1, .fieldLink RX11 192 "DeadlineShare$Task" "left" "I", .methodLink RX11 195 yX6_giveUpRequest, .instanceMethod yX6_giveUpRequest, .selects RX6 yX6_giveUpRequest yX6_giveUpRequest, .fieldLink RX11 72 "DeadlineShare" "refusals" "LDeadlineShare$Refusals;", .methodLink RX11 95 yX4_none, .instanceMethod yX4_none, .selects RX4 yX4_none yX4_none, .initialized RX4, .methodLink RX11 84 yX4_add, .instanceMethod yX4_add, .selects RX4 yX4_add yX4_add]
def wq_c_X11_yields : List Cond := .code yX11_yields cX11_yields 4 (some .int) :: (ow_c_X11_yields ++ (u_ws RX11 TX11 12 ++ (wq_c_X6_has ++ (u_ws RX6 TX6 10 ++ (wq_c_X8_isOn ++ (wq_c_X1_keep ++ (u_ws RX8 TX8 18 ++ (wq_c_X6_giveUpRequest ++ (wq_c_X4_none ++ (wq_c_X4_add ++ ([] : List Cond)))))))))))
theorem tb_c_X11_yields : ∀ w ∈ wq_c_X11_yields, q_g w := by
  unfold wq_c_X11_yields ow_c_X11_yields
  exact q_cons tw_592 (q_app (q_cons tw_558 (q_cons tw_571 (q_cons tw_74 (q_cons tw_73 (q_cons tw_47 (q_cons tw_570 (q_cons tw_576 (q_cons tw_10 (q_cons tw_9 (q_cons tw_8 (q_cons tw_556 (q_cons tw_555 (q_cons tw_554 (q_cons tw_553 (q_cons tw_552 (q_cons tw_591 (q_cons tw_590 (q_cons tw_589 (q_cons tw_588 (q_cons tw_522 (q_cons tw_521 (q_cons tw_520 (q_cons tw_519 (q_cons tw_273 (q_cons tw_518 (q_cons tw_517 (q_cons tw_516 q_nil))))))))))))))))))))))))))) (q_app tu_X11 (q_app tb_c_X6_has (q_app tu_X6 (q_app tb_c_X8_isOn (q_app tb_c_X1_keep (q_app tu_X8 (q_app tb_c_X6_giveUpRequest (q_app tb_c_X4_none (q_app tb_c_X4_add q_nil))))))))))
set_option maxHeartbeats 4000000 in
set_option maxRecDepth 100000 in
theorem c_X11_yields (l : Launch) (dC : Nat → ClassId) (dI : Nat → Nat → Nat) (g : kG) (A : Nat → Prop) (hG : kWf g) (f : Nat → va_E) (h0 : Nat) (p1 : Int32) (i_h0 : ik g 11 h0) : Met l yX11_yields wq_c_X11_yields ({ frames := 5, cells := 0, slots := 0, locals := 126 } : Room) (va_Pc [.ref h0, .int p1] (fun U => kIn dC dI g A f U)) (va_Qi (fun (r : Int32) (_ : Unit) => True) (fun (_ : Unit) t => ∃ f1 : Nat → va_E, Iv dC dI g A f1 t.heap ∧ Kp g [1, 4, 5, 6, 8, 10, 23, 24, 27, 28] f f1) A) 0 0 A := by
  refine Met.ofW (cc := cX11_yields) (maxL := 4) (ret := (some .int)) (by decide) rfl ?_
  intro p e s m args below meth c s₁ B hml hv
  obtain ⟨rfl, hI, hK, hE⟩ := hv
  have hx := B.exec
  have hb := B.bytes
  have hr := B.returns
  have hts := atoms_spec (ws := wq_c_X11_yields) B.pre
  have hown : s.vm.findClass RX11 = some m.cls := findClass_of_methodNamed B.named
  have hlocks := B.notSynchronized
  have hS : va_S A s.heap s.heap [] := va_S.rf
  have hk0 : Kp g [1, 4, 5, 6, 8, 10, 23, 24, 27, 28] f f := Kp.rf
  have hl := lv_entry ([.ref h0, .int p1]) (n := 4) (Nat.le_of_ble_eq_true rfl)
  rw [lg_entry_eq]
  generalize (lg_sl ([.ref h0, .int p1]) ++ List.replicate (4 - (lg_sl ([.ref h0, .int p1])).length) Slot.unset).toArray = ls at hl ⊢
  have hl : lv_has ls 4 [(0, .ref h0), (1, .int p1)] := hl
  refine lv_aload_n hx hb dX11_yields_0 rfl (lv_at hl 0 rfl) ?_
  obtain ⟨x_2, k_1⟩ := op_11 hI i_h0
  refine k_get (ci := 11) (v := .ref (gr g h0 3)) (C := RX11) (T := TX11) (N := 12) hx hb hts (fun _ h0_ => List.mem_cons_of_mem _ (List.mem_append_right _ (List.mem_append_left _ h0_))) hown hK hI i_h0.1 k_1 rfl 3 (by decide) (hts (.fieldLink RX11 37 "DeadlineShare" "now" "LDeadlineShare$State;") (List.mem_cons_of_mem _ (List.mem_append_left _ (List.mem_of_getElem? (i := 0) rfl)))) (fun _ h9 => h9) rfl dX11_yields_1 ?_
  have i_4 := kw_11_3 hG i_h0
  refine lv_iload_n hx hb dX11_yields_4 rfl (lv_at hl 1 rfl) ?_
  obtain ⟨x_6, x_7, x_8, x_9, x_10, k_5, b_11, b_12⟩ := op_6 hI i_4
  refine va_calli (va_runV (As := [.int p1]) (rest := []) ⟨hx, hb, hml, hown, hts⟩ (c_X6_has l dC dI g A hG f (gr g h0 3) p1 i_4) (cwV 1 hts (gi_V (fun w_ h0_ => ⟨List.mem_cons_of_mem _ (List.mem_append_right _ (List.mem_append_right _ (List.mem_append_left _ h0_))), (tb_c_X6_has w_ h0_).2⟩) (List.mem_cons_of_mem _ (List.mem_append_left _ (List.mem_of_getElem? (i := 1) rfl))) (List.mem_cons_of_mem _ (List.mem_append_left _ (List.mem_of_getElem? (i := 2) rfl))) (List.mem_cons_of_mem _ (List.mem_append_left _ (List.mem_of_getElem? (i := 3) rfl))) (List.mem_cons_of_mem _ (List.mem_append_left _ (List.mem_of_getElem? (i := 4) rfl)))) rfl rfl rfl (by decide +kernel) ⟨Nat.le_of_ble_eq_true rfl, Nat.le_of_ble_eq_true rfl⟩) ⟨fun a U g mk q => ⟨q.1, q.2.calling rfl rfl⟩, k_recv hK hI i_4.1 k_5 (ci := 6) rfl, fun U hU hW => ⟨rfl, kIn.of hI hK hE hS hU hW⟩⟩ rfl rfl hl.1 rfl (lv_room (Nat.le_of_ble_eq_true rfl)) dX11_yields_5 ⟨Nat.le_of_ble_eq_true rfl, Nat.le_of_ble_eq_true rfl⟩) hS (fun q _ h => h) (fun q h => h) (fun r_14 u t H1 locs ht hvm w_13 hB hz1 hk1 hS => ?_)
  have hI : Iv dC dI g A f t.heap := hB
  rw [ht] at hI
  generalize H1 = H at hI hS ⊢
  refine W.widen (k := 0) (n := 0) (Nat.le_of_ble_eq_true rfl) (Nat.le_of_ble_eq_true rfl) ?_
  have w_13 : r_14.toInt = 0 ∨ (0 ≤ p1.toInt ∧ p1.toInt < 12) := w_13
  refine lv_if_ne (tgt := 21) hx hb dX11_yields_8 (by decide) (fun c_15 => ?_) (fun c_15 => ?_)
  · have c_15 := kn_eq rfl (by decide : Int32.toInt 0 = 0) c_15
    refine lv_aload_n hx hb dX11_yields_21 rfl (lv_at hl 0 rfl) ?_
    refine k_get (ci := 11) (v := .ref (gr g h0 3)) (C := RX11) (T := TX11) (N := 12) hx hb hts (fun _ h0_ => List.mem_cons_of_mem _ (List.mem_append_right _ (List.mem_append_left _ h0_))) hown hK hI i_h0.1 k_1 rfl 3 (by decide) (hts (.fieldLink RX11 37 "DeadlineShare" "now" "LDeadlineShare$State;") (List.mem_cons_of_mem _ (List.mem_append_left _ (List.mem_of_getElem? (i := 0) rfl)))) (fun _ h9 => h9) rfl dX11_yields_22 ?_
    refine k_get (ci := 6) (v := .ref (gr g (gr g h0 3) 1)) (C := RX6) (T := TX6) (N := 10) hx hb hts (fun _ h0_ => List.mem_cons_of_mem _ (List.mem_append_right _ (List.mem_append_right _ (List.mem_append_right _ (List.mem_append_left _ h0_))))) hown hK hI i_4.1 k_5 rfl 1 (by decide) (hts (.fieldLink RX11 133 "DeadlineShare$State" "tasks" "[LDeadlineShare$Task;") (List.mem_cons_of_mem _ (List.mem_append_left _ (List.mem_of_getElem? (i := 5) rfl)))) (fun _ h9 => h9) rfl dX11_yields_25 ?_
    have i_19 := kw_6_1 hG i_4
    refine lv_iload_n hx hb dX11_yields_28 rfl (lv_at hl 1 rfl) ?_
    obtain ⟨q_21, k_20, b_22⟩ := op_20 hI i_19
    refine k_aald hx hb hK hI i_19.1 4 k_20 rfl (vp_in_iff.mpr (by omega)) b_22 (fun _ hj => kw_20 hG i_19 hj) dX11_yields_29 (fun a_23 i_24 => ?_)
    refine lv_astore_n (lv' := [(2, .ref a_23), (0, .ref h0), (1, .int p1)]) hx hb dX11_yields_30 rfl hl (by decide) rfl (fun ls hl => ?_)
    refine lv_aload_n hx hb dX11_yields_31 rfl (lv_at hl 0 rfl) ?_
    obtain ⟨x_26, x_27, x_28, x_29, x_30, x_31, x_32, x_33, x_34, x_35, x_36, x_37, x_38, x_39, x_40, x_41, k_25⟩ := op_8 hI i_24
    refine va_calli (va_runV (As := []) (rest := []) ⟨hx, hb, hml, hown, hts⟩ (c_X8_isOn l dC dI g A hG f a_23 i_24) (cwV 0 hts (gi_V (fun w_ h0_ => ⟨List.mem_cons_of_mem _ (List.mem_append_right _ (List.mem_append_right _ (List.mem_append_right _ (List.mem_append_right _ (List.mem_append_left _ h0_))))), (tb_c_X8_isOn w_ h0_).2⟩) (List.mem_cons_of_mem _ (List.mem_append_left _ (List.mem_of_getElem? (i := 6) rfl))) (List.mem_cons_of_mem _ (List.mem_append_left _ (List.mem_of_getElem? (i := 7) rfl))) (List.mem_cons_of_mem _ (List.mem_append_left _ (List.mem_of_getElem? (i := 8) rfl))) (List.mem_cons_of_mem _ (List.mem_append_left _ (List.mem_of_getElem? (i := 9) rfl)))) rfl rfl rfl (by decide +kernel) ⟨Nat.le_of_ble_eq_true rfl, Nat.le_of_ble_eq_true rfl⟩) ⟨fun a U g mk q => ⟨q.1, q.2.calling rfl rfl⟩, k_recv hK hI i_24.1 k_25 (ci := 8) rfl, fun U hU hW => ⟨rfl, kIn.of hI hK hE hS hU hW⟩⟩ rfl rfl hl.1 rfl (lv_room (Nat.le_of_ble_eq_true rfl)) dX11_yields_32 ⟨Nat.le_of_ble_eq_true rfl, Nat.le_of_ble_eq_true rfl⟩) hS (fun q _ h => h) (fun q h => h) (fun r_43 u t H1 locs ht hvm w_42 hB hz1 hk1 hS => ?_)
    have hI : Iv dC dI g A f t.heap := hB
    rw [ht] at hI
    generalize H1 = H at hI hS ⊢
    refine W.widen (k := 0) (n := 0) (Nat.le_of_ble_eq_true rfl) (Nat.le_of_ble_eq_true rfl) ?_
    refine lv_if_ne (tgt := 48) hx hb dX11_yields_35 (by decide) (fun c_44 => ?_) (fun c_44 => ?_)
    · have c_44 := kn_eq rfl (by decide : Int32.toInt 0 = 0) c_44
      refine lv_aload_n hx hb dX11_yields_48 rfl (lv_at hl 1 rfl) ?_
      refine k_get (ci := 11) (v := .ref (gr g h0 9)) (C := RX11) (T := TX11) (N := 12) hx hb hts (fun _ h0_ => List.mem_cons_of_mem _ (List.mem_append_right _ (List.mem_append_left _ h0_))) hown hK hI i_h0.1 k_1 rfl 9 (by decide) (hts (.fieldLink RX11 65 "DeadlineShare" "history" "LDeadlineShare$History;") (List.mem_cons_of_mem _ (List.mem_append_left _ (List.mem_of_getElem? (i := 10) rfl)))) (fun _ h9 => h9) rfl dX11_yields_49 ?_
      have i_46 := kw_11_9 hG i_h0
      refine lv_aload_n hx hb dX11_yields_52 rfl (lv_at hl 1 rfl) ?_
      refine k_get (ci := 11) (v := .ref (gr g h0 3)) (C := RX11) (T := TX11) (N := 12) hx hb hts (fun _ h0_ => List.mem_cons_of_mem _ (List.mem_append_right _ (List.mem_append_left _ h0_))) hown hK hI i_h0.1 k_1 rfl 3 (by decide) (hts (.fieldLink RX11 37 "DeadlineShare" "now" "LDeadlineShare$State;") (List.mem_cons_of_mem _ (List.mem_append_left _ (List.mem_of_getElem? (i := 0) rfl)))) (fun _ h9 => h9) rfl dX11_yields_53 ?_
      refine lv_bipush (v := 8) hx hb dX11_yields_56 (by decide) ?_
      obtain ⟨x_50, x_51, k_49⟩ := op_1 hI i_46
      refine va_callv (va_runV (As := [.ref (gr g h0 3), .int 8]) (rest := []) ⟨hx, hb, hml, hown, hts⟩ (c_X1_keep l dC dI g A hG f (gr g h0 9) (gr g h0 3) 8 i_46 i_4) (cwV 2 hts (gi_V (fun w_ h0_ => ⟨List.mem_cons_of_mem _ (List.mem_append_right _ (List.mem_append_right _ (List.mem_append_right _ (List.mem_append_right _ (List.mem_append_right _ (List.mem_append_left _ h0_)))))), (tb_c_X1_keep w_ h0_).2⟩) (List.mem_cons_of_mem _ (List.mem_append_left _ (List.mem_of_getElem? (i := 11) rfl))) (List.mem_cons_of_mem _ (List.mem_append_left _ (List.mem_of_getElem? (i := 12) rfl))) (List.mem_cons_of_mem _ (List.mem_append_left _ (List.mem_of_getElem? (i := 13) rfl))) (List.mem_cons_of_mem _ (List.mem_append_left _ (List.mem_of_getElem? (i := 14) rfl)))) rfl rfl rfl (by decide +kernel) ⟨Nat.le_of_ble_eq_true rfl, Nat.le_of_ble_eq_true rfl⟩) ⟨fun a U g mk q => ⟨q.1, q.2.calling rfl rfl⟩, k_recv hK hI i_46.1 k_49 (ci := 1) rfl, fun U hU hW => ⟨rfl, kIn.of hI hK hE hS hU hW⟩⟩ rfl rfl hl.1 rfl (lv_room (Nat.le_of_ble_eq_true rfl)) dX11_yields_58 ⟨Nat.le_of_ble_eq_true rfl, Nat.le_of_ble_eq_true rfl⟩) hS (fun q _ h => h) (fun q h => h) (fun u t H1 locs ht hvm _ hB hz1 hk1 hS => ?_)
      obtain ⟨f_52, hI, kc_54⟩ := hB
      rw [ht] at hI
      have k_55 : f_52 h0 = .inr (11, [.ref (gr g h0 0), .ref (gr g h0 1), .ref (gr g h0 2), .ref (gr g h0 3), .ref (gr g h0 4), .ref (gr g h0 5), .ref (gr g h0 6), .ref (gr g h0 7), .ref (gr g h0 8), .ref (gr g h0 9), .ref (gr g h0 10), .int x_2]) := Kp.at kc_54 i_h0 (by decide) k_1
      have k_56 : f_52 (gr g (gr g h0 3) 1) = .inl (gc g 4, 12, .inr (.inr (.inr (.inr q_21)))) := Kp.at kc_54 i_19 (by decide) k_20
      have kp_57 := Kp.call hk0 kc_54 (by decide)
      generalize H1 = H at hI hS ⊢
      refine W.widen (k := 0) (n := 0) (Nat.le_of_ble_eq_true rfl) (Nat.le_of_ble_eq_true rfl) ?_
      refine lv_aload_n hx hb dX11_yields_61 rfl (lv_at hl 0 rfl) ?_
      obtain ⟨x_59, x_60, x_61, x_62, x_63, x_64, x_65, x_66, x_67, x_68, x_69, x_70, x_71, x_72, x_73, x_74, k_58⟩ := op_8 hI i_24
      refine k_get (ci := 8) (v := .int x_64) (C := RX8) (T := TX8) (N := 18) hx hb hts (fun _ h0_ => List.mem_cons_of_mem _ (List.mem_append_right _ (List.mem_append_right _ (List.mem_append_right _ (List.mem_append_right _ (List.mem_append_right _ (List.mem_append_right _ (List.mem_append_left _ h0_)))))))) hown hK hI i_24.1 k_58 rfl 6 (by decide) (hts (.fieldLink RX11 192 "DeadlineShare$Task" "left" "I") (List.mem_cons_of_mem _ (List.mem_append_left _ (List.mem_of_getElem? (i := 15) rfl)))) (fun _ h9 => h9) rfl dX11_yields_62 ?_
      refine lv_istore_n (lv' := [(3, .int x_64), (2, .ref a_23), (0, .ref h0), (1, .int p1)]) hx hb dX11_yields_65 rfl hl (by decide) rfl (fun ls hl => ?_)
      refine lv_aload_n hx hb dX11_yields_66 rfl (lv_at hl 2 rfl) ?_
      refine k_get (ci := 11) (v := .ref (gr g h0 3)) (C := RX11) (T := TX11) (N := 12) hx hb hts (fun _ h0_ => List.mem_cons_of_mem _ (List.mem_append_right _ (List.mem_append_left _ h0_))) hown hK hI i_h0.1 k_55 rfl 3 (by decide) (hts (.fieldLink RX11 37 "DeadlineShare" "now" "LDeadlineShare$State;") (List.mem_cons_of_mem _ (List.mem_append_left _ (List.mem_of_getElem? (i := 0) rfl)))) (fun _ h9 => h9) rfl dX11_yields_67 ?_
      refine lv_aload_n hx hb dX11_yields_70 rfl (lv_at hl 1 rfl) ?_
      obtain ⟨x_78, x_79, x_80, x_81, x_82, k_77, b_83, b_84⟩ := op_6 hI i_4
      refine va_callv (va_runV (As := [.ref a_23]) (rest := []) ⟨hx, hb, hml, hown, hts⟩ (c_X6_giveUpRequest l dC dI g A hG f_52 (gr g h0 3) a_23 i_4 i_24) (cwV 1 hts (gi_V (fun w_ h0_ => ⟨List.mem_cons_of_mem _ (List.mem_append_right _ (List.mem_append_right _ (List.mem_append_right _ (List.mem_append_right _ (List.mem_append_right _ (List.mem_append_right _ (List.mem_append_right _ (List.mem_append_left _ h0_)))))))), (tb_c_X6_giveUpRequest w_ h0_).2⟩) (List.mem_cons_of_mem _ (List.mem_append_left _ (List.mem_of_getElem? (i := 16) rfl))) (List.mem_cons_of_mem _ (List.mem_append_left _ (List.mem_of_getElem? (i := 17) rfl))) (List.mem_cons_of_mem _ (List.mem_append_left _ (List.mem_of_getElem? (i := 18) rfl))) (List.mem_cons_of_mem _ (List.mem_append_left _ (List.mem_of_getElem? (i := 4) rfl)))) rfl rfl rfl (by decide +kernel) ⟨Nat.le_of_ble_eq_true rfl, Nat.le_of_ble_eq_true rfl⟩) ⟨fun a U g mk q => ⟨q.1, q.2.calling rfl rfl⟩, k_recv hK hI i_4.1 k_77 (ci := 6) rfl, fun U hU hW => ⟨rfl, kIn.of hI hK hE hS hU hW⟩⟩ rfl rfl hl.1 rfl (lv_room (Nat.le_of_ble_eq_true rfl)) dX11_yields_71 ⟨Nat.le_of_ble_eq_true rfl, Nat.le_of_ble_eq_true rfl⟩) hS (fun q _ h => h) (fun q h => h) (fun u t H1 locs ht hvm _ hB hz1 hk1 hS => ?_)
      obtain ⟨f_85, hI, kc_87⟩ := hB
      rw [ht] at hI
      have k_88 : f_85 h0 = .inr (11, [.ref (gr g h0 0), .ref (gr g h0 1), .ref (gr g h0 2), .ref (gr g h0 3), .ref (gr g h0 4), .ref (gr g h0 5), .ref (gr g h0 6), .ref (gr g h0 7), .ref (gr g h0 8), .ref (gr g h0 9), .ref (gr g h0 10), .int x_2]) := Kp.at kc_87 i_h0 (by decide) k_55
      have k_89 : f_85 (gr g (gr g h0 3) 1) = .inl (gc g 4, 12, .inr (.inr (.inr (.inr q_21)))) := Kp.at kc_87 i_19 (by decide) k_56
      have kp_90 := Kp.call kp_57 kc_87 (by decide)
      generalize H1 = H at hI hS ⊢
      refine W.widen (k := 0) (n := 0) (Nat.le_of_ble_eq_true rfl) (Nat.le_of_ble_eq_true rfl) ?_
      refine lv_aload_n hx hb dX11_yields_74 rfl (lv_at hl 2 rfl) ?_
      refine k_get (ci := 11) (v := .ref (gr g h0 10)) (C := RX11) (T := TX11) (N := 12) hx hb hts (fun _ h0_ => List.mem_cons_of_mem _ (List.mem_append_right _ (List.mem_append_left _ h0_))) hown hK hI i_h0.1 k_88 rfl 10 (by decide) (hts (.fieldLink RX11 72 "DeadlineShare" "refusals" "LDeadlineShare$Refusals;") (List.mem_cons_of_mem _ (List.mem_append_left _ (List.mem_of_getElem? (i := 19) rfl)))) (fun _ h9 => h9) rfl dX11_yields_75 ?_
      have i_92 := kw_11_10 hG i_h0
      refine lv_iload_n hx hb dX11_yields_78 rfl (lv_at hl 0 rfl) ?_
      obtain ⟨x_94, k_93⟩ := op_4 hI i_92
      refine va_calli (va_runV (As := [.int x_64]) (rest := []) ⟨hx, hb, hml, hown, hts⟩ (c_X4_none l dC dI g A hG f_85 (gr g h0 10) x_64 i_92) (cwV 1 hts (gi_V (fun w_ h0_ => ⟨List.mem_cons_of_mem _ (List.mem_append_right _ (List.mem_append_right _ (List.mem_append_right _ (List.mem_append_right _ (List.mem_append_right _ (List.mem_append_right _ (List.mem_append_right _ (List.mem_append_right _ (List.mem_append_left _ h0_))))))))), (tb_c_X4_none w_ h0_).2⟩) (List.mem_cons_of_mem _ (List.mem_append_left _ (List.mem_of_getElem? (i := 20) rfl))) (List.mem_cons_of_mem _ (List.mem_append_left _ (List.mem_of_getElem? (i := 21) rfl))) (List.mem_cons_of_mem _ (List.mem_append_left _ (List.mem_of_getElem? (i := 22) rfl))) (List.mem_cons_of_mem _ (List.mem_append_left _ (List.mem_of_getElem? (i := 23) rfl)))) rfl rfl rfl (by decide +kernel) ⟨Nat.le_of_ble_eq_true rfl, Nat.le_of_ble_eq_true rfl⟩) ⟨fun a U g mk q => ⟨q.1, q.2.calling rfl rfl⟩, k_recv hK hI i_92.1 k_93 (ci := 4) rfl, fun U hU hW => ⟨rfl, kIn.of hI hK hE hS hU hW⟩⟩ rfl rfl hl.1 rfl (lv_room (Nat.le_of_ble_eq_true rfl)) dX11_yields_79 ⟨Nat.le_of_ble_eq_true rfl, Nat.le_of_ble_eq_true rfl⟩) hS (fun q _ h => h) (fun q h => h) (fun r_97 u t H1 locs ht hvm w_96 hB hz1 hk1 hS => ?_)
      obtain ⟨f_95, hI, kc_98⟩ := hB
      rw [ht] at hI
      have k_99 : f_95 h0 = .inr (11, [.ref (gr g h0 0), .ref (gr g h0 1), .ref (gr g h0 2), .ref (gr g h0 3), .ref (gr g h0 4), .ref (gr g h0 5), .ref (gr g h0 6), .ref (gr g h0 7), .ref (gr g h0 8), .ref (gr g h0 9), .ref (gr g h0 10), .int x_2]) := Kp.at kc_98 i_h0 (by decide) k_88
      have k_100 : f_95 (gr g (gr g h0 3) 1) = .inl (gc g 4, 12, .inr (.inr (.inr (.inr q_21)))) := Kp.at kc_98 i_19 (by decide) k_89
      have kp_101 := Kp.call kp_90 kc_98 (by decide)
      generalize H1 = H at hI hS ⊢
      refine W.widen (k := 0) (n := 0) (Nat.le_of_ble_eq_true rfl) (Nat.le_of_ble_eq_true rfl) ?_
      have w_96 : r_97.toInt = x_64.toInt := w_96
      exact W.iret (v := r_97) hx hb hr (fun t ht hW => ⟨⟨r_97, (), rfl, trivial, ⟨f_95, k_ret ht hI, kp_101⟩⟩, hS.F ht⟩) hS.2.2 dX11_yields_82
    · have c_44 := kc_eq rfl (by decide : Int32.toInt 0 = 0) c_44
      refine lv_aload_n hx hb dX11_yields_38 rfl (lv_at hl 1 rfl) ?_
      refine k_get (ci := 11) (v := .ref (gr g h0 10)) (C := RX11) (T := TX11) (N := 12) hx hb hts (fun _ h0_ => List.mem_cons_of_mem _ (List.mem_append_right _ (List.mem_append_left _ h0_))) hown hK hI i_h0.1 k_1 rfl 10 (by decide) (hts (.fieldLink RX11 72 "DeadlineShare" "refusals" "LDeadlineShare$Refusals;") (List.mem_cons_of_mem _ (List.mem_append_left _ (List.mem_of_getElem? (i := 19) rfl)))) (fun _ h9 => h9) rfl dX11_yields_39 ?_
      have i_103 := kw_11_10 hG i_h0
      refine lv_bipush (v := (-4)) hx hb dX11_yields_42 (by decide) ?_
      obtain ⟨x_105, k_104⟩ := op_4 hI i_103
      refine va_calli (va_runV (As := [.int (-4)]) (rest := []) ⟨hx, hb, hml, hown, hts⟩ (c_X4_add l dC dI g A hG f (gr g h0 10) (-4) i_103) (cwV 1 hts (gi_V (fun w_ h0_ => ⟨List.mem_cons_of_mem _ (List.mem_append_right _ (List.mem_append_right _ (List.mem_append_right _ (List.mem_append_right _ (List.mem_append_right _ (List.mem_append_right _ (List.mem_append_right _ (List.mem_append_right _ (List.mem_append_right _ (List.mem_append_left _ h0_)))))))))), (tb_c_X4_add w_ h0_).2⟩) (List.mem_cons_of_mem _ (List.mem_append_left _ (List.mem_of_getElem? (i := 24) rfl))) (List.mem_cons_of_mem _ (List.mem_append_left _ (List.mem_of_getElem? (i := 25) rfl))) (List.mem_cons_of_mem _ (List.mem_append_left _ (List.mem_of_getElem? (i := 26) rfl))) (List.mem_cons_of_mem _ (List.mem_append_left _ (List.mem_of_getElem? (i := 23) rfl)))) rfl rfl rfl (by decide +kernel) ⟨Nat.le_of_ble_eq_true rfl, Nat.le_of_ble_eq_true rfl⟩) ⟨fun a U g mk q => ⟨q.1, q.2.calling rfl rfl⟩, k_recv hK hI i_103.1 k_104 (ci := 4) rfl, fun U hU hW => ⟨rfl, kIn.of hI hK hE hS hU hW⟩⟩ rfl rfl hl.1 rfl (lv_room (Nat.le_of_ble_eq_true rfl)) dX11_yields_44 ⟨Nat.le_of_ble_eq_true rfl, Nat.le_of_ble_eq_true rfl⟩) hS (fun q _ h => h) (fun q h => h) (fun r_108 u t H1 locs ht hvm w_107 hB hz1 hk1 hS => ?_)
      obtain ⟨f_106, hI, kc_109⟩ := hB
      rw [ht] at hI
      have k_110 : f_106 h0 = .inr (11, [.ref (gr g h0 0), .ref (gr g h0 1), .ref (gr g h0 2), .ref (gr g h0 3), .ref (gr g h0 4), .ref (gr g h0 5), .ref (gr g h0 6), .ref (gr g h0 7), .ref (gr g h0 8), .ref (gr g h0 9), .ref (gr g h0 10), .int x_2]) := Kp.at kc_109 i_h0 (by decide) k_1
      have k_111 : f_106 (gr g h0 3) = .inr (6, [.ref (gr g (gr g h0 3) 0), .ref (gr g (gr g h0 3) 1), .ref (gr g (gr g h0 3) 2), .ref (gr g (gr g h0 3) 3), .ref (gr g (gr g h0 3) 4), .int x_6, .int x_7, .long x_8, .int x_9, .int x_10]) := Kp.at kc_109 i_4 (by decide) k_5
      have k_112 : f_106 (gr g (gr g h0 3) 1) = .inl (gc g 4, 12, .inr (.inr (.inr (.inr q_21)))) := Kp.at kc_109 i_19 (by decide) k_20
      have k_113 : f_106 a_23 = .inr (8, [.int x_26, .ref (gr g a_23 1), .int x_27, .int x_28, .int x_29, .long x_30, .int x_31, .ref (gr g a_23 7), .int x_32, .int x_33, .int x_34, .int x_35, .int x_36, .int x_37, .int x_38, .int x_39, .int x_40, .int x_41]) := Kp.at kc_109 i_24 (by decide) k_25
      have kp_114 := Kp.call hk0 kc_109 (by decide)
      generalize H1 = H at hI hS ⊢
      refine W.widen (k := 0) (n := 0) (Nat.le_of_ble_eq_true rfl) (Nat.le_of_ble_eq_true rfl) ?_
      have w_107 : r_108.toInt = (-4 : Int32).toInt := w_107
      exact W.iret (v := r_108) hx hb hr (fun t ht hW => ⟨⟨r_108, (), rfl, trivial, ⟨f_106, k_ret ht hI, kp_114⟩⟩, hS.F ht⟩) hS.2.2 dX11_yields_47
  · have c_15 := kc_eq rfl (by decide : Int32.toInt 0 = 0) c_15
    refine lv_aload_n hx hb dX11_yields_11 rfl (lv_at hl 0 rfl) ?_
    refine k_get (ci := 11) (v := .ref (gr g h0 10)) (C := RX11) (T := TX11) (N := 12) hx hb hts (fun _ h0_ => List.mem_cons_of_mem _ (List.mem_append_right _ (List.mem_append_left _ h0_))) hown hK hI i_h0.1 k_1 rfl 10 (by decide) (hts (.fieldLink RX11 72 "DeadlineShare" "refusals" "LDeadlineShare$Refusals;") (List.mem_cons_of_mem _ (List.mem_append_left _ (List.mem_of_getElem? (i := 19) rfl)))) (fun _ h9 => h9) rfl dX11_yields_12 ?_
    have i_116 := kw_11_10 hG i_h0
    refine lv_bipush (v := (-2)) hx hb dX11_yields_15 (by decide) ?_
    obtain ⟨x_118, k_117⟩ := op_4 hI i_116
    refine va_calli (va_runV (As := [.int (-2)]) (rest := []) ⟨hx, hb, hml, hown, hts⟩ (c_X4_add l dC dI g A hG f (gr g h0 10) (-2) i_116) (cwV 1 hts (gi_V (fun w_ h0_ => ⟨List.mem_cons_of_mem _ (List.mem_append_right _ (List.mem_append_right _ (List.mem_append_right _ (List.mem_append_right _ (List.mem_append_right _ (List.mem_append_right _ (List.mem_append_right _ (List.mem_append_right _ (List.mem_append_right _ (List.mem_append_left _ h0_)))))))))), (tb_c_X4_add w_ h0_).2⟩) (List.mem_cons_of_mem _ (List.mem_append_left _ (List.mem_of_getElem? (i := 24) rfl))) (List.mem_cons_of_mem _ (List.mem_append_left _ (List.mem_of_getElem? (i := 25) rfl))) (List.mem_cons_of_mem _ (List.mem_append_left _ (List.mem_of_getElem? (i := 26) rfl))) (List.mem_cons_of_mem _ (List.mem_append_left _ (List.mem_of_getElem? (i := 23) rfl)))) rfl rfl rfl (by decide +kernel) ⟨Nat.le_of_ble_eq_true rfl, Nat.le_of_ble_eq_true rfl⟩) ⟨fun a U g mk q => ⟨q.1, q.2.calling rfl rfl⟩, k_recv hK hI i_116.1 k_117 (ci := 4) rfl, fun U hU hW => ⟨rfl, kIn.of hI hK hE hS hU hW⟩⟩ rfl rfl hl.1 rfl (lv_room (Nat.le_of_ble_eq_true rfl)) dX11_yields_17 ⟨Nat.le_of_ble_eq_true rfl, Nat.le_of_ble_eq_true rfl⟩) hS (fun q _ h => h) (fun q h => h) (fun r_121 u t H1 locs ht hvm w_120 hB hz1 hk1 hS => ?_)
    obtain ⟨f_119, hI, kc_122⟩ := hB
    rw [ht] at hI
    have k_123 : f_119 h0 = .inr (11, [.ref (gr g h0 0), .ref (gr g h0 1), .ref (gr g h0 2), .ref (gr g h0 3), .ref (gr g h0 4), .ref (gr g h0 5), .ref (gr g h0 6), .ref (gr g h0 7), .ref (gr g h0 8), .ref (gr g h0 9), .ref (gr g h0 10), .int x_2]) := Kp.at kc_122 i_h0 (by decide) k_1
    have k_124 : f_119 (gr g h0 3) = .inr (6, [.ref (gr g (gr g h0 3) 0), .ref (gr g (gr g h0 3) 1), .ref (gr g (gr g h0 3) 2), .ref (gr g (gr g h0 3) 3), .ref (gr g (gr g h0 3) 4), .int x_6, .int x_7, .long x_8, .int x_9, .int x_10]) := Kp.at kc_122 i_4 (by decide) k_5
    have kp_125 := Kp.call hk0 kc_122 (by decide)
    generalize H1 = H at hI hS ⊢
    refine W.widen (k := 0) (n := 0) (Nat.le_of_ble_eq_true rfl) (Nat.le_of_ble_eq_true rfl) ?_
    have w_120 : r_121.toInt = (-2 : Int32).toInt := w_120
    exact W.iret (v := r_121) hx hb hr (fun t ht hW => ⟨⟨r_121, (), rfl, trivial, ⟨f_119, k_ret ht hI, kp_125⟩⟩, hS.F ht⟩) hS.2.2 dX11_yields_20
theorem tw_593 : q_g (.methodLink RX11 201 yX8_takeQuota) := ⟨(List.mem_append_right _ (List.mem_of_getElem? (i := 617) (by decide +kernel))), good_of_word (by decide +kernel)⟩
theorem tw_594 : q_g (.fieldLink RX11 198 "DeadlineShare$Task" "budget" "I") := ⟨(List.mem_append_right _ (List.mem_of_getElem? (i := 187) (by decide +kernel))), good_of_word (by decide +kernel)⟩
theorem tw_595 : q_g (.code yX11_quota cX11_quota 6 (some .int)) := ⟨(List.mem_append_right _ (List.mem_of_getElem? (i := 616) (by decide +kernel))), good_of_word (by decide +kernel)⟩
def ow_c_X11_quota : List Cond := [.fieldLink RX11 72 "DeadlineShare" "refusals" "LDeadlineShare$Refusals;", .methodLink RX11 84 yX4_add, .instanceMethod yX4_add, .selects RX4 yX4_add yX4_add, .initialized RX4, .fieldLink RX11 37 "DeadlineShare" "now" "LDeadlineShare$State;", .methodLink RX11 130 yX6_has, .instanceMethod yX6_has, .selects RX6 yX6_has yX6_has, .initialized RX6, .fieldLink RX11 65 "DeadlineShare" "history" "LDeadlineShare$History;", .methodLink RX11 122 yX1_keep, .instanceMethod yX1_keep, .selects RX1 yX1_keep yX1_keep, .initialized RX1, .fieldLink RX11 133 "DeadlineShare$State" "tasks" "[LDeadlineShare$Task;", .fieldLink RX11 198 "DeadlineShare$Task" "budget" "I", .methodLink RX11 201 yX8_takeQuota, .instanceMethod yX8_takeQuota, .selects RX8 yX8_takeQuota yX8_takeQuota, .initialized RX8, .methodLink RX11 95 yX4_none, .instanceMethod yX4_none, .selects RX4 yX4_none yX4_none]
def wq_c_X11_quota : List Cond := .code yX11_quota cX11_quota 6 (some .int) :: (ow_c_X11_quota ++ (u_ws RX11 TX11 12 ++ (wq_c_X4_add ++ (wq_c_X6_has ++ (wq_c_X1_keep ++ (u_ws RX6 TX6 10 ++ (u_ws RX8 TX8 18 ++ (wq_c_X8_takeQuota ++ (wq_c_X4_none ++ ([] : List Cond))))))))))
theorem tb_c_X11_quota : ∀ w ∈ wq_c_X11_quota, q_g w := by
  unfold wq_c_X11_quota ow_c_X11_quota
  exact q_cons tw_595 (q_app (q_cons tw_522 (q_cons tw_518 (q_cons tw_517 (q_cons tw_516 (q_cons tw_273 (q_cons tw_558 (q_cons tw_571 (q_cons tw_74 (q_cons tw_73 (q_cons tw_47 (q_cons tw_556 (q_cons tw_555 (q_cons tw_554 (q_cons tw_553 (q_cons tw_552 (q_cons tw_570 (q_cons tw_594 (q_cons tw_593 (q_cons tw_313 (q_cons tw_312 (q_cons tw_8 (q_cons tw_521 (q_cons tw_520 (q_cons tw_519 q_nil)))))))))))))))))))))))) (q_app tu_X11 (q_app tb_c_X4_add (q_app tb_c_X6_has (q_app tb_c_X1_keep (q_app tu_X6 (q_app tu_X8 (q_app tb_c_X8_takeQuota (q_app tb_c_X4_none q_nil)))))))))
set_option maxHeartbeats 4000000 in
set_option maxRecDepth 100000 in
theorem c_X11_quota (l : Launch) (dC : Nat → ClassId) (dI : Nat → Nat → Nat) (g : kG) (A : Nat → Prop) (hG : kWf g) (f : Nat → va_E) (h0 : Nat) (p1 : Int32) (p2 : Int32) (p3 : Int32) (i_h0 : ik g 11 h0) : Met l yX11_quota wq_c_X11_quota ({ frames := 5, cells := 0, slots := 0, locals := 126 } : Room) (va_Pc [.ref h0, .int p1, .int p2, .int p3] (fun U => kIn dC dI g A f U)) (va_Qi (fun (r : Int32) (_ : Unit) => True) (fun (_ : Unit) t => ∃ f1 : Nat → va_E, Iv dC dI g A f1 t.heap ∧ Kp g [1, 4, 5, 6, 8, 10, 23, 24, 27, 28] f f1) A) 0 0 A := by
  refine Met.ofW (cc := cX11_quota) (maxL := 6) (ret := (some .int)) (by decide) rfl ?_
  intro p e s m args below meth c s₁ B hml hv
  obtain ⟨rfl, hI, hK, hE⟩ := hv
  have hx := B.exec
  have hb := B.bytes
  have hr := B.returns
  have hts := atoms_spec (ws := wq_c_X11_quota) B.pre
  have hown : s.vm.findClass RX11 = some m.cls := findClass_of_methodNamed B.named
  have hlocks := B.notSynchronized
  have hS : va_S A s.heap s.heap [] := va_S.rf
  have hk0 : Kp g [1, 4, 5, 6, 8, 10, 23, 24, 27, 28] f f := Kp.rf
  have hl := lv_entry ([.ref h0, .int p1, .int p2, .int p3]) (n := 6) (Nat.le_of_ble_eq_true rfl)
  rw [lg_entry_eq]
  generalize (lg_sl ([.ref h0, .int p1, .int p2, .int p3]) ++ List.replicate (6 - (lg_sl ([.ref h0, .int p1, .int p2, .int p3])).length) Slot.unset).toArray = ls at hl ⊢
  have hl : lv_has ls 6 [(0, .ref h0), (1, .int p1), (2, .int p2), (3, .int p3)] := hl
  refine lv_iload_n hx hb dX11_quota_0 rfl (lv_at hl 2 rfl) ?_
  have J_25 : ∀ (H : Heap) (locs : List Loc) (ls : Array Slot), Iv dC dI g A f H → va_S A s.heap H locs → lv_has ls 6 [(0, .ref h0), (1, .int p1), (2, .int p2), (3, .int p3)] → W p l e (headSpec wq_c_X11_quota ({ frames := 5, cells := 0, slots := 0, locals := 126 } : Room)).room s m ([.ref h0, .int p1, .int p2, .int p3].toArray) below meth c H locs 0 0 (MQ below (va_Qi (fun (r : Int32) (_ : Unit) => True) (fun (_ : Unit) t => ∃ f1 : Nat → va_E, Iv dC dI g A f1 t.heap ∧ Kp g [1, 4, 5, 6, 8, 10, 23, 24, 27, 28] f f1) A) ([.ref h0, .int p1, .int p2, .int p3].toArray) s 0 0 A) (F0 m 25 ls []) := by
    intro H locs ls hI hS  hl
    refine lv_aload_n hx hb dX11_quota_25 rfl (lv_at hl 0 rfl) ?_
    obtain ⟨x_2, k_1⟩ := op_11 hI i_h0
    refine k_get (ci := 11) (v := .ref (gr g h0 10)) (C := RX11) (T := TX11) (N := 12) hx hb hts (fun _ h0_ => List.mem_cons_of_mem _ (List.mem_append_right _ (List.mem_append_left _ h0_))) hown hK hI i_h0.1 k_1 rfl 10 (by decide) (hts (.fieldLink RX11 72 "DeadlineShare" "refusals" "LDeadlineShare$Refusals;") (List.mem_cons_of_mem _ (List.mem_append_left _ (List.mem_of_getElem? (i := 0) rfl)))) (fun _ h9 => h9) rfl dX11_quota_26 ?_
    have i_4 := kw_11_10 hG i_h0
    refine lv_iconst (v := (-1)) hx hb dX11_quota_29 (by decide) ?_
    obtain ⟨x_6, k_5⟩ := op_4 hI i_4
    refine va_calli (va_runV (As := [.int (-1)]) (rest := []) ⟨hx, hb, hml, hown, hts⟩ (c_X4_add l dC dI g A hG f (gr g h0 10) (-1) i_4) (cwV 1 hts (gi_V (fun w_ h0_ => ⟨List.mem_cons_of_mem _ (List.mem_append_right _ (List.mem_append_right _ (List.mem_append_left _ h0_))), (tb_c_X4_add w_ h0_).2⟩) (List.mem_cons_of_mem _ (List.mem_append_left _ (List.mem_of_getElem? (i := 1) rfl))) (List.mem_cons_of_mem _ (List.mem_append_left _ (List.mem_of_getElem? (i := 2) rfl))) (List.mem_cons_of_mem _ (List.mem_append_left _ (List.mem_of_getElem? (i := 3) rfl))) (List.mem_cons_of_mem _ (List.mem_append_left _ (List.mem_of_getElem? (i := 4) rfl)))) rfl rfl rfl (by decide +kernel) ⟨Nat.le_of_ble_eq_true rfl, Nat.le_of_ble_eq_true rfl⟩) ⟨fun a U g mk q => ⟨q.1, q.2.calling rfl rfl⟩, k_recv hK hI i_4.1 k_5 (ci := 4) rfl, fun U hU hW => ⟨rfl, kIn.of hI hK hE hS hU hW⟩⟩ rfl rfl hl.1 rfl (lv_room (Nat.le_of_ble_eq_true rfl)) dX11_quota_30 ⟨Nat.le_of_ble_eq_true rfl, Nat.le_of_ble_eq_true rfl⟩) hS (fun q _ h => h) (fun q h => h) (fun r_9 u t H1 locs ht hvm w_8 hB hz1 hk1 hS => ?_)
    obtain ⟨f_7, hI, kc_10⟩ := hB
    rw [ht] at hI
    have k_11 : f_7 h0 = .inr (11, [.ref (gr g h0 0), .ref (gr g h0 1), .ref (gr g h0 2), .ref (gr g h0 3), .ref (gr g h0 4), .ref (gr g h0 5), .ref (gr g h0 6), .ref (gr g h0 7), .ref (gr g h0 8), .ref (gr g h0 9), .ref (gr g h0 10), .int x_2]) := Kp.at kc_10 i_h0 (by decide) k_1
    have kp_12 := Kp.call hk0 kc_10 (by decide)
    generalize H1 = H at hI hS ⊢
    refine W.widen (k := 0) (n := 0) (Nat.le_of_ble_eq_true rfl) (Nat.le_of_ble_eq_true rfl) ?_
    have w_8 : r_9.toInt = (-1 : Int32).toInt := w_8
    exact W.iret (v := r_9) hx hb hr (fun t ht hW => ⟨⟨r_9, (), rfl, trivial, ⟨f_7, k_ret ht hI, kp_12⟩⟩, hS.F ht⟩) hS.2.2 dX11_quota_33
  refine lv_if_lt (tgt := 25) hx hb dX11_quota_1 (by decide) (fun c_13 => ?_) (fun c_13 => ?_)
  · have c_13 := kc_lt rfl (by decide : Int32.toInt 0 = 0) c_13
    exact J_25  _ _ _ hI hS  (lv_sub hl [0, 1, 2, 3] rfl)
  · have c_13 := kn_lt rfl (by decide : Int32.toInt 0 = 0) c_13
    refine lv_iload_n hx hb dX11_quota_4 rfl (lv_at hl 2 rfl) ?_
    refine lv_bipush (v := 50) hx hb dX11_quota_5 (by decide) ?_
    refine lv_icmp_gt (tgt := 25) hx hb dX11_quota_7 (by decide) (fun c_14 => ?_) (fun c_14 => ?_)
    · have c_14 := kc_lt (by decide : Int32.toInt 50 = 50) rfl c_14
      exact J_25  _ _ _ hI hS  (lv_sub hl [0, 1, 2, 3] rfl)
    · have c_14 := kn_lt (by decide : Int32.toInt 50 = 50) rfl c_14
      refine lv_iload_n hx hb dX11_quota_10 rfl (lv_at hl 2 rfl) ?_
      have J_34 : ∀ (H : Heap) (locs : List Loc) (ls : Array Slot), Iv dC dI g A f H → va_S A s.heap H locs → lv_has ls 6 [(0, .ref h0), (1, .int p1), (2, .int p2), (3, .int p3)] → W p l e (headSpec wq_c_X11_quota ({ frames := 5, cells := 0, slots := 0, locals := 126 } : Room)).room s m ([.ref h0, .int p1, .int p2, .int p3].toArray) below meth c H locs 0 0 (MQ below (va_Qi (fun (r : Int32) (_ : Unit) => True) (fun (_ : Unit) t => ∃ f1 : Nat → va_E, Iv dC dI g A f1 t.heap ∧ Kp g [1, 4, 5, 6, 8, 10, 23, 24, 27, 28] f f1) A) ([.ref h0, .int p1, .int p2, .int p3].toArray) s 0 0 A) (F0 m 34 ls []) := by
        intro H locs ls hI hS  hl
        refine lv_aload_n hx hb dX11_quota_34 rfl (lv_at hl 0 rfl) ?_
        obtain ⟨x_16, k_15⟩ := op_11 hI i_h0
        refine k_get (ci := 11) (v := .ref (gr g h0 3)) (C := RX11) (T := TX11) (N := 12) hx hb hts (fun _ h0_ => List.mem_cons_of_mem _ (List.mem_append_right _ (List.mem_append_left _ h0_))) hown hK hI i_h0.1 k_15 rfl 3 (by decide) (hts (.fieldLink RX11 37 "DeadlineShare" "now" "LDeadlineShare$State;") (List.mem_cons_of_mem _ (List.mem_append_left _ (List.mem_of_getElem? (i := 5) rfl)))) (fun _ h9 => h9) rfl dX11_quota_35 ?_
        have i_18 := kw_11_3 hG i_h0
        refine lv_iload_n hx hb dX11_quota_38 rfl (lv_at hl 1 rfl) ?_
        obtain ⟨x_20, x_21, x_22, x_23, x_24, k_19, b_25, b_26⟩ := op_6 hI i_18
        refine va_calli (va_runV (As := [.int p1]) (rest := []) ⟨hx, hb, hml, hown, hts⟩ (c_X6_has l dC dI g A hG f (gr g h0 3) p1 i_18) (cwV 1 hts (gi_V (fun w_ h0_ => ⟨List.mem_cons_of_mem _ (List.mem_append_right _ (List.mem_append_right _ (List.mem_append_right _ (List.mem_append_left _ h0_)))), (tb_c_X6_has w_ h0_).2⟩) (List.mem_cons_of_mem _ (List.mem_append_left _ (List.mem_of_getElem? (i := 6) rfl))) (List.mem_cons_of_mem _ (List.mem_append_left _ (List.mem_of_getElem? (i := 7) rfl))) (List.mem_cons_of_mem _ (List.mem_append_left _ (List.mem_of_getElem? (i := 8) rfl))) (List.mem_cons_of_mem _ (List.mem_append_left _ (List.mem_of_getElem? (i := 9) rfl)))) rfl rfl rfl (by decide +kernel) ⟨Nat.le_of_ble_eq_true rfl, Nat.le_of_ble_eq_true rfl⟩) ⟨fun a U g mk q => ⟨q.1, q.2.calling rfl rfl⟩, k_recv hK hI i_18.1 k_19 (ci := 6) rfl, fun U hU hW => ⟨rfl, kIn.of hI hK hE hS hU hW⟩⟩ rfl rfl hl.1 rfl (lv_room (Nat.le_of_ble_eq_true rfl)) dX11_quota_39 ⟨Nat.le_of_ble_eq_true rfl, Nat.le_of_ble_eq_true rfl⟩) hS (fun q _ h => h) (fun q h => h) (fun r_28 u t H1 locs ht hvm w_27 hB hz1 hk1 hS => ?_)
        have hI : Iv dC dI g A f t.heap := hB
        rw [ht] at hI
        generalize H1 = H at hI hS ⊢
        refine W.widen (k := 0) (n := 0) (Nat.le_of_ble_eq_true rfl) (Nat.le_of_ble_eq_true rfl) ?_
        have w_27 : r_28.toInt = 0 ∨ (0 ≤ p1.toInt ∧ p1.toInt < 12) := w_27
        refine lv_if_ne (tgt := 55) hx hb dX11_quota_42 (by decide) (fun c_29 => ?_) (fun c_29 => ?_)
        · have c_29 := kn_eq rfl (by decide : Int32.toInt 0 = 0) c_29
          refine lv_aload_n hx hb dX11_quota_55 rfl (lv_at hl 0 rfl) ?_
          refine k_get (ci := 11) (v := .ref (gr g h0 9)) (C := RX11) (T := TX11) (N := 12) hx hb hts (fun _ h0_ => List.mem_cons_of_mem _ (List.mem_append_right _ (List.mem_append_left _ h0_))) hown hK hI i_h0.1 k_15 rfl 9 (by decide) (hts (.fieldLink RX11 65 "DeadlineShare" "history" "LDeadlineShare$History;") (List.mem_cons_of_mem _ (List.mem_append_left _ (List.mem_of_getElem? (i := 10) rfl)))) (fun _ h9 => h9) rfl dX11_quota_56 ?_
          have i_31 := kw_11_9 hG i_h0
          refine lv_aload_n hx hb dX11_quota_59 rfl (lv_at hl 0 rfl) ?_
          refine k_get (ci := 11) (v := .ref (gr g h0 3)) (C := RX11) (T := TX11) (N := 12) hx hb hts (fun _ h0_ => List.mem_cons_of_mem _ (List.mem_append_right _ (List.mem_append_left _ h0_))) hown hK hI i_h0.1 k_15 rfl 3 (by decide) (hts (.fieldLink RX11 37 "DeadlineShare" "now" "LDeadlineShare$State;") (List.mem_cons_of_mem _ (List.mem_append_left _ (List.mem_of_getElem? (i := 5) rfl)))) (fun _ h9 => h9) rfl dX11_quota_60 ?_
          refine lv_bipush (v := 9) hx hb dX11_quota_63 (by decide) ?_
          obtain ⟨x_35, x_36, k_34⟩ := op_1 hI i_31
          refine va_callv (va_runV (As := [.ref (gr g h0 3), .int 9]) (rest := []) ⟨hx, hb, hml, hown, hts⟩ (c_X1_keep l dC dI g A hG f (gr g h0 9) (gr g h0 3) 9 i_31 i_18) (cwV 2 hts (gi_V (fun w_ h0_ => ⟨List.mem_cons_of_mem _ (List.mem_append_right _ (List.mem_append_right _ (List.mem_append_right _ (List.mem_append_right _ (List.mem_append_left _ h0_))))), (tb_c_X1_keep w_ h0_).2⟩) (List.mem_cons_of_mem _ (List.mem_append_left _ (List.mem_of_getElem? (i := 11) rfl))) (List.mem_cons_of_mem _ (List.mem_append_left _ (List.mem_of_getElem? (i := 12) rfl))) (List.mem_cons_of_mem _ (List.mem_append_left _ (List.mem_of_getElem? (i := 13) rfl))) (List.mem_cons_of_mem _ (List.mem_append_left _ (List.mem_of_getElem? (i := 14) rfl)))) rfl rfl rfl (by decide +kernel) ⟨Nat.le_of_ble_eq_true rfl, Nat.le_of_ble_eq_true rfl⟩) ⟨fun a U g mk q => ⟨q.1, q.2.calling rfl rfl⟩, k_recv hK hI i_31.1 k_34 (ci := 1) rfl, fun U hU hW => ⟨rfl, kIn.of hI hK hE hS hU hW⟩⟩ rfl rfl hl.1 rfl (lv_room (Nat.le_of_ble_eq_true rfl)) dX11_quota_65 ⟨Nat.le_of_ble_eq_true rfl, Nat.le_of_ble_eq_true rfl⟩) hS (fun q _ h => h) (fun q h => h) (fun u t H1 locs ht hvm _ hB hz1 hk1 hS => ?_)
          obtain ⟨f_37, hI, kc_39⟩ := hB
          rw [ht] at hI
          have k_40 : f_37 h0 = .inr (11, [.ref (gr g h0 0), .ref (gr g h0 1), .ref (gr g h0 2), .ref (gr g h0 3), .ref (gr g h0 4), .ref (gr g h0 5), .ref (gr g h0 6), .ref (gr g h0 7), .ref (gr g h0 8), .ref (gr g h0 9), .ref (gr g h0 10), .int x_16]) := Kp.at kc_39 i_h0 (by decide) k_15
          have kp_41 := Kp.call hk0 kc_39 (by decide)
          generalize H1 = H at hI hS ⊢
          refine W.widen (k := 0) (n := 0) (Nat.le_of_ble_eq_true rfl) (Nat.le_of_ble_eq_true rfl) ?_
          refine lv_aload_n hx hb dX11_quota_68 rfl (lv_at hl 0 rfl) ?_
          refine k_get (ci := 11) (v := .ref (gr g h0 3)) (C := RX11) (T := TX11) (N := 12) hx hb hts (fun _ h0_ => List.mem_cons_of_mem _ (List.mem_append_right _ (List.mem_append_left _ h0_))) hown hK hI i_h0.1 k_40 rfl 3 (by decide) (hts (.fieldLink RX11 37 "DeadlineShare" "now" "LDeadlineShare$State;") (List.mem_cons_of_mem _ (List.mem_append_left _ (List.mem_of_getElem? (i := 5) rfl)))) (fun _ h9 => h9) rfl dX11_quota_69 ?_
          obtain ⟨x_45, x_46, x_47, x_48, x_49, k_44, b_50, b_51⟩ := op_6 hI i_18
          refine k_get (ci := 6) (v := .ref (gr g (gr g h0 3) 1)) (C := RX6) (T := TX6) (N := 10) hx hb hts (fun _ h0_ => List.mem_cons_of_mem _ (List.mem_append_right _ (List.mem_append_right _ (List.mem_append_right _ (List.mem_append_right _ (List.mem_append_right _ (List.mem_append_left _ h0_))))))) hown hK hI i_18.1 k_44 rfl 1 (by decide) (hts (.fieldLink RX11 133 "DeadlineShare$State" "tasks" "[LDeadlineShare$Task;") (List.mem_cons_of_mem _ (List.mem_append_left _ (List.mem_of_getElem? (i := 15) rfl)))) (fun _ h9 => h9) rfl dX11_quota_72 ?_
          have i_53 := kw_6_1 hG i_18
          refine lv_iload_n hx hb dX11_quota_75 rfl (lv_at hl 1 rfl) ?_
          obtain ⟨q_55, k_54, b_56⟩ := op_20 hI i_53
          refine k_aald hx hb hK hI i_53.1 4 k_54 rfl (vp_in_iff.mpr (by omega)) b_56 (fun _ hj => kw_20 hG i_53 hj) dX11_quota_76 (fun a_57 i_58 => ?_)
          refine lv_astore (lv' := [(4, .ref a_57), (0, .ref h0), (1, .int p1), (2, .int p2), (3, .int p3)]) hx hb dX11_quota_77 hl (by decide) rfl (fun ls hl => ?_)
          refine lv_aload hx hb dX11_quota_79 (lv_at hl 0 rfl) ?_
          obtain ⟨x_60, x_61, x_62, x_63, x_64, x_65, x_66, x_67, x_68, x_69, x_70, x_71, x_72, x_73, x_74, x_75, k_59⟩ := op_8 hI i_58
          refine k_get (ci := 8) (v := .int x_73) (C := RX8) (T := TX8) (N := 18) hx hb hts (fun _ h0_ => List.mem_cons_of_mem _ (List.mem_append_right _ (List.mem_append_right _ (List.mem_append_right _ (List.mem_append_right _ (List.mem_append_right _ (List.mem_append_right _ (List.mem_append_left _ h0_)))))))) hown hK hI i_58.1 k_59 rfl 15 (by decide) (hts (.fieldLink RX11 198 "DeadlineShare$Task" "budget" "I") (List.mem_cons_of_mem _ (List.mem_append_left _ (List.mem_of_getElem? (i := 16) rfl)))) (fun _ h9 => h9) rfl dX11_quota_81 ?_
          refine lv_istore (lv' := [(5, .int x_73), (4, .ref a_57), (0, .ref h0), (1, .int p1), (2, .int p2), (3, .int p3)]) hx hb dX11_quota_84 hl (by decide) rfl (fun ls hl => ?_)
          refine lv_aload hx hb dX11_quota_86 (lv_at hl 1 rfl) ?_
          refine lv_iload_n hx hb dX11_quota_88 rfl (lv_at hl 4 rfl) ?_
          refine lv_iload_n hx hb dX11_quota_89 rfl (lv_at hl 5 rfl) ?_
          refine va_callv (va_runV (As := [.int p2, .int p3]) (rest := []) ⟨hx, hb, hml, hown, hts⟩ (c_X8_takeQuota l dC dI g A hG f_37 a_57 p2 p3 i_58) (cwV 2 hts (gi_V (fun w_ h0_ => ⟨List.mem_cons_of_mem _ (List.mem_append_right _ (List.mem_append_right _ (List.mem_append_right _ (List.mem_append_right _ (List.mem_append_right _ (List.mem_append_right _ (List.mem_append_right _ (List.mem_append_left _ h0_)))))))), (tb_c_X8_takeQuota w_ h0_).2⟩) (List.mem_cons_of_mem _ (List.mem_append_left _ (List.mem_of_getElem? (i := 17) rfl))) (List.mem_cons_of_mem _ (List.mem_append_left _ (List.mem_of_getElem? (i := 18) rfl))) (List.mem_cons_of_mem _ (List.mem_append_left _ (List.mem_of_getElem? (i := 19) rfl))) (List.mem_cons_of_mem _ (List.mem_append_left _ (List.mem_of_getElem? (i := 20) rfl)))) rfl rfl rfl (by decide +kernel) ⟨Nat.le_of_ble_eq_true rfl, Nat.le_of_ble_eq_true rfl⟩) ⟨fun a U g mk q => ⟨q.1, q.2.calling rfl rfl⟩, k_recv hK hI i_58.1 k_59 (ci := 8) rfl, fun U hU hW => ⟨rfl, kIn.of hI hK hE hS hU hW⟩⟩ rfl rfl hl.1 rfl (lv_room (Nat.le_of_ble_eq_true rfl)) dX11_quota_90 ⟨Nat.le_of_ble_eq_true rfl, Nat.le_of_ble_eq_true rfl⟩) hS (fun q _ h => h) (fun q h => h) (fun u t H1 locs ht hvm _ hB hz1 hk1 hS => ?_)
          obtain ⟨f_76, hI, kc_78⟩ := hB
          rw [ht] at hI
          have k_79 : f_76 h0 = .inr (11, [.ref (gr g h0 0), .ref (gr g h0 1), .ref (gr g h0 2), .ref (gr g h0 3), .ref (gr g h0 4), .ref (gr g h0 5), .ref (gr g h0 6), .ref (gr g h0 7), .ref (gr g h0 8), .ref (gr g h0 9), .ref (gr g h0 10), .int x_16]) := Kp.at kc_78 i_h0 (by decide) k_40
          have k_80 : f_76 (gr g h0 3) = .inr (6, [.ref (gr g (gr g h0 3) 0), .ref (gr g (gr g h0 3) 1), .ref (gr g (gr g h0 3) 2), .ref (gr g (gr g h0 3) 3), .ref (gr g (gr g h0 3) 4), .int x_45, .int x_46, .long x_47, .int x_48, .int x_49]) := Kp.at kc_78 i_18 (by decide) k_44
          have k_81 : f_76 (gr g (gr g h0 3) 1) = .inl (gc g 4, 12, .inr (.inr (.inr (.inr q_55)))) := Kp.at kc_78 i_53 (by decide) k_54
          have kp_82 := Kp.call kp_41 kc_78 (by decide)
          generalize H1 = H at hI hS ⊢
          refine W.widen (k := 0) (n := 0) (Nat.le_of_ble_eq_true rfl) (Nat.le_of_ble_eq_true rfl) ?_
          refine lv_aload_n hx hb dX11_quota_93 rfl (lv_at hl 2 rfl) ?_
          refine k_get (ci := 11) (v := .ref (gr g h0 10)) (C := RX11) (T := TX11) (N := 12) hx hb hts (fun _ h0_ => List.mem_cons_of_mem _ (List.mem_append_right _ (List.mem_append_left _ h0_))) hown hK hI i_h0.1 k_79 rfl 10 (by decide) (hts (.fieldLink RX11 72 "DeadlineShare" "refusals" "LDeadlineShare$Refusals;") (List.mem_cons_of_mem _ (List.mem_append_left _ (List.mem_of_getElem? (i := 0) rfl)))) (fun _ h9 => h9) rfl dX11_quota_94 ?_
          have i_84 := kw_11_10 hG i_h0
          refine lv_iload hx hb dX11_quota_97 (lv_at hl 0 rfl) ?_
          obtain ⟨x_86, k_85⟩ := op_4 hI i_84
          refine va_calli (va_runV (As := [.int x_73]) (rest := []) ⟨hx, hb, hml, hown, hts⟩ (c_X4_none l dC dI g A hG f_76 (gr g h0 10) x_73 i_84) (cwV 1 hts (gi_V (fun w_ h0_ => ⟨List.mem_cons_of_mem _ (List.mem_append_right _ (List.mem_append_right _ (List.mem_append_right _ (List.mem_append_right _ (List.mem_append_right _ (List.mem_append_right _ (List.mem_append_right _ (List.mem_append_right _ (List.mem_append_left _ h0_))))))))), (tb_c_X4_none w_ h0_).2⟩) (List.mem_cons_of_mem _ (List.mem_append_left _ (List.mem_of_getElem? (i := 21) rfl))) (List.mem_cons_of_mem _ (List.mem_append_left _ (List.mem_of_getElem? (i := 22) rfl))) (List.mem_cons_of_mem _ (List.mem_append_left _ (List.mem_of_getElem? (i := 23) rfl))) (List.mem_cons_of_mem _ (List.mem_append_left _ (List.mem_of_getElem? (i := 4) rfl)))) rfl rfl rfl (by decide +kernel) ⟨Nat.le_of_ble_eq_true rfl, Nat.le_of_ble_eq_true rfl⟩) ⟨fun a U g mk q => ⟨q.1, q.2.calling rfl rfl⟩, k_recv hK hI i_84.1 k_85 (ci := 4) rfl, fun U hU hW => ⟨rfl, kIn.of hI hK hE hS hU hW⟩⟩ rfl rfl hl.1 rfl (lv_room (Nat.le_of_ble_eq_true rfl)) dX11_quota_99 ⟨Nat.le_of_ble_eq_true rfl, Nat.le_of_ble_eq_true rfl⟩) hS (fun q _ h => h) (fun q h => h) (fun r_89 u t H1 locs ht hvm w_88 hB hz1 hk1 hS => ?_)
          obtain ⟨f_87, hI, kc_90⟩ := hB
          rw [ht] at hI
          have k_91 : f_87 h0 = .inr (11, [.ref (gr g h0 0), .ref (gr g h0 1), .ref (gr g h0 2), .ref (gr g h0 3), .ref (gr g h0 4), .ref (gr g h0 5), .ref (gr g h0 6), .ref (gr g h0 7), .ref (gr g h0 8), .ref (gr g h0 9), .ref (gr g h0 10), .int x_16]) := Kp.at kc_90 i_h0 (by decide) k_79
          have k_92 : f_87 (gr g h0 3) = .inr (6, [.ref (gr g (gr g h0 3) 0), .ref (gr g (gr g h0 3) 1), .ref (gr g (gr g h0 3) 2), .ref (gr g (gr g h0 3) 3), .ref (gr g (gr g h0 3) 4), .int x_45, .int x_46, .long x_47, .int x_48, .int x_49]) := Kp.at kc_90 i_18 (by decide) k_80
          have k_93 : f_87 (gr g (gr g h0 3) 1) = .inl (gc g 4, 12, .inr (.inr (.inr (.inr q_55)))) := Kp.at kc_90 i_53 (by decide) k_81
          have kp_94 := Kp.call kp_82 kc_90 (by decide)
          generalize H1 = H at hI hS ⊢
          refine W.widen (k := 0) (n := 0) (Nat.le_of_ble_eq_true rfl) (Nat.le_of_ble_eq_true rfl) ?_
          have w_88 : r_89.toInt = x_73.toInt := w_88
          exact W.iret (v := r_89) hx hb hr (fun t ht hW => ⟨⟨r_89, (), rfl, trivial, ⟨f_87, k_ret ht hI, kp_94⟩⟩, hS.F ht⟩) hS.2.2 dX11_quota_102
        · have c_29 := kc_eq rfl (by decide : Int32.toInt 0 = 0) c_29
          refine lv_aload_n hx hb dX11_quota_45 rfl (lv_at hl 0 rfl) ?_
          refine k_get (ci := 11) (v := .ref (gr g h0 10)) (C := RX11) (T := TX11) (N := 12) hx hb hts (fun _ h0_ => List.mem_cons_of_mem _ (List.mem_append_right _ (List.mem_append_left _ h0_))) hown hK hI i_h0.1 k_15 rfl 10 (by decide) (hts (.fieldLink RX11 72 "DeadlineShare" "refusals" "LDeadlineShare$Refusals;") (List.mem_cons_of_mem _ (List.mem_append_left _ (List.mem_of_getElem? (i := 0) rfl)))) (fun _ h9 => h9) rfl dX11_quota_46 ?_
          have i_96 := kw_11_10 hG i_h0
          refine lv_bipush (v := (-2)) hx hb dX11_quota_49 (by decide) ?_
          obtain ⟨x_98, k_97⟩ := op_4 hI i_96
          refine va_calli (va_runV (As := [.int (-2)]) (rest := []) ⟨hx, hb, hml, hown, hts⟩ (c_X4_add l dC dI g A hG f (gr g h0 10) (-2) i_96) (cwV 1 hts (gi_V (fun w_ h0_ => ⟨List.mem_cons_of_mem _ (List.mem_append_right _ (List.mem_append_right _ (List.mem_append_left _ h0_))), (tb_c_X4_add w_ h0_).2⟩) (List.mem_cons_of_mem _ (List.mem_append_left _ (List.mem_of_getElem? (i := 1) rfl))) (List.mem_cons_of_mem _ (List.mem_append_left _ (List.mem_of_getElem? (i := 2) rfl))) (List.mem_cons_of_mem _ (List.mem_append_left _ (List.mem_of_getElem? (i := 3) rfl))) (List.mem_cons_of_mem _ (List.mem_append_left _ (List.mem_of_getElem? (i := 4) rfl)))) rfl rfl rfl (by decide +kernel) ⟨Nat.le_of_ble_eq_true rfl, Nat.le_of_ble_eq_true rfl⟩) ⟨fun a U g mk q => ⟨q.1, q.2.calling rfl rfl⟩, k_recv hK hI i_96.1 k_97 (ci := 4) rfl, fun U hU hW => ⟨rfl, kIn.of hI hK hE hS hU hW⟩⟩ rfl rfl hl.1 rfl (lv_room (Nat.le_of_ble_eq_true rfl)) dX11_quota_51 ⟨Nat.le_of_ble_eq_true rfl, Nat.le_of_ble_eq_true rfl⟩) hS (fun q _ h => h) (fun q h => h) (fun r_101 u t H1 locs ht hvm w_100 hB hz1 hk1 hS => ?_)
          obtain ⟨f_99, hI, kc_102⟩ := hB
          rw [ht] at hI
          have k_103 : f_99 h0 = .inr (11, [.ref (gr g h0 0), .ref (gr g h0 1), .ref (gr g h0 2), .ref (gr g h0 3), .ref (gr g h0 4), .ref (gr g h0 5), .ref (gr g h0 6), .ref (gr g h0 7), .ref (gr g h0 8), .ref (gr g h0 9), .ref (gr g h0 10), .int x_16]) := Kp.at kc_102 i_h0 (by decide) k_15
          have k_104 : f_99 (gr g h0 3) = .inr (6, [.ref (gr g (gr g h0 3) 0), .ref (gr g (gr g h0 3) 1), .ref (gr g (gr g h0 3) 2), .ref (gr g (gr g h0 3) 3), .ref (gr g (gr g h0 3) 4), .int x_20, .int x_21, .long x_22, .int x_23, .int x_24]) := Kp.at kc_102 i_18 (by decide) k_19
          have kp_105 := Kp.call hk0 kc_102 (by decide)
          generalize H1 = H at hI hS ⊢
          refine W.widen (k := 0) (n := 0) (Nat.le_of_ble_eq_true rfl) (Nat.le_of_ble_eq_true rfl) ?_
          have w_100 : r_101.toInt = (-2 : Int32).toInt := w_100
          exact W.iret (v := r_101) hx hb hr (fun t ht hW => ⟨⟨r_101, (), rfl, trivial, ⟨f_99, k_ret ht hI, kp_105⟩⟩, hS.F ht⟩) hS.2.2 dX11_quota_54
      refine lv_if_le (tgt := 34) hx hb dX11_quota_11 (by decide) (fun c_106 => ?_) (fun c_106 => ?_)
      · have c_106 := kc_le rfl (by decide : Int32.toInt 0 = 0) c_106
        exact J_34  _ _ _ hI hS  (lv_sub hl [0, 1, 2, 3] rfl)
      · have c_106 := kn_le rfl (by decide : Int32.toInt 0 = 0) c_106
        refine lv_iload_n hx hb dX11_quota_14 rfl (lv_at hl 3 rfl) ?_
        refine lv_iload_n hx hb dX11_quota_15 rfl (lv_at hl 2 rfl) ?_
        refine lv_icmp_le (tgt := 25) hx hb dX11_quota_16 (by decide) (fun c_107 => ?_) (fun c_107 => ?_)
        · have c_107 := kc_le rfl rfl c_107
          exact J_25  _ _ _ hI hS  (lv_sub hl [0, 1, 2, 3] rfl)
        · have c_107 := kn_le rfl rfl c_107
          refine lv_iload_n hx hb dX11_quota_19 rfl (lv_at hl 3 rfl) ?_
          refine lv_bipush (v := 60) hx hb dX11_quota_20 (by decide) ?_
          refine lv_icmp_le (tgt := 34) hx hb dX11_quota_22 (by decide) (fun c_108 => ?_) (fun c_108 => ?_)
          · have c_108 := kc_le rfl (by decide : Int32.toInt 60 = 60) c_108
            exact J_34  _ _ _ hI hS  (lv_sub hl [0, 1, 2, 3] rfl)
          · have c_108 := kn_le rfl (by decide : Int32.toInt 60 = 60) c_108
            exact J_25  _ _ _ hI hS  (lv_sub hl [0, 1, 2, 3] rfl)
theorem tw_596 : q_g (.fieldLink RX11 213 "DeadlineShare$Script" "size" "I") := ⟨(List.mem_append_right _ (List.mem_of_getElem? (i := 80) (by decide +kernel))), good_of_word (by decide +kernel)⟩
theorem tw_597 : q_g (.selects RX6 yX6_startScript yX6_startScript) := ⟨(List.mem_append_right _ (List.mem_of_getElem? (i := 720) (by decide +kernel))), good_of_word (by decide +kernel)⟩
theorem tw_598 : q_g (.instanceMethod yX6_startScript) := ⟨(List.mem_append_right _ (List.mem_of_getElem? (i := 719) (by decide +kernel))), good_of_word (by decide +kernel)⟩
theorem tw_599 : q_g (.methodLink RX11 209 yX6_startScript) := ⟨(List.mem_append_right _ (List.mem_of_getElem? (i := 718) (by decide +kernel))), good_of_word (by decide +kernel)⟩
theorem tw_600 : q_g (.fieldLink RX11 208 "DeadlineShare$Reader" "script" "LDeadlineShare$Script;") := ⟨(List.mem_append_right _ (List.mem_of_getElem? (i := 101) (by decide +kernel))), good_of_word (by decide +kernel)⟩
theorem tw_601 : q_g (.fieldLink RX11 76 "DeadlineShare" "faultPlace" "I") := ⟨(List.mem_append_right _ (List.mem_of_getElem? (i := 331) (by decide +kernel))), good_of_word (by decide +kernel)⟩
theorem tw_602 : q_g (.selects RX3 yX3_read yX3_read) := ⟨(List.mem_append_right _ (List.mem_of_getElem? (i := 624) (by decide +kernel))), good_of_word (by decide +kernel)⟩
theorem tw_603 : q_g (.instanceMethod yX3_read) := ⟨(List.mem_append_right _ (List.mem_of_getElem? (i := 623) (by decide +kernel))), good_of_word (by decide +kernel)⟩
theorem tw_604 : q_g (.methodLink RX11 204 yX3_read) := ⟨(List.mem_append_right _ (List.mem_of_getElem? (i := 622) (by decide +kernel))), good_of_word (by decide +kernel)⟩
theorem tw_605 : q_g (.fieldLink RX11 28 "DeadlineShare" "reader" "LDeadlineShare$Reader;") := ⟨(List.mem_append_right _ (List.mem_of_getElem? (i := 322) (by decide +kernel))), good_of_word (by decide +kernel)⟩
theorem tw_606 : q_g (.code yX11_script cX11_script 4 (some .int)) := ⟨(List.mem_append_right _ (List.mem_of_getElem? (i := 621) (by decide +kernel))), good_of_word (by decide +kernel)⟩
def ow_c_X11_script : List Cond := [.fieldLink RX11 37 "DeadlineShare" "now" "LDeadlineShare$State;", .methodLink RX11 130 yX6_has, .instanceMethod yX6_has, .selects RX6 yX6_has yX6_has, .initialized RX6, .fieldLink RX11 133 "DeadlineShare$State" "tasks" "[LDeadlineShare$Task;", .fieldLink RX11 137 "DeadlineShare$Task" "state" "I", .fieldLink RX11 72 "DeadlineShare" "refusals" "LDeadlineShare$Refusals;", .methodLink RX11 84 yX4_add, .instanceMethod yX4_add, .selects RX4 yX4_add yX4_add, .initialized RX4, .fieldLink RX11 28 "DeadlineShare" "reader" "LDeadlineShare$Reader;", .fieldLink RX11 21 "DeadlineShare" "tape" "LDeadlineShare$Tape;", .methodLink RX11 204 yX3_read, .instanceMethod yX3_read, .selects RX3 yX3_read yX3_read, .initialized RX3, .fieldLink RX11 76 "DeadlineShare" "faultPlace" "I", .fieldLink RX11 106 "DeadlineShare$Tape" "length" "I", .fieldLink RX11 65 "DeadlineShare" "history" "LDeadlineShare$History;", .methodLink RX11 122 yX1_keep, .instanceMethod yX1_keep, .selects RX1 yX1_keep yX1_keep, .initialized RX1, .fieldLink RX11 208 "DeadlineShare$Reader" "script" "LDeadlineShare$Script;", .methodLink RX11 209 yX6_startScript, .instanceMethod yX6_startScript, .selects RX6 yX6_startScript yX6_startScript, .fieldLink RX11 213 "DeadlineShare$Script" "size" "I", .methodLink RX11 95 yX4_none, .instanceMethod yX4_none, .selects RX4 yX4_none yX4_none, .fieldLink RX11 145 "DeadlineShare$Task" "weight" "I", .methodLink RX11 148 yX6_hasRoomFor, .instanceMethod yX6_hasRoomFor, .selects RX6 yX6_hasRoomFor yX6_hasRoomFor, .methodLink RX11 142 yX8_isSpent, .instanceMethod yX8_isSpent, .selects RX8 yX8_isSpent yX8_isSpent, .initialized RX8, .methodLink RX11 159 yX8_isOn, .instanceMethod yX8_isOn, .selects RX8 yX8_isOn yX8_isOn]
def wq_c_X11_script : List Cond := .code yX11_script cX11_script 4 (some .int) :: (ow_c_X11_script ++ (u_ws RX11 TX11 12 ++ (wq_c_X6_has ++ (u_ws RX6 TX6 10 ++ (u_ws RX8 TX8 18 ++ (wq_c_X4_add ++ (wq_c_X3_read ++ (u_ws RX7 TX7 2 ++ (wq_c_X1_keep ++ (u_ws RX3 TX3 2 ++ (wq_c_X6_startScript ++ (u_ws RX5 TX5 5 ++ (wq_c_X4_none ++ (wq_c_X6_hasRoomFor ++ (wq_c_X8_isSpent ++ (wq_c_X8_isOn ++ ([] : List Cond)))))))))))))))))
theorem tb_c_X11_script : ∀ w ∈ wq_c_X11_script, q_g w := by
  unfold wq_c_X11_script ow_c_X11_script
  exact q_cons tw_606 (q_app (q_cons tw_558 (q_cons tw_571 (q_cons tw_74 (q_cons tw_73 (q_cons tw_47 (q_cons tw_570 (q_cons tw_569 (q_cons tw_522 (q_cons tw_518 (q_cons tw_517 (q_cons tw_516 (q_cons tw_273 (q_cons tw_605 (q_cons tw_542 (q_cons tw_604 (q_cons tw_603 (q_cons tw_602 (q_cons tw_234 (q_cons tw_601 (q_cons tw_535 (q_cons tw_556 (q_cons tw_555 (q_cons tw_554 (q_cons tw_553 (q_cons tw_552 (q_cons tw_600 (q_cons tw_599 (q_cons tw_598 (q_cons tw_597 (q_cons tw_596 (q_cons tw_521 (q_cons tw_520 (q_cons tw_519 (q_cons tw_567 (q_cons tw_566 (q_cons tw_436 (q_cons tw_435 (q_cons tw_568 (q_cons tw_439 (q_cons tw_438 (q_cons tw_8 (q_cons tw_576 (q_cons tw_10 (q_cons tw_9 q_nil)))))))))))))))))))))))))))))))))))))))))))) (q_app tu_X11 (q_app tb_c_X6_has (q_app tu_X6 (q_app tu_X8 (q_app tb_c_X4_add (q_app tb_c_X3_read (q_app tu_X7 (q_app tb_c_X1_keep (q_app tu_X3 (q_app tb_c_X6_startScript (q_app tu_X5 (q_app tb_c_X4_none (q_app tb_c_X6_hasRoomFor (q_app tb_c_X8_isSpent (q_app tb_c_X8_isOn q_nil))))))))))))))))
set_option maxHeartbeats 4000000 in
set_option maxRecDepth 100000 in
theorem c_X11_script (l : Launch) (dC : Nat → ClassId) (dI : Nat → Nat → Nat) (g : kG) (A : Nat → Prop) (hG : kWf g) (f : Nat → va_E) (h0 : Nat) (p1 : Int32) (i_h0 : ik g 11 h0) : Met l yX11_script wq_c_X11_script ({ frames := 8, cells := 0, slots := 0, locals := 180 } : Room) (va_Pc [.ref h0, .int p1] (fun U => kIn dC dI g A f U)) (va_Qi (fun (r : Int32) (_ : Unit) => True) (fun (_ : Unit) t => ∃ f1 : Nat → va_E, Iv dC dI g A f1 t.heap ∧ Kp g [1, 3, 4, 5, 6, 7, 8, 10, 11, 23, 24, 27, 28] f f1) A) 0 0 A := by
  refine Met.ofW (cc := cX11_script) (maxL := 4) (ret := (some .int)) (by decide) rfl ?_
  intro p e s m args below meth c s₁ B hml hv
  obtain ⟨rfl, hI, hK, hE⟩ := hv
  have hx := B.exec
  have hb := B.bytes
  have hr := B.returns
  have hts := atoms_spec (ws := wq_c_X11_script) B.pre
  have hown : s.vm.findClass RX11 = some m.cls := findClass_of_methodNamed B.named
  have hlocks := B.notSynchronized
  have hS : va_S A s.heap s.heap [] := va_S.rf
  have hk0 : Kp g [1, 3, 4, 5, 6, 7, 8, 10, 11, 23, 24, 27, 28] f f := Kp.rf
  have hl := lv_entry ([.ref h0, .int p1]) (n := 4) (Nat.le_of_ble_eq_true rfl)
  rw [lg_entry_eq]
  generalize (lg_sl ([.ref h0, .int p1]) ++ List.replicate (4 - (lg_sl ([.ref h0, .int p1])).length) Slot.unset).toArray = ls at hl ⊢
  have hl : lv_has ls 4 [(0, .ref h0), (1, .int p1)] := hl
  refine lv_aload_n hx hb dX11_script_0 rfl (lv_at hl 0 rfl) ?_
  obtain ⟨x_2, k_1⟩ := op_11 hI i_h0
  refine k_get (ci := 11) (v := .ref (gr g h0 3)) (C := RX11) (T := TX11) (N := 12) hx hb hts (fun _ h0_ => List.mem_cons_of_mem _ (List.mem_append_right _ (List.mem_append_left _ h0_))) hown hK hI i_h0.1 k_1 rfl 3 (by decide) (hts (.fieldLink RX11 37 "DeadlineShare" "now" "LDeadlineShare$State;") (List.mem_cons_of_mem _ (List.mem_append_left _ (List.mem_of_getElem? (i := 0) rfl)))) (fun _ h9 => h9) rfl dX11_script_1 ?_
  have i_4 := kw_11_3 hG i_h0
  refine lv_iload_n hx hb dX11_script_4 rfl (lv_at hl 1 rfl) ?_
  obtain ⟨x_6, x_7, x_8, x_9, x_10, k_5, b_11, b_12⟩ := op_6 hI i_4
  refine va_calli (va_runV (As := [.int p1]) (rest := []) ⟨hx, hb, hml, hown, hts⟩ (c_X6_has l dC dI g A hG f (gr g h0 3) p1 i_4) (cwV 1 hts (gi_V (fun w_ h0_ => ⟨List.mem_cons_of_mem _ (List.mem_append_right _ (List.mem_append_right _ (List.mem_append_left _ h0_))), (tb_c_X6_has w_ h0_).2⟩) (List.mem_cons_of_mem _ (List.mem_append_left _ (List.mem_of_getElem? (i := 1) rfl))) (List.mem_cons_of_mem _ (List.mem_append_left _ (List.mem_of_getElem? (i := 2) rfl))) (List.mem_cons_of_mem _ (List.mem_append_left _ (List.mem_of_getElem? (i := 3) rfl))) (List.mem_cons_of_mem _ (List.mem_append_left _ (List.mem_of_getElem? (i := 4) rfl)))) rfl rfl rfl (by decide +kernel) ⟨Nat.le_of_ble_eq_true rfl, Nat.le_of_ble_eq_true rfl⟩) ⟨fun a U g mk q => ⟨q.1, q.2.calling rfl rfl⟩, k_recv hK hI i_4.1 k_5 (ci := 6) rfl, fun U hU hW => ⟨rfl, kIn.of hI hK hE hS hU hW⟩⟩ rfl rfl hl.1 rfl (lv_room (Nat.le_of_ble_eq_true rfl)) dX11_script_5 ⟨Nat.le_of_ble_eq_true rfl, Nat.le_of_ble_eq_true rfl⟩) hS (fun q _ h => h) (fun q h => h) (fun r_14 u t H1 locs ht hvm w_13 hB hz1 hk1 hS => ?_)
  have hI : Iv dC dI g A f t.heap := hB
  rw [ht] at hI
  generalize H1 = H at hI hS ⊢
  refine W.widen (k := 0) (n := 0) (Nat.le_of_ble_eq_true rfl) (Nat.le_of_ble_eq_true rfl) ?_
  have w_13 : r_14.toInt = 0 ∨ (0 ≤ p1.toInt ∧ p1.toInt < 12) := w_13
  refine lv_if_ne (tgt := 21) hx hb dX11_script_8 (by decide) (fun c_15 => ?_) (fun c_15 => ?_)
  · have c_15 := kn_eq rfl (by decide : Int32.toInt 0 = 0) c_15
    refine lv_aload_n hx hb dX11_script_21 rfl (lv_at hl 0 rfl) ?_
    refine k_get (ci := 11) (v := .ref (gr g h0 3)) (C := RX11) (T := TX11) (N := 12) hx hb hts (fun _ h0_ => List.mem_cons_of_mem _ (List.mem_append_right _ (List.mem_append_left _ h0_))) hown hK hI i_h0.1 k_1 rfl 3 (by decide) (hts (.fieldLink RX11 37 "DeadlineShare" "now" "LDeadlineShare$State;") (List.mem_cons_of_mem _ (List.mem_append_left _ (List.mem_of_getElem? (i := 0) rfl)))) (fun _ h9 => h9) rfl dX11_script_22 ?_
    refine k_get (ci := 6) (v := .ref (gr g (gr g h0 3) 1)) (C := RX6) (T := TX6) (N := 10) hx hb hts (fun _ h0_ => List.mem_cons_of_mem _ (List.mem_append_right _ (List.mem_append_right _ (List.mem_append_right _ (List.mem_append_left _ h0_))))) hown hK hI i_4.1 k_5 rfl 1 (by decide) (hts (.fieldLink RX11 133 "DeadlineShare$State" "tasks" "[LDeadlineShare$Task;") (List.mem_cons_of_mem _ (List.mem_append_left _ (List.mem_of_getElem? (i := 5) rfl)))) (fun _ h9 => h9) rfl dX11_script_25 ?_
    have i_19 := kw_6_1 hG i_4
    refine lv_iload_n hx hb dX11_script_28 rfl (lv_at hl 1 rfl) ?_
    obtain ⟨q_21, k_20, b_22⟩ := op_20 hI i_19
    refine k_aald hx hb hK hI i_19.1 4 k_20 rfl (vp_in_iff.mpr (by omega)) b_22 (fun _ hj => kw_20 hG i_19 hj) dX11_script_29 (fun a_23 i_24 => ?_)
    refine lv_astore_n (lv' := [(2, .ref a_23), (0, .ref h0), (1, .int p1)]) hx hb dX11_script_30 rfl hl (by decide) rfl (fun ls hl => ?_)
    refine lv_aload_n hx hb dX11_script_31 rfl (lv_at hl 0 rfl) ?_
    obtain ⟨x_26, x_27, x_28, x_29, x_30, x_31, x_32, x_33, x_34, x_35, x_36, x_37, x_38, x_39, x_40, x_41, k_25⟩ := op_8 hI i_24
    refine k_get (ci := 8) (v := .int x_29) (C := RX8) (T := TX8) (N := 18) hx hb hts (fun _ h0_ => List.mem_cons_of_mem _ (List.mem_append_right _ (List.mem_append_right _ (List.mem_append_right _ (List.mem_append_right _ (List.mem_append_left _ h0_)))))) hown hK hI i_24.1 k_25 rfl 4 (by decide) (hts (.fieldLink RX11 137 "DeadlineShare$Task" "state" "I") (List.mem_cons_of_mem _ (List.mem_append_left _ (List.mem_of_getElem? (i := 6) rfl)))) (fun _ h9 => h9) rfl dX11_script_32 ?_
    have J_43 : ∀ (y_42 : Int32) (H : Heap) (locs : List Loc) (ls : Array Slot), Iv dC dI g A f H → va_S A s.heap H locs → lv_has ls 4 [(2, .ref a_23), (0, .ref h0), (1, .int p1)] → W p l e (headSpec wq_c_X11_script ({ frames := 8, cells := 0, slots := 0, locals := 180 } : Room)).room s m ([.ref h0, .int p1].toArray) below meth c H locs 0 0 (MQ below (va_Qi (fun (r : Int32) (_ : Unit) => True) (fun (_ : Unit) t => ∃ f1 : Nat → va_E, Iv dC dI g A f1 t.heap ∧ Kp g [1, 3, 4, 5, 6, 7, 8, 10, 11, 23, 24, 27, 28] f f1) A) ([.ref h0, .int p1].toArray) s 0 0 A) (F0 m 43 ls [.int y_42]) := by
      intro y_42 H locs ls hI hS  hl
      refine lv_istore_n (lv' := [(3, .int y_42), (2, .ref a_23), (0, .ref h0), (1, .int p1)]) hx hb dX11_script_43 rfl hl (by decide) rfl (fun ls hl => ?_)
      refine lv_iload_n hx hb dX11_script_44 rfl (lv_at hl 0 rfl) ?_
      have J_66 : ∀ (H : Heap) (locs : List Loc) (ls : Array Slot), Iv dC dI g A f H → va_S A s.heap H locs → lv_has ls 4 [(3, .int y_42), (2, .ref a_23), (0, .ref h0), (1, .int p1)] → W p l e (headSpec wq_c_X11_script ({ frames := 8, cells := 0, slots := 0, locals := 180 } : Room)).room s m ([.ref h0, .int p1].toArray) below meth c H locs 0 0 (MQ below (va_Qi (fun (r : Int32) (_ : Unit) => True) (fun (_ : Unit) t => ∃ f1 : Nat → va_E, Iv dC dI g A f1 t.heap ∧ Kp g [1, 3, 4, 5, 6, 7, 8, 10, 11, 23, 24, 27, 28] f f1) A) ([.ref h0, .int p1].toArray) s 0 0 A) (F0 m 66 ls []) := by
        intro H locs ls hI hS  hl
        refine lv_aload_n hx hb dX11_script_66 rfl (lv_at hl 2 rfl) ?_
        refine k_get (ci := 11) (v := .ref (gr g h0 10)) (C := RX11) (T := TX11) (N := 12) hx hb hts (fun _ h0_ => List.mem_cons_of_mem _ (List.mem_append_right _ (List.mem_append_left _ h0_))) hown hK hI i_h0.1 k_1 rfl 10 (by decide) (hts (.fieldLink RX11 72 "DeadlineShare" "refusals" "LDeadlineShare$Refusals;") (List.mem_cons_of_mem _ (List.mem_append_left _ (List.mem_of_getElem? (i := 7) rfl)))) (fun _ h9 => h9) rfl dX11_script_67 ?_
        have i_44 := kw_11_10 hG i_h0
        refine lv_bipush (v := (-4)) hx hb dX11_script_70 (by decide) ?_
        obtain ⟨x_46, k_45⟩ := op_4 hI i_44
        refine va_calli (va_runV (As := [.int (-4)]) (rest := []) ⟨hx, hb, hml, hown, hts⟩ (c_X4_add l dC dI g A hG f (gr g h0 10) (-4) i_44) (cwV 1 hts (gi_V (fun w_ h0_ => ⟨List.mem_cons_of_mem _ (List.mem_append_right _ (List.mem_append_right _ (List.mem_append_right _ (List.mem_append_right _ (List.mem_append_right _ (List.mem_append_left _ h0_)))))), (tb_c_X4_add w_ h0_).2⟩) (List.mem_cons_of_mem _ (List.mem_append_left _ (List.mem_of_getElem? (i := 8) rfl))) (List.mem_cons_of_mem _ (List.mem_append_left _ (List.mem_of_getElem? (i := 9) rfl))) (List.mem_cons_of_mem _ (List.mem_append_left _ (List.mem_of_getElem? (i := 10) rfl))) (List.mem_cons_of_mem _ (List.mem_append_left _ (List.mem_of_getElem? (i := 11) rfl)))) rfl rfl rfl (by decide +kernel) ⟨Nat.le_of_ble_eq_true rfl, Nat.le_of_ble_eq_true rfl⟩) ⟨fun a U g mk q => ⟨q.1, q.2.calling rfl rfl⟩, k_recv hK hI i_44.1 k_45 (ci := 4) rfl, fun U hU hW => ⟨rfl, kIn.of hI hK hE hS hU hW⟩⟩ rfl rfl hl.1 rfl (lv_room (Nat.le_of_ble_eq_true rfl)) dX11_script_72 ⟨Nat.le_of_ble_eq_true rfl, Nat.le_of_ble_eq_true rfl⟩) hS (fun q _ h => h) (fun q h => h) (fun r_49 u t H1 locs ht hvm w_48 hB hz1 hk1 hS => ?_)
        obtain ⟨f_47, hI, kc_50⟩ := hB
        rw [ht] at hI
        have k_51 : f_47 h0 = .inr (11, [.ref (gr g h0 0), .ref (gr g h0 1), .ref (gr g h0 2), .ref (gr g h0 3), .ref (gr g h0 4), .ref (gr g h0 5), .ref (gr g h0 6), .ref (gr g h0 7), .ref (gr g h0 8), .ref (gr g h0 9), .ref (gr g h0 10), .int x_2]) := Kp.at kc_50 i_h0 (by decide) k_1
        have k_52 : f_47 (gr g h0 3) = .inr (6, [.ref (gr g (gr g h0 3) 0), .ref (gr g (gr g h0 3) 1), .ref (gr g (gr g h0 3) 2), .ref (gr g (gr g h0 3) 3), .ref (gr g (gr g h0 3) 4), .int x_6, .int x_7, .long x_8, .int x_9, .int x_10]) := Kp.at kc_50 i_4 (by decide) k_5
        have k_53 : f_47 (gr g (gr g h0 3) 1) = .inl (gc g 4, 12, .inr (.inr (.inr (.inr q_21)))) := Kp.at kc_50 i_19 (by decide) k_20
        have k_54 : f_47 a_23 = .inr (8, [.int x_26, .ref (gr g a_23 1), .int x_27, .int x_28, .int x_29, .long x_30, .int x_31, .ref (gr g a_23 7), .int x_32, .int x_33, .int x_34, .int x_35, .int x_36, .int x_37, .int x_38, .int x_39, .int x_40, .int x_41]) := Kp.at kc_50 i_24 (by decide) k_25
        have kp_55 := Kp.call hk0 kc_50 (by decide)
        generalize H1 = H at hI hS ⊢
        refine W.widen (k := 0) (n := 0) (Nat.le_of_ble_eq_true rfl) (Nat.le_of_ble_eq_true rfl) ?_
        have w_48 : r_49.toInt = (-4 : Int32).toInt := w_48
        exact W.iret (v := r_49) hx hb hr (fun t ht hW => ⟨⟨r_49, (), rfl, trivial, ⟨f_47, k_ret ht hI, kp_55⟩⟩, hS.F ht⟩) hS.2.2 dX11_script_75
      have J_55 : ∀ (H : Heap) (locs : List Loc) (ls : Array Slot), Iv dC dI g A f H → va_S A s.heap H locs → lv_has ls 4 [(3, .int y_42), (2, .ref a_23), (0, .ref h0), (1, .int p1)] → W p l e (headSpec wq_c_X11_script ({ frames := 8, cells := 0, slots := 0, locals := 180 } : Room)).room s m ([.ref h0, .int p1].toArray) below meth c H locs 0 0 (MQ below (va_Qi (fun (r : Int32) (_ : Unit) => True) (fun (_ : Unit) t => ∃ f1 : Nat → va_E, Iv dC dI g A f1 t.heap ∧ Kp g [1, 3, 4, 5, 6, 7, 8, 10, 11, 23, 24, 27, 28] f f1) A) ([.ref h0, .int p1].toArray) s 0 0 A) (F0 m 55 ls []) := by
        intro H locs ls hI hS  hl
        refine lv_iload_n hx hb dX11_script_55 rfl (lv_at hl 0 rfl) ?_
        have J_76 : ∀ (H : Heap) (locs : List Loc) (ls : Array Slot), Iv dC dI g A f H → va_S A s.heap H locs → lv_has ls 4 [(3, .int y_42), (2, .ref a_23), (0, .ref h0), (1, .int p1)] → W p l e (headSpec wq_c_X11_script ({ frames := 8, cells := 0, slots := 0, locals := 180 } : Room)).room s m ([.ref h0, .int p1].toArray) below meth c H locs 0 0 (MQ below (va_Qi (fun (r : Int32) (_ : Unit) => True) (fun (_ : Unit) t => ∃ f1 : Nat → va_E, Iv dC dI g A f1 t.heap ∧ Kp g [1, 3, 4, 5, 6, 7, 8, 10, 11, 23, 24, 27, 28] f f1) A) ([.ref h0, .int p1].toArray) s 0 0 A) (F0 m 76 ls []) := by
          intro H locs ls hI hS  hl
          refine lv_iload_n hx hb dX11_script_76 rfl (lv_at hl 0 rfl) ?_
          have J_104 : ∀ (H : Heap) (locs : List Loc) (ls : Array Slot), Iv dC dI g A f H → va_S A s.heap H locs → lv_has ls 4 [(3, .int y_42), (2, .ref a_23), (0, .ref h0), (1, .int p1)] → W p l e (headSpec wq_c_X11_script ({ frames := 8, cells := 0, slots := 0, locals := 180 } : Room)).room s m ([.ref h0, .int p1].toArray) below meth c H locs 0 0 (MQ below (va_Qi (fun (r : Int32) (_ : Unit) => True) (fun (_ : Unit) t => ∃ f1 : Nat → va_E, Iv dC dI g A f1 t.heap ∧ Kp g [1, 3, 4, 5, 6, 7, 8, 10, 11, 23, 24, 27, 28] f f1) A) ([.ref h0, .int p1].toArray) s 0 0 A) (F0 m 104 ls []) := by
            intro H locs ls hI hS  hl
            refine lv_aload_n hx hb dX11_script_104 rfl (lv_at hl 2 rfl) ?_
            refine lv_aload_n hx hb dX11_script_105 rfl (lv_at hl 2 rfl) ?_
            refine k_get (ci := 11) (v := .ref (gr g h0 2)) (C := RX11) (T := TX11) (N := 12) hx hb hts (fun _ h0_ => List.mem_cons_of_mem _ (List.mem_append_right _ (List.mem_append_left _ h0_))) hown hK hI i_h0.1 k_1 rfl 2 (by decide) (hts (.fieldLink RX11 28 "DeadlineShare" "reader" "LDeadlineShare$Reader;") (List.mem_cons_of_mem _ (List.mem_append_left _ (List.mem_of_getElem? (i := 12) rfl)))) (fun _ h9 => h9) rfl dX11_script_106 ?_
            have i_57 := kw_11_2 hG i_h0
            refine lv_aload_n hx hb dX11_script_109 rfl (lv_at hl 2 rfl) ?_
            refine k_get (ci := 11) (v := .ref (gr g h0 1)) (C := RX11) (T := TX11) (N := 12) hx hb hts (fun _ h0_ => List.mem_cons_of_mem _ (List.mem_append_right _ (List.mem_append_left _ h0_))) hown hK hI i_h0.1 k_1 rfl 1 (by decide) (hts (.fieldLink RX11 21 "DeadlineShare" "tape" "LDeadlineShare$Tape;") (List.mem_cons_of_mem _ (List.mem_append_left _ (List.mem_of_getElem? (i := 13) rfl)))) (fun _ h9 => h9) rfl dX11_script_110 ?_
            have i_59 := kw_11_1 hG i_h0
            obtain ⟨x_61, k_60⟩ := op_3 hI i_57
            refine va_calli (va_runV (As := [.ref (gr g h0 1)]) (rest := [.ref h0]) ⟨hx, hb, hml, hown, hts⟩ (c_X3_read l dC dI g A hG f (gr g h0 2) (gr g h0 1) i_57 i_59) (cwV 1 hts (gi_V (fun w_ h0_ => ⟨List.mem_cons_of_mem _ (List.mem_append_right _ (List.mem_append_right _ (List.mem_append_right _ (List.mem_append_right _ (List.mem_append_right _ (List.mem_append_right _ (List.mem_append_left _ h0_))))))), (tb_c_X3_read w_ h0_).2⟩) (List.mem_cons_of_mem _ (List.mem_append_left _ (List.mem_of_getElem? (i := 14) rfl))) (List.mem_cons_of_mem _ (List.mem_append_left _ (List.mem_of_getElem? (i := 15) rfl))) (List.mem_cons_of_mem _ (List.mem_append_left _ (List.mem_of_getElem? (i := 16) rfl))) (List.mem_cons_of_mem _ (List.mem_append_left _ (List.mem_of_getElem? (i := 17) rfl)))) rfl rfl rfl (by decide +kernel) ⟨Nat.le_of_ble_eq_true rfl, Nat.le_of_ble_eq_true rfl⟩) ⟨fun a U g mk q => ⟨q.1, q.2.calling rfl rfl⟩, k_recv hK hI i_57.1 k_60 (ci := 3) rfl, fun U hU hW => ⟨rfl, kIn.of hI hK hE hS hU hW⟩⟩ rfl rfl hl.1 rfl (lv_room (Nat.le_of_ble_eq_true rfl)) dX11_script_113 ⟨Nat.le_of_ble_eq_true rfl, Nat.le_of_ble_eq_true rfl⟩) hS (fun q _ h => h) (fun q h => h) (fun r_64 u t H1 locs ht hvm w_63 hB hz1 hk1 hS => ?_)
            obtain ⟨f_62, hI, kc_65⟩ := hB
            rw [ht] at hI
            have k_66 : f_62 h0 = .inr (11, [.ref (gr g h0 0), .ref (gr g h0 1), .ref (gr g h0 2), .ref (gr g h0 3), .ref (gr g h0 4), .ref (gr g h0 5), .ref (gr g h0 6), .ref (gr g h0 7), .ref (gr g h0 8), .ref (gr g h0 9), .ref (gr g h0 10), .int x_2]) := Kp.at kc_65 i_h0 (by decide) k_1
            have k_67 : f_62 (gr g h0 3) = .inr (6, [.ref (gr g (gr g h0 3) 0), .ref (gr g (gr g h0 3) 1), .ref (gr g (gr g h0 3) 2), .ref (gr g (gr g h0 3) 3), .ref (gr g (gr g h0 3) 4), .int x_6, .int x_7, .long x_8, .int x_9, .int x_10]) := Kp.at kc_65 i_4 (by decide) k_5
            have k_68 : f_62 (gr g (gr g h0 3) 1) = .inl (gc g 4, 12, .inr (.inr (.inr (.inr q_21)))) := Kp.at kc_65 i_19 (by decide) k_20
            have k_69 : f_62 a_23 = .inr (8, [.int x_26, .ref (gr g a_23 1), .int x_27, .int x_28, .int x_29, .long x_30, .int x_31, .ref (gr g a_23 7), .int x_32, .int x_33, .int x_34, .int x_35, .int x_36, .int x_37, .int x_38, .int x_39, .int x_40, .int x_41]) := Kp.at kc_65 i_24 (by decide) k_25
            have kp_70 := Kp.call hk0 kc_65 (by decide)
            generalize H1 = H at hI hS ⊢
            refine W.widen (k := 0) (n := 0) (Nat.le_of_ble_eq_true rfl) (Nat.le_of_ble_eq_true rfl) ?_
            refine k_put (ci := 11) (v := .int r_64) (ty := .int) (C := RX11) (T := TX11) (N := 12) hx hb hts (fun _ h0_ => List.mem_cons_of_mem _ (List.mem_append_right _ (List.mem_append_left _ h0_))) tyX11 tyX11_ok nmX11 hown hK hI hS i_h0.1 k_66 rfl 11 (by decide) (hts (.fieldLink RX11 76 "DeadlineShare" "faultPlace" "I") (List.mem_cons_of_mem _ (List.mem_append_left _ (List.mem_of_getElem? (i := 18) rfl)))) (fun _ h9 => h9) rfl (by decide +kernel) rfl rfl (Nat.le_of_ble_eq_true rfl) rfl (cl_11 i_h0) dX11_script_116 (fun f_71 H locs e_72 hI hS => ?_)
            have k_74 : f_71 h0 = .inr (11, [.ref (gr g h0 0), .ref (gr g h0 1), .ref (gr g h0 2), .ref (gr g h0 3), .ref (gr g h0 4), .ref (gr g h0 5), .ref (gr g h0 6), .ref (gr g h0 7), .ref (gr g h0 8), .ref (gr g h0 9), .ref (gr g h0 10), .int r_64]) := by rw [e_72]; exact va_up_self _ _ _
            have k_75 : f_71 (gr g h0 3) = .inr (6, [.ref (gr g (gr g h0 3) 0), .ref (gr g (gr g h0 3) 1), .ref (gr g (gr g h0 3) 2), .ref (gr g (gr g h0 3) 3), .ref (gr g (gr g h0 3) 4), .int x_6, .int x_7, .long x_8, .int x_9, .int x_10]) := by rw [e_72, va_up_ne _ _ (ik_ne i_4 i_h0 (by decide))]; exact k_67
            have k_76 : f_71 (gr g (gr g h0 3) 1) = .inl (gc g 4, 12, .inr (.inr (.inr (.inr q_21)))) := by rw [e_72, va_up_ne _ _ (ik_ne i_19 i_h0 (by decide))]; exact k_68
            have k_77 : f_71 a_23 = .inr (8, [.int x_26, .ref (gr g a_23 1), .int x_27, .int x_28, .int x_29, .long x_30, .int x_31, .ref (gr g a_23 7), .int x_32, .int x_33, .int x_34, .int x_35, .int x_36, .int x_37, .int x_38, .int x_39, .int x_40, .int x_41]) := by rw [e_72, va_up_ne _ _ (ik_ne i_24 i_h0 (by decide))]; exact k_69
            have kp_73 := Kp.put kp_70 i_h0 (by decide) e_72
            refine lv_aload_n hx hb dX11_script_119 rfl (lv_at hl 2 rfl) ?_
            refine k_get (ci := 11) (v := .ref (gr g h0 1)) (C := RX11) (T := TX11) (N := 12) hx hb hts (fun _ h0_ => List.mem_cons_of_mem _ (List.mem_append_right _ (List.mem_append_left _ h0_))) hown hK hI i_h0.1 k_74 rfl 1 (by decide) (hts (.fieldLink RX11 21 "DeadlineShare" "tape" "LDeadlineShare$Tape;") (List.mem_cons_of_mem _ (List.mem_append_left _ (List.mem_of_getElem? (i := 13) rfl)))) (fun _ h9 => h9) rfl dX11_script_120 ?_
            refine lv_iconst (v := 0) hx hb dX11_script_123 (by decide) ?_
            obtain ⟨x_81, k_80⟩ := op_7 hI i_59
            refine k_put (ci := 7) (v := .int 0) (ty := .int) (C := RX7) (T := TX7) (N := 2) hx hb hts (fun _ h0_ => List.mem_cons_of_mem _ (List.mem_append_right _ (List.mem_append_right _ (List.mem_append_right _ (List.mem_append_right _ (List.mem_append_right _ (List.mem_append_right _ (List.mem_append_right _ (List.mem_append_left _ h0_))))))))) tyX7 tyX7_ok nmX7 hown hK hI hS i_59.1 k_80 rfl 1 (by decide) (hts (.fieldLink RX11 106 "DeadlineShare$Tape" "length" "I") (List.mem_cons_of_mem _ (List.mem_append_left _ (List.mem_of_getElem? (i := 19) rfl)))) (fun _ h9 => h9) rfl (by decide +kernel) rfl rfl (Nat.le_of_ble_eq_true rfl) rfl (cl_7 i_59) dX11_script_124 (fun f_82 H locs e_83 hI hS => ?_)
            have k_85 : f_82 h0 = .inr (11, [.ref (gr g h0 0), .ref (gr g h0 1), .ref (gr g h0 2), .ref (gr g h0 3), .ref (gr g h0 4), .ref (gr g h0 5), .ref (gr g h0 6), .ref (gr g h0 7), .ref (gr g h0 8), .ref (gr g h0 9), .ref (gr g h0 10), .int r_64]) := by rw [e_83, va_up_ne _ _ (ik_ne i_h0 i_59 (by decide))]; exact k_74
            have k_86 : f_82 (gr g h0 3) = .inr (6, [.ref (gr g (gr g h0 3) 0), .ref (gr g (gr g h0 3) 1), .ref (gr g (gr g h0 3) 2), .ref (gr g (gr g h0 3) 3), .ref (gr g (gr g h0 3) 4), .int x_6, .int x_7, .long x_8, .int x_9, .int x_10]) := by rw [e_83, va_up_ne _ _ (ik_ne i_4 i_59 (by decide))]; exact k_75
            have k_87 : f_82 (gr g (gr g h0 3) 1) = .inl (gc g 4, 12, .inr (.inr (.inr (.inr q_21)))) := by rw [e_83, va_up_ne _ _ (ik_ne i_19 i_59 (by decide))]; exact k_76
            have k_88 : f_82 a_23 = .inr (8, [.int x_26, .ref (gr g a_23 1), .int x_27, .int x_28, .int x_29, .long x_30, .int x_31, .ref (gr g a_23 7), .int x_32, .int x_33, .int x_34, .int x_35, .int x_36, .int x_37, .int x_38, .int x_39, .int x_40, .int x_41]) := by rw [e_83, va_up_ne _ _ (ik_ne i_24 i_59 (by decide))]; exact k_77
            have k_89 : f_82 (gr g h0 1) = .inr (7, [.ref (gr g (gr g h0 1) 0), .int 0]) := by rw [e_83]; exact va_up_self _ _ _
            have kp_84 := Kp.put kp_73 i_59 (by decide) e_83
            refine lv_aload_n hx hb dX11_script_127 rfl (lv_at hl 2 rfl) ?_
            refine k_get (ci := 11) (v := .int r_64) (C := RX11) (T := TX11) (N := 12) hx hb hts (fun _ h0_ => List.mem_cons_of_mem _ (List.mem_append_right _ (List.mem_append_left _ h0_))) hown hK hI i_h0.1 k_85 rfl 11 (by decide) (hts (.fieldLink RX11 76 "DeadlineShare" "faultPlace" "I") (List.mem_cons_of_mem _ (List.mem_append_left _ (List.mem_of_getElem? (i := 18) rfl)))) (fun _ h9 => h9) rfl dX11_script_128 ?_
            refine lv_iconst (v := (-1)) hx hb dX11_script_131 (by decide) ?_
            refine lv_icmp_eq (tgt := 145) hx hb dX11_script_132 (by decide) (fun c_90 => ?_) (fun c_90 => ?_)
            · have c_90 := kc_eq rfl (by decide : Int32.toInt (-1) = (-1)) c_90
              refine lv_aload_n hx hb dX11_script_145 rfl (lv_at hl 2 rfl) ?_
              refine k_get (ci := 11) (v := .ref (gr g h0 9)) (C := RX11) (T := TX11) (N := 12) hx hb hts (fun _ h0_ => List.mem_cons_of_mem _ (List.mem_append_right _ (List.mem_append_left _ h0_))) hown hK hI i_h0.1 k_85 rfl 9 (by decide) (hts (.fieldLink RX11 65 "DeadlineShare" "history" "LDeadlineShare$History;") (List.mem_cons_of_mem _ (List.mem_append_left _ (List.mem_of_getElem? (i := 20) rfl)))) (fun _ h9 => h9) rfl dX11_script_146 ?_
              have i_92 := kw_11_9 hG i_h0
              refine lv_aload_n hx hb dX11_script_149 rfl (lv_at hl 2 rfl) ?_
              refine k_get (ci := 11) (v := .ref (gr g h0 3)) (C := RX11) (T := TX11) (N := 12) hx hb hts (fun _ h0_ => List.mem_cons_of_mem _ (List.mem_append_right _ (List.mem_append_left _ h0_))) hown hK hI i_h0.1 k_85 rfl 3 (by decide) (hts (.fieldLink RX11 37 "DeadlineShare" "now" "LDeadlineShare$State;") (List.mem_cons_of_mem _ (List.mem_append_left _ (List.mem_of_getElem? (i := 0) rfl)))) (fun _ h9 => h9) rfl dX11_script_150 ?_
              refine lv_iconst (v := 5) hx hb dX11_script_153 (by decide) ?_
              obtain ⟨x_96, x_97, k_95⟩ := op_1 hI i_92
              refine va_callv (va_runV (As := [.ref (gr g h0 3), .int 5]) (rest := []) ⟨hx, hb, hml, hown, hts⟩ (c_X1_keep l dC dI g A hG f_82 (gr g h0 9) (gr g h0 3) 5 i_92 i_4) (cwV 2 hts (gi_V (fun w_ h0_ => ⟨List.mem_cons_of_mem _ (List.mem_append_right _ (List.mem_append_right _ (List.mem_append_right _ (List.mem_append_right _ (List.mem_append_right _ (List.mem_append_right _ (List.mem_append_right _ (List.mem_append_right _ (List.mem_append_left _ h0_))))))))), (tb_c_X1_keep w_ h0_).2⟩) (List.mem_cons_of_mem _ (List.mem_append_left _ (List.mem_of_getElem? (i := 21) rfl))) (List.mem_cons_of_mem _ (List.mem_append_left _ (List.mem_of_getElem? (i := 22) rfl))) (List.mem_cons_of_mem _ (List.mem_append_left _ (List.mem_of_getElem? (i := 23) rfl))) (List.mem_cons_of_mem _ (List.mem_append_left _ (List.mem_of_getElem? (i := 24) rfl)))) rfl rfl rfl (by decide +kernel) ⟨Nat.le_of_ble_eq_true rfl, Nat.le_of_ble_eq_true rfl⟩) ⟨fun a U g mk q => ⟨q.1, q.2.calling rfl rfl⟩, k_recv hK hI i_92.1 k_95 (ci := 1) rfl, fun U hU hW => ⟨rfl, kIn.of hI hK hE hS hU hW⟩⟩ rfl rfl hl.1 rfl (lv_room (Nat.le_of_ble_eq_true rfl)) dX11_script_154 ⟨Nat.le_of_ble_eq_true rfl, Nat.le_of_ble_eq_true rfl⟩) hS (fun q _ h => h) (fun q h => h) (fun u t H1 locs ht hvm _ hB hz1 hk1 hS => ?_)
              obtain ⟨f_98, hI, kc_100⟩ := hB
              rw [ht] at hI
              have k_101 : f_98 h0 = .inr (11, [.ref (gr g h0 0), .ref (gr g h0 1), .ref (gr g h0 2), .ref (gr g h0 3), .ref (gr g h0 4), .ref (gr g h0 5), .ref (gr g h0 6), .ref (gr g h0 7), .ref (gr g h0 8), .ref (gr g h0 9), .ref (gr g h0 10), .int r_64]) := Kp.at kc_100 i_h0 (by decide) k_85
              have k_102 : f_98 (gr g (gr g h0 3) 1) = .inl (gc g 4, 12, .inr (.inr (.inr (.inr q_21)))) := Kp.at kc_100 i_19 (by decide) k_87
              have k_103 : f_98 (gr g h0 1) = .inr (7, [.ref (gr g (gr g h0 1) 0), .int 0]) := Kp.at kc_100 i_59 (by decide) k_89
              have kp_104 := Kp.call kp_84 kc_100 (by decide)
              generalize H1 = H at hI hS ⊢
              refine W.widen (k := 0) (n := 0) (Nat.le_of_ble_eq_true rfl) (Nat.le_of_ble_eq_true rfl) ?_
              refine lv_aload_n hx hb dX11_script_157 rfl (lv_at hl 2 rfl) ?_
              refine k_get (ci := 11) (v := .ref (gr g h0 3)) (C := RX11) (T := TX11) (N := 12) hx hb hts (fun _ h0_ => List.mem_cons_of_mem _ (List.mem_append_right _ (List.mem_append_left _ h0_))) hown hK hI i_h0.1 k_101 rfl 3 (by decide) (hts (.fieldLink RX11 37 "DeadlineShare" "now" "LDeadlineShare$State;") (List.mem_cons_of_mem _ (List.mem_append_left _ (List.mem_of_getElem? (i := 0) rfl)))) (fun _ h9 => h9) rfl dX11_script_158 ?_
              refine lv_aload_n hx hb dX11_script_161 rfl (lv_at hl 1 rfl) ?_
              refine lv_aload_n hx hb dX11_script_162 rfl (lv_at hl 2 rfl) ?_
              refine k_get (ci := 11) (v := .ref (gr g h0 2)) (C := RX11) (T := TX11) (N := 12) hx hb hts (fun _ h0_ => List.mem_cons_of_mem _ (List.mem_append_right _ (List.mem_append_left _ h0_))) hown hK hI i_h0.1 k_101 rfl 2 (by decide) (hts (.fieldLink RX11 28 "DeadlineShare" "reader" "LDeadlineShare$Reader;") (List.mem_cons_of_mem _ (List.mem_append_left _ (List.mem_of_getElem? (i := 12) rfl)))) (fun _ h9 => h9) rfl dX11_script_163 ?_
              obtain ⟨x_110, k_109⟩ := op_3 hI i_57
              refine k_get (ci := 3) (v := .ref (gr g (gr g h0 2) 0)) (C := RX3) (T := TX3) (N := 2) hx hb hts (fun _ h0_ => List.mem_cons_of_mem _ (List.mem_append_right _ (List.mem_append_right _ (List.mem_append_right _ (List.mem_append_right _ (List.mem_append_right _ (List.mem_append_right _ (List.mem_append_right _ (List.mem_append_right _ (List.mem_append_right _ (List.mem_append_left _ h0_))))))))))) hown hK hI i_57.1 k_109 rfl 0 (by decide) (hts (.fieldLink RX11 208 "DeadlineShare$Reader" "script" "LDeadlineShare$Script;") (List.mem_cons_of_mem _ (List.mem_append_left _ (List.mem_of_getElem? (i := 25) rfl)))) (fun _ h9 => h9) rfl dX11_script_166 ?_
              have i_112 := kw_3_0 hG i_57
              obtain ⟨x_114, x_115, x_116, x_117, x_118, k_113, b_119, b_120⟩ := op_6 hI i_4
              refine va_callv (va_runV (As := [.ref a_23, .ref (gr g (gr g h0 2) 0)]) (rest := []) ⟨hx, hb, hml, hown, hts⟩ (c_X6_startScript l dC dI g A hG f_98 (gr g h0 3) a_23 (gr g (gr g h0 2) 0) i_4 i_24 i_112) (cwV 2 hts (gi_V (fun w_ h0_ => ⟨List.mem_cons_of_mem _ (List.mem_append_right _ (List.mem_append_right _ (List.mem_append_right _ (List.mem_append_right _ (List.mem_append_right _ (List.mem_append_right _ (List.mem_append_right _ (List.mem_append_right _ (List.mem_append_right _ (List.mem_append_right _ (List.mem_append_left _ h0_))))))))))), (tb_c_X6_startScript w_ h0_).2⟩) (List.mem_cons_of_mem _ (List.mem_append_left _ (List.mem_of_getElem? (i := 26) rfl))) (List.mem_cons_of_mem _ (List.mem_append_left _ (List.mem_of_getElem? (i := 27) rfl))) (List.mem_cons_of_mem _ (List.mem_append_left _ (List.mem_of_getElem? (i := 28) rfl))) (List.mem_cons_of_mem _ (List.mem_append_left _ (List.mem_of_getElem? (i := 4) rfl)))) rfl rfl rfl (by decide +kernel) ⟨Nat.le_of_ble_eq_true rfl, Nat.le_of_ble_eq_true rfl⟩) ⟨fun a U g mk q => ⟨q.1, q.2.calling rfl rfl⟩, k_recv hK hI i_4.1 k_113 (ci := 6) rfl, fun U hU hW => ⟨rfl, kIn.of hI hK hE hS hU hW⟩⟩ rfl rfl hl.1 rfl (lv_room (Nat.le_of_ble_eq_true rfl)) dX11_script_169 ⟨Nat.le_of_ble_eq_true rfl, Nat.le_of_ble_eq_true rfl⟩) hS (fun q _ h => h) (fun q h => h) (fun u t H1 locs ht hvm _ hB hz1 hk1 hS => ?_)
              obtain ⟨f_121, hI, kc_123⟩ := hB
              rw [ht] at hI
              have k_124 : f_121 h0 = .inr (11, [.ref (gr g h0 0), .ref (gr g h0 1), .ref (gr g h0 2), .ref (gr g h0 3), .ref (gr g h0 4), .ref (gr g h0 5), .ref (gr g h0 6), .ref (gr g h0 7), .ref (gr g h0 8), .ref (gr g h0 9), .ref (gr g h0 10), .int r_64]) := Kp.at kc_123 i_h0 (by decide) k_101
              have k_125 : f_121 (gr g (gr g h0 3) 1) = .inl (gc g 4, 12, .inr (.inr (.inr (.inr q_21)))) := Kp.at kc_123 i_19 (by decide) k_102
              have k_126 : f_121 (gr g h0 1) = .inr (7, [.ref (gr g (gr g h0 1) 0), .int 0]) := Kp.at kc_123 i_59 (by decide) k_103
              have k_127 : f_121 (gr g h0 2) = .inr (3, [.ref (gr g (gr g h0 2) 0), .int x_110]) := Kp.at kc_123 i_57 (by decide) k_109
              have kp_128 := Kp.call kp_104 kc_123 (by decide)
              generalize H1 = H at hI hS ⊢
              refine W.widen (k := 0) (n := 0) (Nat.le_of_ble_eq_true rfl) (Nat.le_of_ble_eq_true rfl) ?_
              refine lv_aload_n hx hb dX11_script_172 rfl (lv_at hl 2 rfl) ?_
              refine k_get (ci := 11) (v := .ref (gr g h0 10)) (C := RX11) (T := TX11) (N := 12) hx hb hts (fun _ h0_ => List.mem_cons_of_mem _ (List.mem_append_right _ (List.mem_append_left _ h0_))) hown hK hI i_h0.1 k_124 rfl 10 (by decide) (hts (.fieldLink RX11 72 "DeadlineShare" "refusals" "LDeadlineShare$Refusals;") (List.mem_cons_of_mem _ (List.mem_append_left _ (List.mem_of_getElem? (i := 7) rfl)))) (fun _ h9 => h9) rfl dX11_script_173 ?_
              have i_130 := kw_11_10 hG i_h0
              refine lv_aload_n hx hb dX11_script_176 rfl (lv_at hl 2 rfl) ?_
              refine k_get (ci := 11) (v := .ref (gr g h0 2)) (C := RX11) (T := TX11) (N := 12) hx hb hts (fun _ h0_ => List.mem_cons_of_mem _ (List.mem_append_right _ (List.mem_append_left _ h0_))) hown hK hI i_h0.1 k_124 rfl 2 (by decide) (hts (.fieldLink RX11 28 "DeadlineShare" "reader" "LDeadlineShare$Reader;") (List.mem_cons_of_mem _ (List.mem_append_left _ (List.mem_of_getElem? (i := 12) rfl)))) (fun _ h9 => h9) rfl dX11_script_177 ?_
              refine k_get (ci := 3) (v := .ref (gr g (gr g h0 2) 0)) (C := RX3) (T := TX3) (N := 2) hx hb hts (fun _ h0_ => List.mem_cons_of_mem _ (List.mem_append_right _ (List.mem_append_right _ (List.mem_append_right _ (List.mem_append_right _ (List.mem_append_right _ (List.mem_append_right _ (List.mem_append_right _ (List.mem_append_right _ (List.mem_append_right _ (List.mem_append_left _ h0_))))))))))) hown hK hI i_57.1 k_127 rfl 0 (by decide) (hts (.fieldLink RX11 208 "DeadlineShare$Reader" "script" "LDeadlineShare$Script;") (List.mem_cons_of_mem _ (List.mem_append_left _ (List.mem_of_getElem? (i := 25) rfl)))) (fun _ h9 => h9) rfl dX11_script_180 ?_
              obtain ⟨x_136, x_137, x_138, x_139, k_135, b_140, b_141⟩ := op_5 hI i_112
              refine k_get (ci := 5) (v := .int x_136) (C := RX5) (T := TX5) (N := 5) hx hb hts (fun _ h0_ => List.mem_cons_of_mem _ (List.mem_append_right _ (List.mem_append_right _ (List.mem_append_right _ (List.mem_append_right _ (List.mem_append_right _ (List.mem_append_right _ (List.mem_append_right _ (List.mem_append_right _ (List.mem_append_right _ (List.mem_append_right _ (List.mem_append_right _ (List.mem_append_left _ h0_))))))))))))) hown hK hI i_112.1 k_135 rfl 1 (by decide) (hts (.fieldLink RX11 213 "DeadlineShare$Script" "size" "I") (List.mem_cons_of_mem _ (List.mem_append_left _ (List.mem_of_getElem? (i := 29) rfl)))) (fun _ h9 => h9) rfl dX11_script_183 ?_
              obtain ⟨x_143, k_142⟩ := op_4 hI i_130
              refine va_calli (va_runV (As := [.int x_136]) (rest := []) ⟨hx, hb, hml, hown, hts⟩ (c_X4_none l dC dI g A hG f_121 (gr g h0 10) x_136 i_130) (cwV 1 hts (gi_V (fun w_ h0_ => ⟨List.mem_cons_of_mem _ (List.mem_append_right _ (List.mem_append_right _ (List.mem_append_right _ (List.mem_append_right _ (List.mem_append_right _ (List.mem_append_right _ (List.mem_append_right _ (List.mem_append_right _ (List.mem_append_right _ (List.mem_append_right _ (List.mem_append_right _ (List.mem_append_right _ (List.mem_append_left _ h0_))))))))))))), (tb_c_X4_none w_ h0_).2⟩) (List.mem_cons_of_mem _ (List.mem_append_left _ (List.mem_of_getElem? (i := 30) rfl))) (List.mem_cons_of_mem _ (List.mem_append_left _ (List.mem_of_getElem? (i := 31) rfl))) (List.mem_cons_of_mem _ (List.mem_append_left _ (List.mem_of_getElem? (i := 32) rfl))) (List.mem_cons_of_mem _ (List.mem_append_left _ (List.mem_of_getElem? (i := 11) rfl)))) rfl rfl rfl (by decide +kernel) ⟨Nat.le_of_ble_eq_true rfl, Nat.le_of_ble_eq_true rfl⟩) ⟨fun a U g mk q => ⟨q.1, q.2.calling rfl rfl⟩, k_recv hK hI i_130.1 k_142 (ci := 4) rfl, fun U hU hW => ⟨rfl, kIn.of hI hK hE hS hU hW⟩⟩ rfl rfl hl.1 rfl (lv_room (Nat.le_of_ble_eq_true rfl)) dX11_script_186 ⟨Nat.le_of_ble_eq_true rfl, Nat.le_of_ble_eq_true rfl⟩) hS (fun q _ h => h) (fun q h => h) (fun r_146 u t H1 locs ht hvm w_145 hB hz1 hk1 hS => ?_)
              obtain ⟨f_144, hI, kc_147⟩ := hB
              rw [ht] at hI
              have k_148 : f_144 h0 = .inr (11, [.ref (gr g h0 0), .ref (gr g h0 1), .ref (gr g h0 2), .ref (gr g h0 3), .ref (gr g h0 4), .ref (gr g h0 5), .ref (gr g h0 6), .ref (gr g h0 7), .ref (gr g h0 8), .ref (gr g h0 9), .ref (gr g h0 10), .int r_64]) := Kp.at kc_147 i_h0 (by decide) k_124
              have k_149 : f_144 (gr g (gr g h0 3) 1) = .inl (gc g 4, 12, .inr (.inr (.inr (.inr q_21)))) := Kp.at kc_147 i_19 (by decide) k_125
              have k_150 : f_144 (gr g h0 1) = .inr (7, [.ref (gr g (gr g h0 1) 0), .int 0]) := Kp.at kc_147 i_59 (by decide) k_126
              have k_151 : f_144 (gr g h0 2) = .inr (3, [.ref (gr g (gr g h0 2) 0), .int x_110]) := Kp.at kc_147 i_57 (by decide) k_127
              have k_152 : f_144 (gr g (gr g h0 2) 0) = .inr (5, [.ref (gr g (gr g (gr g h0 2) 0) 0), .int x_136, .int x_137, .int x_138, .int x_139]) := Kp.at kc_147 i_112 (by decide) k_135
              have kp_153 := Kp.call kp_128 kc_147 (by decide)
              generalize H1 = H at hI hS ⊢
              refine W.widen (k := 0) (n := 0) (Nat.le_of_ble_eq_true rfl) (Nat.le_of_ble_eq_true rfl) ?_
              have w_145 : r_146.toInt = x_136.toInt := w_145
              exact W.iret (v := r_146) hx hb hr (fun t ht hW => ⟨⟨r_146, (), rfl, trivial, ⟨f_144, k_ret ht hI, kp_153⟩⟩, hS.F ht⟩) hS.2.2 dX11_script_189
            · have c_90 := kn_eq rfl (by decide : Int32.toInt (-1) = (-1)) c_90
              refine lv_aload_n hx hb dX11_script_135 rfl (lv_at hl 2 rfl) ?_
              refine k_get (ci := 11) (v := .ref (gr g h0 10)) (C := RX11) (T := TX11) (N := 12) hx hb hts (fun _ h0_ => List.mem_cons_of_mem _ (List.mem_append_right _ (List.mem_append_left _ h0_))) hown hK hI i_h0.1 k_85 rfl 10 (by decide) (hts (.fieldLink RX11 72 "DeadlineShare" "refusals" "LDeadlineShare$Refusals;") (List.mem_cons_of_mem _ (List.mem_append_left _ (List.mem_of_getElem? (i := 7) rfl)))) (fun _ h9 => h9) rfl dX11_script_136 ?_
              have i_155 := kw_11_10 hG i_h0
              refine lv_bipush (v := (-6)) hx hb dX11_script_139 (by decide) ?_
              obtain ⟨x_157, k_156⟩ := op_4 hI i_155
              refine va_calli (va_runV (As := [.int (-6)]) (rest := []) ⟨hx, hb, hml, hown, hts⟩ (c_X4_add l dC dI g A hG f_82 (gr g h0 10) (-6) i_155) (cwV 1 hts (gi_V (fun w_ h0_ => ⟨List.mem_cons_of_mem _ (List.mem_append_right _ (List.mem_append_right _ (List.mem_append_right _ (List.mem_append_right _ (List.mem_append_right _ (List.mem_append_left _ h0_)))))), (tb_c_X4_add w_ h0_).2⟩) (List.mem_cons_of_mem _ (List.mem_append_left _ (List.mem_of_getElem? (i := 8) rfl))) (List.mem_cons_of_mem _ (List.mem_append_left _ (List.mem_of_getElem? (i := 9) rfl))) (List.mem_cons_of_mem _ (List.mem_append_left _ (List.mem_of_getElem? (i := 10) rfl))) (List.mem_cons_of_mem _ (List.mem_append_left _ (List.mem_of_getElem? (i := 11) rfl)))) rfl rfl rfl (by decide +kernel) ⟨Nat.le_of_ble_eq_true rfl, Nat.le_of_ble_eq_true rfl⟩) ⟨fun a U g mk q => ⟨q.1, q.2.calling rfl rfl⟩, k_recv hK hI i_155.1 k_156 (ci := 4) rfl, fun U hU hW => ⟨rfl, kIn.of hI hK hE hS hU hW⟩⟩ rfl rfl hl.1 rfl (lv_room (Nat.le_of_ble_eq_true rfl)) dX11_script_141 ⟨Nat.le_of_ble_eq_true rfl, Nat.le_of_ble_eq_true rfl⟩) hS (fun q _ h => h) (fun q h => h) (fun r_160 u t H1 locs ht hvm w_159 hB hz1 hk1 hS => ?_)
              obtain ⟨f_158, hI, kc_161⟩ := hB
              rw [ht] at hI
              have k_162 : f_158 h0 = .inr (11, [.ref (gr g h0 0), .ref (gr g h0 1), .ref (gr g h0 2), .ref (gr g h0 3), .ref (gr g h0 4), .ref (gr g h0 5), .ref (gr g h0 6), .ref (gr g h0 7), .ref (gr g h0 8), .ref (gr g h0 9), .ref (gr g h0 10), .int r_64]) := Kp.at kc_161 i_h0 (by decide) k_85
              have k_163 : f_158 (gr g h0 3) = .inr (6, [.ref (gr g (gr g h0 3) 0), .ref (gr g (gr g h0 3) 1), .ref (gr g (gr g h0 3) 2), .ref (gr g (gr g h0 3) 3), .ref (gr g (gr g h0 3) 4), .int x_6, .int x_7, .long x_8, .int x_9, .int x_10]) := Kp.at kc_161 i_4 (by decide) k_86
              have k_164 : f_158 (gr g (gr g h0 3) 1) = .inl (gc g 4, 12, .inr (.inr (.inr (.inr q_21)))) := Kp.at kc_161 i_19 (by decide) k_87
              have k_165 : f_158 a_23 = .inr (8, [.int x_26, .ref (gr g a_23 1), .int x_27, .int x_28, .int x_29, .long x_30, .int x_31, .ref (gr g a_23 7), .int x_32, .int x_33, .int x_34, .int x_35, .int x_36, .int x_37, .int x_38, .int x_39, .int x_40, .int x_41]) := Kp.at kc_161 i_24 (by decide) k_88
              have k_166 : f_158 (gr g h0 1) = .inr (7, [.ref (gr g (gr g h0 1) 0), .int 0]) := Kp.at kc_161 i_59 (by decide) k_89
              have kp_167 := Kp.call kp_84 kc_161 (by decide)
              generalize H1 = H at hI hS ⊢
              refine W.widen (k := 0) (n := 0) (Nat.le_of_ble_eq_true rfl) (Nat.le_of_ble_eq_true rfl) ?_
              have w_159 : r_160.toInt = (-6 : Int32).toInt := w_159
              exact W.iret (v := r_160) hx hb hr (fun t ht hW => ⟨⟨r_160, (), rfl, trivial, ⟨f_158, k_ret ht hI, kp_167⟩⟩, hS.F ht⟩) hS.2.2 dX11_script_144
          refine lv_if_eq (tgt := 104) hx hb dX11_script_77 (by decide) (fun c_168 => ?_) (fun c_168 => ?_)
          · have c_168 := kc_eq rfl (by decide : Int32.toInt 0 = 0) c_168
            exact J_104  _ _ _ hI hS  (lv_sub hl [0, 1, 2, 3] rfl)
          · have c_168 := kn_eq rfl (by decide : Int32.toInt 0 = 0) c_168
            refine lv_aload_n hx hb dX11_script_80 rfl (lv_at hl 2 rfl) ?_
            refine k_get (ci := 11) (v := .ref (gr g h0 3)) (C := RX11) (T := TX11) (N := 12) hx hb hts (fun _ h0_ => List.mem_cons_of_mem _ (List.mem_append_right _ (List.mem_append_left _ h0_))) hown hK hI i_h0.1 k_1 rfl 3 (by decide) (hts (.fieldLink RX11 37 "DeadlineShare" "now" "LDeadlineShare$State;") (List.mem_cons_of_mem _ (List.mem_append_left _ (List.mem_of_getElem? (i := 0) rfl)))) (fun _ h9 => h9) rfl dX11_script_81 ?_
            refine lv_aload_n hx hb dX11_script_84 rfl (lv_at hl 1 rfl) ?_
            refine k_get (ci := 8) (v := .int x_27) (C := RX8) (T := TX8) (N := 18) hx hb hts (fun _ h0_ => List.mem_cons_of_mem _ (List.mem_append_right _ (List.mem_append_right _ (List.mem_append_right _ (List.mem_append_right _ (List.mem_append_left _ h0_)))))) hown hK hI i_24.1 k_25 rfl 2 (by decide) (hts (.fieldLink RX11 145 "DeadlineShare$Task" "weight" "I") (List.mem_cons_of_mem _ (List.mem_append_left _ (List.mem_of_getElem? (i := 33) rfl)))) (fun _ h9 => h9) rfl dX11_script_85 ?_
            refine va_calli (va_runV (As := [.int x_27]) (rest := []) ⟨hx, hb, hml, hown, hts⟩ (c_X6_hasRoomFor l dC dI g A hG f (gr g h0 3) x_27 i_4) (cwV 1 hts (gi_V (fun w_ h0_ => ⟨List.mem_cons_of_mem _ (List.mem_append_right _ (List.mem_append_right _ (List.mem_append_right _ (List.mem_append_right _ (List.mem_append_right _ (List.mem_append_right _ (List.mem_append_right _ (List.mem_append_right _ (List.mem_append_right _ (List.mem_append_right _ (List.mem_append_right _ (List.mem_append_right _ (List.mem_append_right _ (List.mem_append_left _ h0_)))))))))))))), (tb_c_X6_hasRoomFor w_ h0_).2⟩) (List.mem_cons_of_mem _ (List.mem_append_left _ (List.mem_of_getElem? (i := 34) rfl))) (List.mem_cons_of_mem _ (List.mem_append_left _ (List.mem_of_getElem? (i := 35) rfl))) (List.mem_cons_of_mem _ (List.mem_append_left _ (List.mem_of_getElem? (i := 36) rfl))) (List.mem_cons_of_mem _ (List.mem_append_left _ (List.mem_of_getElem? (i := 4) rfl)))) rfl rfl rfl (by decide +kernel) ⟨Nat.le_of_ble_eq_true rfl, Nat.le_of_ble_eq_true rfl⟩) ⟨fun a U g mk q => ⟨q.1, q.2.calling rfl rfl⟩, k_recv hK hI i_4.1 k_5 (ci := 6) rfl, fun U hU hW => ⟨rfl, kIn.of hI hK hE hS hU hW⟩⟩ rfl rfl hl.1 rfl (lv_room (Nat.le_of_ble_eq_true rfl)) dX11_script_88 ⟨Nat.le_of_ble_eq_true rfl, Nat.le_of_ble_eq_true rfl⟩) hS (fun q _ h => h) (fun q h => h) (fun r_172 u t H1 locs ht hvm w_171 hB hz1 hk1 hS => ?_)
            have hI : Iv dC dI g A f t.heap := hB
            rw [ht] at hI
            generalize H1 = H at hI hS ⊢
            refine W.widen (k := 0) (n := 0) (Nat.le_of_ble_eq_true rfl) (Nat.le_of_ble_eq_true rfl) ?_
            refine lv_if_ne (tgt := 104) hx hb dX11_script_91 (by decide) (fun c_173 => ?_) (fun c_173 => ?_)
            · have c_173 := kn_eq rfl (by decide : Int32.toInt 0 = 0) c_173
              exact J_104  _ _ _ hI hS  (lv_sub hl [0, 1, 2, 3] rfl)
            · have c_173 := kc_eq rfl (by decide : Int32.toInt 0 = 0) c_173
              refine lv_aload_n hx hb dX11_script_94 rfl (lv_at hl 2 rfl) ?_
              refine k_get (ci := 11) (v := .ref (gr g h0 10)) (C := RX11) (T := TX11) (N := 12) hx hb hts (fun _ h0_ => List.mem_cons_of_mem _ (List.mem_append_right _ (List.mem_append_left _ h0_))) hown hK hI i_h0.1 k_1 rfl 10 (by decide) (hts (.fieldLink RX11 72 "DeadlineShare" "refusals" "LDeadlineShare$Refusals;") (List.mem_cons_of_mem _ (List.mem_append_left _ (List.mem_of_getElem? (i := 7) rfl)))) (fun _ h9 => h9) rfl dX11_script_95 ?_
              have i_175 := kw_11_10 hG i_h0
              refine lv_bipush (v := (-5)) hx hb dX11_script_98 (by decide) ?_
              obtain ⟨x_177, k_176⟩ := op_4 hI i_175
              refine va_calli (va_runV (As := [.int (-5)]) (rest := []) ⟨hx, hb, hml, hown, hts⟩ (c_X4_add l dC dI g A hG f (gr g h0 10) (-5) i_175) (cwV 1 hts (gi_V (fun w_ h0_ => ⟨List.mem_cons_of_mem _ (List.mem_append_right _ (List.mem_append_right _ (List.mem_append_right _ (List.mem_append_right _ (List.mem_append_right _ (List.mem_append_left _ h0_)))))), (tb_c_X4_add w_ h0_).2⟩) (List.mem_cons_of_mem _ (List.mem_append_left _ (List.mem_of_getElem? (i := 8) rfl))) (List.mem_cons_of_mem _ (List.mem_append_left _ (List.mem_of_getElem? (i := 9) rfl))) (List.mem_cons_of_mem _ (List.mem_append_left _ (List.mem_of_getElem? (i := 10) rfl))) (List.mem_cons_of_mem _ (List.mem_append_left _ (List.mem_of_getElem? (i := 11) rfl)))) rfl rfl rfl (by decide +kernel) ⟨Nat.le_of_ble_eq_true rfl, Nat.le_of_ble_eq_true rfl⟩) ⟨fun a U g mk q => ⟨q.1, q.2.calling rfl rfl⟩, k_recv hK hI i_175.1 k_176 (ci := 4) rfl, fun U hU hW => ⟨rfl, kIn.of hI hK hE hS hU hW⟩⟩ rfl rfl hl.1 rfl (lv_room (Nat.le_of_ble_eq_true rfl)) dX11_script_100 ⟨Nat.le_of_ble_eq_true rfl, Nat.le_of_ble_eq_true rfl⟩) hS (fun q _ h => h) (fun q h => h) (fun r_180 u t H1 locs ht hvm w_179 hB hz1 hk1 hS => ?_)
              obtain ⟨f_178, hI, kc_181⟩ := hB
              rw [ht] at hI
              have k_182 : f_178 h0 = .inr (11, [.ref (gr g h0 0), .ref (gr g h0 1), .ref (gr g h0 2), .ref (gr g h0 3), .ref (gr g h0 4), .ref (gr g h0 5), .ref (gr g h0 6), .ref (gr g h0 7), .ref (gr g h0 8), .ref (gr g h0 9), .ref (gr g h0 10), .int x_2]) := Kp.at kc_181 i_h0 (by decide) k_1
              have k_183 : f_178 (gr g h0 3) = .inr (6, [.ref (gr g (gr g h0 3) 0), .ref (gr g (gr g h0 3) 1), .ref (gr g (gr g h0 3) 2), .ref (gr g (gr g h0 3) 3), .ref (gr g (gr g h0 3) 4), .int x_6, .int x_7, .long x_8, .int x_9, .int x_10]) := Kp.at kc_181 i_4 (by decide) k_5
              have k_184 : f_178 (gr g (gr g h0 3) 1) = .inl (gc g 4, 12, .inr (.inr (.inr (.inr q_21)))) := Kp.at kc_181 i_19 (by decide) k_20
              have k_185 : f_178 a_23 = .inr (8, [.int x_26, .ref (gr g a_23 1), .int x_27, .int x_28, .int x_29, .long x_30, .int x_31, .ref (gr g a_23 7), .int x_32, .int x_33, .int x_34, .int x_35, .int x_36, .int x_37, .int x_38, .int x_39, .int x_40, .int x_41]) := Kp.at kc_181 i_24 (by decide) k_25
              have kp_186 := Kp.call hk0 kc_181 (by decide)
              generalize H1 = H at hI hS ⊢
              refine W.widen (k := 0) (n := 0) (Nat.le_of_ble_eq_true rfl) (Nat.le_of_ble_eq_true rfl) ?_
              have w_179 : r_180.toInt = (-5 : Int32).toInt := w_179
              exact W.iret (v := r_180) hx hb hr (fun t ht hW => ⟨⟨r_180, (), rfl, trivial, ⟨f_178, k_ret ht hI, kp_186⟩⟩, hS.F ht⟩) hS.2.2 dX11_script_103
        refine lv_if_eq (tgt := 76) hx hb dX11_script_56 (by decide) (fun c_187 => ?_) (fun c_187 => ?_)
        · have c_187 := kc_eq rfl (by decide : Int32.toInt 0 = 0) c_187
          exact J_76  _ _ _ hI hS  (lv_sub hl [0, 1, 2, 3] rfl)
        · have c_187 := kn_eq rfl (by decide : Int32.toInt 0 = 0) c_187
          refine lv_aload_n hx hb dX11_script_59 rfl (lv_at hl 1 rfl) ?_
          refine va_calli (va_runV (As := []) (rest := []) ⟨hx, hb, hml, hown, hts⟩ (c_X8_isSpent l dC dI g A hG f a_23 i_24) (cwV 0 hts (gi_V (fun w_ h0_ => ⟨List.mem_cons_of_mem _ (List.mem_append_right _ (List.mem_append_right _ (List.mem_append_right _ (List.mem_append_right _ (List.mem_append_right _ (List.mem_append_right _ (List.mem_append_right _ (List.mem_append_right _ (List.mem_append_right _ (List.mem_append_right _ (List.mem_append_right _ (List.mem_append_right _ (List.mem_append_right _ (List.mem_append_right _ (List.mem_append_left _ h0_))))))))))))))), (tb_c_X8_isSpent w_ h0_).2⟩) (List.mem_cons_of_mem _ (List.mem_append_left _ (List.mem_of_getElem? (i := 37) rfl))) (List.mem_cons_of_mem _ (List.mem_append_left _ (List.mem_of_getElem? (i := 38) rfl))) (List.mem_cons_of_mem _ (List.mem_append_left _ (List.mem_of_getElem? (i := 39) rfl))) (List.mem_cons_of_mem _ (List.mem_append_left _ (List.mem_of_getElem? (i := 40) rfl)))) rfl rfl rfl (by decide +kernel) ⟨Nat.le_of_ble_eq_true rfl, Nat.le_of_ble_eq_true rfl⟩) ⟨fun a U g mk q => ⟨q.1, q.2.calling rfl rfl⟩, k_recv hK hI i_24.1 k_25 (ci := 8) rfl, fun U hU hW => ⟨rfl, kIn.of hI hK hE hS hU hW⟩⟩ rfl rfl hl.1 rfl (lv_room (Nat.le_of_ble_eq_true rfl)) dX11_script_60 ⟨Nat.le_of_ble_eq_true rfl, Nat.le_of_ble_eq_true rfl⟩) hS (fun q _ h => h) (fun q h => h) (fun r_189 u t H1 locs ht hvm w_188 hB hz1 hk1 hS => ?_)
          have hI : Iv dC dI g A f t.heap := hB
          rw [ht] at hI
          generalize H1 = H at hI hS ⊢
          refine W.widen (k := 0) (n := 0) (Nat.le_of_ble_eq_true rfl) (Nat.le_of_ble_eq_true rfl) ?_
          refine lv_if_eq (tgt := 76) hx hb dX11_script_63 (by decide) (fun c_190 => ?_) (fun c_190 => ?_)
          · have c_190 := kc_eq rfl (by decide : Int32.toInt 0 = 0) c_190
            exact J_76  _ _ _ hI hS  (lv_sub hl [0, 1, 2, 3] rfl)
          · have c_190 := kn_eq rfl (by decide : Int32.toInt 0 = 0) c_190
            exact J_66  _ _ _ hI hS  (lv_sub hl [0, 1, 2, 3] rfl)
      refine lv_if_ne (tgt := 55) hx hb dX11_script_45 (by decide) (fun c_191 => ?_) (fun c_191 => ?_)
      · have c_191 := kn_eq rfl (by decide : Int32.toInt 0 = 0) c_191
        exact J_55  _ _ _ hI hS  (lv_sub hl [0, 1, 2, 3] rfl)
      · have c_191 := kc_eq rfl (by decide : Int32.toInt 0 = 0) c_191
        refine lv_aload_n hx hb dX11_script_48 rfl (lv_at hl 1 rfl) ?_
        refine va_calli (va_runV (As := []) (rest := []) ⟨hx, hb, hml, hown, hts⟩ (c_X8_isOn l dC dI g A hG f a_23 i_24) (cwV 0 hts (gi_V (fun w_ h0_ => ⟨List.mem_cons_of_mem _ (List.mem_append_right _ (List.mem_append_right _ (List.mem_append_right _ (List.mem_append_right _ (List.mem_append_right _ (List.mem_append_right _ (List.mem_append_right _ (List.mem_append_right _ (List.mem_append_right _ (List.mem_append_right _ (List.mem_append_right _ (List.mem_append_right _ (List.mem_append_right _ (List.mem_append_right _ (List.mem_append_right _ (List.mem_append_left _ h0_)))))))))))))))), (tb_c_X8_isOn w_ h0_).2⟩) (List.mem_cons_of_mem _ (List.mem_append_left _ (List.mem_of_getElem? (i := 41) rfl))) (List.mem_cons_of_mem _ (List.mem_append_left _ (List.mem_of_getElem? (i := 42) rfl))) (List.mem_cons_of_mem _ (List.mem_append_left _ (List.mem_of_getElem? (i := 43) rfl))) (List.mem_cons_of_mem _ (List.mem_append_left _ (List.mem_of_getElem? (i := 40) rfl)))) rfl rfl rfl (by decide +kernel) ⟨Nat.le_of_ble_eq_true rfl, Nat.le_of_ble_eq_true rfl⟩) ⟨fun a U g mk q => ⟨q.1, q.2.calling rfl rfl⟩, k_recv hK hI i_24.1 k_25 (ci := 8) rfl, fun U hU hW => ⟨rfl, kIn.of hI hK hE hS hU hW⟩⟩ rfl rfl hl.1 rfl (lv_room (Nat.le_of_ble_eq_true rfl)) dX11_script_49 ⟨Nat.le_of_ble_eq_true rfl, Nat.le_of_ble_eq_true rfl⟩) hS (fun q _ h => h) (fun q h => h) (fun r_193 u t H1 locs ht hvm w_192 hB hz1 hk1 hS => ?_)
        have hI : Iv dC dI g A f t.heap := hB
        rw [ht] at hI
        generalize H1 = H at hI hS ⊢
        refine W.widen (k := 0) (n := 0) (Nat.le_of_ble_eq_true rfl) (Nat.le_of_ble_eq_true rfl) ?_
        refine lv_if_eq (tgt := 66) hx hb dX11_script_52 (by decide) (fun c_194 => ?_) (fun c_194 => ?_)
        · have c_194 := kc_eq rfl (by decide : Int32.toInt 0 = 0) c_194
          exact J_66  _ _ _ hI hS  (lv_sub hl [0, 1, 2, 3] rfl)
        · have c_194 := kn_eq rfl (by decide : Int32.toInt 0 = 0) c_194
          exact J_55  _ _ _ hI hS  (lv_sub hl [0, 1, 2, 3] rfl)
    refine lv_if_ne (tgt := 42) hx hb dX11_script_35 (by decide) (fun c_195 => ?_) (fun c_195 => ?_)
    · have c_195 := kn_eq rfl (by decide : Int32.toInt 0 = 0) c_195
      refine lv_iconst (v := 0) hx hb dX11_script_42 (by decide) ?_
      exact J_43 0 _ _ _ hI hS  (lv_sub hl [0, 1, 2] rfl)
    · have c_195 := kc_eq rfl (by decide : Int32.toInt 0 = 0) c_195
      refine lv_iconst (v := 1) hx hb dX11_script_38 (by decide) ?_
      refine lv_goto (tgt := 43) hx hb dX11_script_39 (by decide) ?_
      exact J_43 1 _ _ _ hI hS  (lv_sub hl [0, 1, 2] rfl)
  · have c_15 := kc_eq rfl (by decide : Int32.toInt 0 = 0) c_15
    refine lv_aload_n hx hb dX11_script_11 rfl (lv_at hl 0 rfl) ?_
    refine k_get (ci := 11) (v := .ref (gr g h0 10)) (C := RX11) (T := TX11) (N := 12) hx hb hts (fun _ h0_ => List.mem_cons_of_mem _ (List.mem_append_right _ (List.mem_append_left _ h0_))) hown hK hI i_h0.1 k_1 rfl 10 (by decide) (hts (.fieldLink RX11 72 "DeadlineShare" "refusals" "LDeadlineShare$Refusals;") (List.mem_cons_of_mem _ (List.mem_append_left _ (List.mem_of_getElem? (i := 7) rfl)))) (fun _ h9 => h9) rfl dX11_script_12 ?_
    have i_197 := kw_11_10 hG i_h0
    refine lv_bipush (v := (-2)) hx hb dX11_script_15 (by decide) ?_
    obtain ⟨x_199, k_198⟩ := op_4 hI i_197
    refine va_calli (va_runV (As := [.int (-2)]) (rest := []) ⟨hx, hb, hml, hown, hts⟩ (c_X4_add l dC dI g A hG f (gr g h0 10) (-2) i_197) (cwV 1 hts (gi_V (fun w_ h0_ => ⟨List.mem_cons_of_mem _ (List.mem_append_right _ (List.mem_append_right _ (List.mem_append_right _ (List.mem_append_right _ (List.mem_append_right _ (List.mem_append_left _ h0_)))))), (tb_c_X4_add w_ h0_).2⟩) (List.mem_cons_of_mem _ (List.mem_append_left _ (List.mem_of_getElem? (i := 8) rfl))) (List.mem_cons_of_mem _ (List.mem_append_left _ (List.mem_of_getElem? (i := 9) rfl))) (List.mem_cons_of_mem _ (List.mem_append_left _ (List.mem_of_getElem? (i := 10) rfl))) (List.mem_cons_of_mem _ (List.mem_append_left _ (List.mem_of_getElem? (i := 11) rfl)))) rfl rfl rfl (by decide +kernel) ⟨Nat.le_of_ble_eq_true rfl, Nat.le_of_ble_eq_true rfl⟩) ⟨fun a U g mk q => ⟨q.1, q.2.calling rfl rfl⟩, k_recv hK hI i_197.1 k_198 (ci := 4) rfl, fun U hU hW => ⟨rfl, kIn.of hI hK hE hS hU hW⟩⟩ rfl rfl hl.1 rfl (lv_room (Nat.le_of_ble_eq_true rfl)) dX11_script_17 ⟨Nat.le_of_ble_eq_true rfl, Nat.le_of_ble_eq_true rfl⟩) hS (fun q _ h => h) (fun q h => h) (fun r_202 u t H1 locs ht hvm w_201 hB hz1 hk1 hS => ?_)
    obtain ⟨f_200, hI, kc_203⟩ := hB
    rw [ht] at hI
    have k_204 : f_200 h0 = .inr (11, [.ref (gr g h0 0), .ref (gr g h0 1), .ref (gr g h0 2), .ref (gr g h0 3), .ref (gr g h0 4), .ref (gr g h0 5), .ref (gr g h0 6), .ref (gr g h0 7), .ref (gr g h0 8), .ref (gr g h0 9), .ref (gr g h0 10), .int x_2]) := Kp.at kc_203 i_h0 (by decide) k_1
    have k_205 : f_200 (gr g h0 3) = .inr (6, [.ref (gr g (gr g h0 3) 0), .ref (gr g (gr g h0 3) 1), .ref (gr g (gr g h0 3) 2), .ref (gr g (gr g h0 3) 3), .ref (gr g (gr g h0 3) 4), .int x_6, .int x_7, .long x_8, .int x_9, .int x_10]) := Kp.at kc_203 i_4 (by decide) k_5
    have kp_206 := Kp.call hk0 kc_203 (by decide)
    generalize H1 = H at hI hS ⊢
    refine W.widen (k := 0) (n := 0) (Nat.le_of_ble_eq_true rfl) (Nat.le_of_ble_eq_true rfl) ?_
    have w_201 : r_202.toInt = (-2 : Int32).toInt := w_201
    exact W.iret (v := r_202) hx hb hr (fun t ht hW => ⟨⟨r_202, (), rfl, trivial, ⟨f_200, k_ret ht hI, kp_206⟩⟩, hS.F ht⟩) hS.2.2 dX11_script_20
theorem tw_607 : q_g (.selects RX5 yX5_writeTo yX5_writeTo) := ⟨(List.mem_append_right _ (List.mem_of_getElem? (i := 761) (by decide +kernel))), good_of_word (by decide +kernel)⟩
theorem tw_608 : q_g (.instanceMethod yX5_writeTo) := ⟨(List.mem_append_right _ (List.mem_of_getElem? (i := 760) (by decide +kernel))), good_of_word (by decide +kernel)⟩
theorem tw_609 : q_g (.methodLink RX11 219 yX5_writeTo) := ⟨(List.mem_append_right _ (List.mem_of_getElem? (i := 759) (by decide +kernel))), good_of_word (by decide +kernel)⟩
theorem tw_610 : q_g (.methodLink RX11 216 yX5_isThere) := ⟨(List.mem_append_right _ (List.mem_of_getElem? (i := 755) (by decide +kernel))), good_of_word (by decide +kernel)⟩
theorem tw_611 : q_g (.code yX11_listing cX11_listing 3 (some .int)) := ⟨(List.mem_append_right _ (List.mem_of_getElem? (i := 754) (by decide +kernel))), good_of_word (by decide +kernel)⟩
def ow_c_X11_listing : List Cond := [.fieldLink RX11 37 "DeadlineShare" "now" "LDeadlineShare$State;", .methodLink RX11 130 yX6_has, .instanceMethod yX6_has, .selects RX6 yX6_has yX6_has, .initialized RX6, .fieldLink RX11 133 "DeadlineShare$State" "tasks" "[LDeadlineShare$Task;", .fieldLink RX11 166 "DeadlineShare$Task" "script" "LDeadlineShare$Script;", .methodLink RX11 216 yX5_isThere, .instanceMethod yX5_isThere, .selects RX5 yX5_isThere yX5_isThere, .initialized RX5, .fieldLink RX11 21 "DeadlineShare" "tape" "LDeadlineShare$Tape;", .fieldLink RX11 106 "DeadlineShare$Tape" "length" "I", .methodLink RX11 219 yX5_writeTo, .instanceMethod yX5_writeTo, .selects RX5 yX5_writeTo yX5_writeTo, .fieldLink RX11 72 "DeadlineShare" "refusals" "LDeadlineShare$Refusals;", .methodLink RX11 95 yX4_none, .instanceMethod yX4_none, .selects RX4 yX4_none yX4_none, .initialized RX4, .methodLink RX11 84 yX4_add, .instanceMethod yX4_add, .selects RX4 yX4_add yX4_add]
def wq_c_X11_listing : List Cond := .code yX11_listing cX11_listing 3 (some .int) :: (ow_c_X11_listing ++ (u_ws RX11 TX11 12 ++ (wq_c_X6_has ++ (u_ws RX6 TX6 10 ++ (u_ws RX8 TX8 18 ++ (wq_c_X5_isThere ++ (u_ws RX7 TX7 2 ++ (wq_c_X5_writeTo ++ (wq_c_X4_none ++ (wq_c_X4_add ++ ([] : List Cond)))))))))))
theorem tb_c_X11_listing : ∀ w ∈ wq_c_X11_listing, q_g w := by
  unfold wq_c_X11_listing ow_c_X11_listing
  exact q_cons tw_611 (q_app (q_cons tw_558 (q_cons tw_571 (q_cons tw_74 (q_cons tw_73 (q_cons tw_47 (q_cons tw_570 (q_cons tw_575 (q_cons tw_610 (q_cons tw_347 (q_cons tw_346 (q_cons tw_133 (q_cons tw_542 (q_cons tw_535 (q_cons tw_609 (q_cons tw_608 (q_cons tw_607 (q_cons tw_522 (q_cons tw_521 (q_cons tw_520 (q_cons tw_519 (q_cons tw_273 (q_cons tw_518 (q_cons tw_517 (q_cons tw_516 q_nil)))))))))))))))))))))))) (q_app tu_X11 (q_app tb_c_X6_has (q_app tu_X6 (q_app tu_X8 (q_app tb_c_X5_isThere (q_app tu_X7 (q_app tb_c_X5_writeTo (q_app tb_c_X4_none (q_app tb_c_X4_add q_nil))))))))))
set_option maxHeartbeats 4000000 in
set_option maxRecDepth 100000 in
theorem c_X11_listing (l : Launch) (dC : Nat → ClassId) (dI : Nat → Nat → Nat) (g : kG) (A : Nat → Prop) (hG : kWf g) (f : Nat → va_E) (h0 : Nat) (p1 : Int32) (i_h0 : ik g 11 h0) : Met l yX11_listing wq_c_X11_listing ({ frames := 6, cells := 0, slots := 0, locals := 129 } : Room) (va_Pc [.ref h0, .int p1] (fun U => kIn dC dI g A f U)) (va_Qi (fun (r : Int32) (_ : Unit) => True) (fun (_ : Unit) t => ∃ f1 : Nat → va_E, Iv dC dI g A f1 t.heap ∧ Kp g [4, 7, 25, 28] f f1) A) 0 0 A := by
  refine Met.ofW (cc := cX11_listing) (maxL := 3) (ret := (some .int)) (by decide) rfl ?_
  intro p e s m args below meth c s₁ B hml hv
  obtain ⟨rfl, hI, hK, hE⟩ := hv
  have hx := B.exec
  have hb := B.bytes
  have hr := B.returns
  have hts := atoms_spec (ws := wq_c_X11_listing) B.pre
  have hown : s.vm.findClass RX11 = some m.cls := findClass_of_methodNamed B.named
  have hlocks := B.notSynchronized
  have hS : va_S A s.heap s.heap [] := va_S.rf
  have hk0 : Kp g [4, 7, 25, 28] f f := Kp.rf
  have hl := lv_entry ([.ref h0, .int p1]) (n := 3) (Nat.le_of_ble_eq_true rfl)
  rw [lg_entry_eq]
  generalize (lg_sl ([.ref h0, .int p1]) ++ List.replicate (3 - (lg_sl ([.ref h0, .int p1])).length) Slot.unset).toArray = ls at hl ⊢
  have hl : lv_has ls 3 [(0, .ref h0), (1, .int p1)] := hl
  refine lv_aload_n hx hb dX11_listing_0 rfl (lv_at hl 0 rfl) ?_
  obtain ⟨x_2, k_1⟩ := op_11 hI i_h0
  refine k_get (ci := 11) (v := .ref (gr g h0 3)) (C := RX11) (T := TX11) (N := 12) hx hb hts (fun _ h0_ => List.mem_cons_of_mem _ (List.mem_append_right _ (List.mem_append_left _ h0_))) hown hK hI i_h0.1 k_1 rfl 3 (by decide) (hts (.fieldLink RX11 37 "DeadlineShare" "now" "LDeadlineShare$State;") (List.mem_cons_of_mem _ (List.mem_append_left _ (List.mem_of_getElem? (i := 0) rfl)))) (fun _ h9 => h9) rfl dX11_listing_1 ?_
  have i_4 := kw_11_3 hG i_h0
  refine lv_iload_n hx hb dX11_listing_4 rfl (lv_at hl 1 rfl) ?_
  obtain ⟨x_6, x_7, x_8, x_9, x_10, k_5, b_11, b_12⟩ := op_6 hI i_4
  refine va_calli (va_runV (As := [.int p1]) (rest := []) ⟨hx, hb, hml, hown, hts⟩ (c_X6_has l dC dI g A hG f (gr g h0 3) p1 i_4) (cwV 1 hts (gi_V (fun w_ h0_ => ⟨List.mem_cons_of_mem _ (List.mem_append_right _ (List.mem_append_right _ (List.mem_append_left _ h0_))), (tb_c_X6_has w_ h0_).2⟩) (List.mem_cons_of_mem _ (List.mem_append_left _ (List.mem_of_getElem? (i := 1) rfl))) (List.mem_cons_of_mem _ (List.mem_append_left _ (List.mem_of_getElem? (i := 2) rfl))) (List.mem_cons_of_mem _ (List.mem_append_left _ (List.mem_of_getElem? (i := 3) rfl))) (List.mem_cons_of_mem _ (List.mem_append_left _ (List.mem_of_getElem? (i := 4) rfl)))) rfl rfl rfl (by decide +kernel) ⟨Nat.le_of_ble_eq_true rfl, Nat.le_of_ble_eq_true rfl⟩) ⟨fun a U g mk q => ⟨q.1, q.2.calling rfl rfl⟩, k_recv hK hI i_4.1 k_5 (ci := 6) rfl, fun U hU hW => ⟨rfl, kIn.of hI hK hE hS hU hW⟩⟩ rfl rfl hl.1 rfl (lv_room (Nat.le_of_ble_eq_true rfl)) dX11_listing_5 ⟨Nat.le_of_ble_eq_true rfl, Nat.le_of_ble_eq_true rfl⟩) hS (fun q _ h => h) (fun q h => h) (fun r_14 u t H1 locs ht hvm w_13 hB hz1 hk1 hS => ?_)
  have hI : Iv dC dI g A f t.heap := hB
  rw [ht] at hI
  generalize H1 = H at hI hS ⊢
  refine W.widen (k := 0) (n := 0) (Nat.le_of_ble_eq_true rfl) (Nat.le_of_ble_eq_true rfl) ?_
  have w_13 : r_14.toInt = 0 ∨ (0 ≤ p1.toInt ∧ p1.toInt < 12) := w_13
  refine lv_if_ne (tgt := 21) hx hb dX11_listing_8 (by decide) (fun c_15 => ?_) (fun c_15 => ?_)
  · have c_15 := kn_eq rfl (by decide : Int32.toInt 0 = 0) c_15
    refine lv_aload_n hx hb dX11_listing_21 rfl (lv_at hl 0 rfl) ?_
    refine k_get (ci := 11) (v := .ref (gr g h0 3)) (C := RX11) (T := TX11) (N := 12) hx hb hts (fun _ h0_ => List.mem_cons_of_mem _ (List.mem_append_right _ (List.mem_append_left _ h0_))) hown hK hI i_h0.1 k_1 rfl 3 (by decide) (hts (.fieldLink RX11 37 "DeadlineShare" "now" "LDeadlineShare$State;") (List.mem_cons_of_mem _ (List.mem_append_left _ (List.mem_of_getElem? (i := 0) rfl)))) (fun _ h9 => h9) rfl dX11_listing_22 ?_
    refine k_get (ci := 6) (v := .ref (gr g (gr g h0 3) 1)) (C := RX6) (T := TX6) (N := 10) hx hb hts (fun _ h0_ => List.mem_cons_of_mem _ (List.mem_append_right _ (List.mem_append_right _ (List.mem_append_right _ (List.mem_append_left _ h0_))))) hown hK hI i_4.1 k_5 rfl 1 (by decide) (hts (.fieldLink RX11 133 "DeadlineShare$State" "tasks" "[LDeadlineShare$Task;") (List.mem_cons_of_mem _ (List.mem_append_left _ (List.mem_of_getElem? (i := 5) rfl)))) (fun _ h9 => h9) rfl dX11_listing_25 ?_
    have i_19 := kw_6_1 hG i_4
    refine lv_iload_n hx hb dX11_listing_28 rfl (lv_at hl 1 rfl) ?_
    obtain ⟨q_21, k_20, b_22⟩ := op_20 hI i_19
    refine k_aald hx hb hK hI i_19.1 4 k_20 rfl (vp_in_iff.mpr (by omega)) b_22 (fun _ hj => kw_20 hG i_19 hj) dX11_listing_29 (fun a_23 i_24 => ?_)
    obtain ⟨x_26, x_27, x_28, x_29, x_30, x_31, x_32, x_33, x_34, x_35, x_36, x_37, x_38, x_39, x_40, x_41, k_25⟩ := op_8 hI i_24
    refine k_get (ci := 8) (v := .ref (gr g a_23 1)) (C := RX8) (T := TX8) (N := 18) hx hb hts (fun _ h0_ => List.mem_cons_of_mem _ (List.mem_append_right _ (List.mem_append_right _ (List.mem_append_right _ (List.mem_append_right _ (List.mem_append_left _ h0_)))))) hown hK hI i_24.1 k_25 rfl 1 (by decide) (hts (.fieldLink RX11 166 "DeadlineShare$Task" "script" "LDeadlineShare$Script;") (List.mem_cons_of_mem _ (List.mem_append_left _ (List.mem_of_getElem? (i := 6) rfl)))) (fun _ h9 => h9) rfl dX11_listing_30 ?_
    have i_43 := kw_8_1 hG i_24
    refine lv_astore_n (lv' := [(2, .ref (gr g a_23 1)), (0, .ref h0), (1, .int p1)]) hx hb dX11_listing_33 rfl hl (by decide) rfl (fun ls hl => ?_)
    refine lv_aload_n hx hb dX11_listing_34 rfl (lv_at hl 0 rfl) ?_
    obtain ⟨x_45, x_46, x_47, x_48, k_44, b_49, b_50⟩ := op_5 hI i_43
    refine va_calli (va_runV (As := []) (rest := []) ⟨hx, hb, hml, hown, hts⟩ (c_X5_isThere l dC dI g A hG f (gr g a_23 1) i_43) (cwV 0 hts (gi_V (fun w_ h0_ => ⟨List.mem_cons_of_mem _ (List.mem_append_right _ (List.mem_append_right _ (List.mem_append_right _ (List.mem_append_right _ (List.mem_append_right _ (List.mem_append_left _ h0_)))))), (tb_c_X5_isThere w_ h0_).2⟩) (List.mem_cons_of_mem _ (List.mem_append_left _ (List.mem_of_getElem? (i := 7) rfl))) (List.mem_cons_of_mem _ (List.mem_append_left _ (List.mem_of_getElem? (i := 8) rfl))) (List.mem_cons_of_mem _ (List.mem_append_left _ (List.mem_of_getElem? (i := 9) rfl))) (List.mem_cons_of_mem _ (List.mem_append_left _ (List.mem_of_getElem? (i := 10) rfl)))) rfl rfl rfl (by decide +kernel) ⟨Nat.le_of_ble_eq_true rfl, Nat.le_of_ble_eq_true rfl⟩) ⟨fun a U g mk q => ⟨q.1, q.2.calling rfl rfl⟩, k_recv hK hI i_43.1 k_44 (ci := 5) rfl, fun U hU hW => ⟨rfl, kIn.of hI hK hE hS hU hW⟩⟩ rfl rfl hl.1 rfl (lv_room (Nat.le_of_ble_eq_true rfl)) dX11_listing_35 ⟨Nat.le_of_ble_eq_true rfl, Nat.le_of_ble_eq_true rfl⟩) hS (fun q _ h => h) (fun q h => h) (fun r_52 u t H1 locs ht hvm w_51 hB hz1 hk1 hS => ?_)
    have hI : Iv dC dI g A f t.heap := hB
    rw [ht] at hI
    generalize H1 = H at hI hS ⊢
    refine W.widen (k := 0) (n := 0) (Nat.le_of_ble_eq_true rfl) (Nat.le_of_ble_eq_true rfl) ?_
    refine lv_if_ne (tgt := 51) hx hb dX11_listing_38 (by decide) (fun c_53 => ?_) (fun c_53 => ?_)
    · have c_53 := kn_eq rfl (by decide : Int32.toInt 0 = 0) c_53
      refine lv_aload_n hx hb dX11_listing_51 rfl (lv_at hl 1 rfl) ?_
      refine k_get (ci := 11) (v := .ref (gr g h0 1)) (C := RX11) (T := TX11) (N := 12) hx hb hts (fun _ h0_ => List.mem_cons_of_mem _ (List.mem_append_right _ (List.mem_append_left _ h0_))) hown hK hI i_h0.1 k_1 rfl 1 (by decide) (hts (.fieldLink RX11 21 "DeadlineShare" "tape" "LDeadlineShare$Tape;") (List.mem_cons_of_mem _ (List.mem_append_left _ (List.mem_of_getElem? (i := 11) rfl)))) (fun _ h9 => h9) rfl dX11_listing_52 ?_
      have i_55 := kw_11_1 hG i_h0
      refine lv_iconst (v := 0) hx hb dX11_listing_55 (by decide) ?_
      obtain ⟨x_57, k_56⟩ := op_7 hI i_55
      refine k_put (ci := 7) (v := .int 0) (ty := .int) (C := RX7) (T := TX7) (N := 2) hx hb hts (fun _ h0_ => List.mem_cons_of_mem _ (List.mem_append_right _ (List.mem_append_right _ (List.mem_append_right _ (List.mem_append_right _ (List.mem_append_right _ (List.mem_append_right _ (List.mem_append_left _ h0_)))))))) tyX7 tyX7_ok nmX7 hown hK hI hS i_55.1 k_56 rfl 1 (by decide) (hts (.fieldLink RX11 106 "DeadlineShare$Tape" "length" "I") (List.mem_cons_of_mem _ (List.mem_append_left _ (List.mem_of_getElem? (i := 12) rfl)))) (fun _ h9 => h9) rfl (by decide +kernel) rfl rfl (Nat.le_of_ble_eq_true rfl) rfl (cl_7 i_55) dX11_listing_56 (fun f_58 H locs e_59 hI hS => ?_)
      have k_61 : f_58 h0 = .inr (11, [.ref (gr g h0 0), .ref (gr g h0 1), .ref (gr g h0 2), .ref (gr g h0 3), .ref (gr g h0 4), .ref (gr g h0 5), .ref (gr g h0 6), .ref (gr g h0 7), .ref (gr g h0 8), .ref (gr g h0 9), .ref (gr g h0 10), .int x_2]) := by rw [e_59, va_up_ne _ _ (ik_ne i_h0 i_55 (by decide))]; exact k_1
      have k_62 : f_58 (gr g h0 3) = .inr (6, [.ref (gr g (gr g h0 3) 0), .ref (gr g (gr g h0 3) 1), .ref (gr g (gr g h0 3) 2), .ref (gr g (gr g h0 3) 3), .ref (gr g (gr g h0 3) 4), .int x_6, .int x_7, .long x_8, .int x_9, .int x_10]) := by rw [e_59, va_up_ne _ _ (ik_ne i_4 i_55 (by decide))]; exact k_5
      have k_63 : f_58 (gr g (gr g h0 3) 1) = .inl (gc g 4, 12, .inr (.inr (.inr (.inr q_21)))) := by rw [e_59, va_up_ne _ _ (ik_ne i_19 i_55 (by decide))]; exact k_20
      have k_64 : f_58 a_23 = .inr (8, [.int x_26, .ref (gr g a_23 1), .int x_27, .int x_28, .int x_29, .long x_30, .int x_31, .ref (gr g a_23 7), .int x_32, .int x_33, .int x_34, .int x_35, .int x_36, .int x_37, .int x_38, .int x_39, .int x_40, .int x_41]) := by rw [e_59, va_up_ne _ _ (ik_ne i_24 i_55 (by decide))]; exact k_25
      have k_65 : f_58 (gr g a_23 1) = .inr (5, [.ref (gr g (gr g a_23 1) 0), .int x_45, .int x_46, .int x_47, .int x_48]) := by rw [e_59, va_up_ne _ _ (ik_ne i_43 i_55 (by decide))]; exact k_44
      have k_66 : f_58 (gr g h0 1) = .inr (7, [.ref (gr g (gr g h0 1) 0), .int 0]) := by rw [e_59]; exact va_up_self _ _ _
      have kp_60 := Kp.put hk0 i_55 (by decide) e_59
      refine lv_aload_n hx hb dX11_listing_59 rfl (lv_at hl 0 rfl) ?_
      refine lv_aload_n hx hb dX11_listing_60 rfl (lv_at hl 1 rfl) ?_
      refine k_get (ci := 11) (v := .ref (gr g h0 1)) (C := RX11) (T := TX11) (N := 12) hx hb hts (fun _ h0_ => List.mem_cons_of_mem _ (List.mem_append_right _ (List.mem_append_left _ h0_))) hown hK hI i_h0.1 k_61 rfl 1 (by decide) (hts (.fieldLink RX11 21 "DeadlineShare" "tape" "LDeadlineShare$Tape;") (List.mem_cons_of_mem _ (List.mem_append_left _ (List.mem_of_getElem? (i := 11) rfl)))) (fun _ h9 => h9) rfl dX11_listing_61 ?_
      refine va_callv (va_runV (As := [.ref (gr g h0 1)]) (rest := []) ⟨hx, hb, hml, hown, hts⟩ (c_X5_writeTo l dC dI g A hG f_58 (gr g a_23 1) (gr g h0 1) i_43 i_55) (cwV 1 hts (gi_V (fun w_ h0_ => ⟨List.mem_cons_of_mem _ (List.mem_append_right _ (List.mem_append_right _ (List.mem_append_right _ (List.mem_append_right _ (List.mem_append_right _ (List.mem_append_right _ (List.mem_append_right _ (List.mem_append_left _ h0_)))))))), (tb_c_X5_writeTo w_ h0_).2⟩) (List.mem_cons_of_mem _ (List.mem_append_left _ (List.mem_of_getElem? (i := 13) rfl))) (List.mem_cons_of_mem _ (List.mem_append_left _ (List.mem_of_getElem? (i := 14) rfl))) (List.mem_cons_of_mem _ (List.mem_append_left _ (List.mem_of_getElem? (i := 15) rfl))) (List.mem_cons_of_mem _ (List.mem_append_left _ (List.mem_of_getElem? (i := 10) rfl)))) rfl rfl rfl (by decide +kernel) ⟨Nat.le_of_ble_eq_true rfl, Nat.le_of_ble_eq_true rfl⟩) ⟨fun a U g mk q => ⟨q.1, q.2.calling rfl rfl⟩, k_recv hK hI i_43.1 k_65 (ci := 5) rfl, fun U hU hW => ⟨rfl, kIn.of hI hK hE hS hU hW⟩⟩ rfl rfl hl.1 rfl (lv_room (Nat.le_of_ble_eq_true rfl)) dX11_listing_64 ⟨Nat.le_of_ble_eq_true rfl, Nat.le_of_ble_eq_true rfl⟩) hS (fun q _ h => h) (fun q h => h) (fun u t H1 locs ht hvm _ hB hz1 hk1 hS => ?_)
      obtain ⟨f_69, hI, kc_71⟩ := hB
      rw [ht] at hI
      have k_72 : f_69 h0 = .inr (11, [.ref (gr g h0 0), .ref (gr g h0 1), .ref (gr g h0 2), .ref (gr g h0 3), .ref (gr g h0 4), .ref (gr g h0 5), .ref (gr g h0 6), .ref (gr g h0 7), .ref (gr g h0 8), .ref (gr g h0 9), .ref (gr g h0 10), .int x_2]) := Kp.at kc_71 i_h0 (by decide) k_61
      have k_73 : f_69 (gr g h0 3) = .inr (6, [.ref (gr g (gr g h0 3) 0), .ref (gr g (gr g h0 3) 1), .ref (gr g (gr g h0 3) 2), .ref (gr g (gr g h0 3) 3), .ref (gr g (gr g h0 3) 4), .int x_6, .int x_7, .long x_8, .int x_9, .int x_10]) := Kp.at kc_71 i_4 (by decide) k_62
      have k_74 : f_69 (gr g (gr g h0 3) 1) = .inl (gc g 4, 12, .inr (.inr (.inr (.inr q_21)))) := Kp.at kc_71 i_19 (by decide) k_63
      have k_75 : f_69 a_23 = .inr (8, [.int x_26, .ref (gr g a_23 1), .int x_27, .int x_28, .int x_29, .long x_30, .int x_31, .ref (gr g a_23 7), .int x_32, .int x_33, .int x_34, .int x_35, .int x_36, .int x_37, .int x_38, .int x_39, .int x_40, .int x_41]) := Kp.at kc_71 i_24 (by decide) k_64
      have k_76 : f_69 (gr g a_23 1) = .inr (5, [.ref (gr g (gr g a_23 1) 0), .int x_45, .int x_46, .int x_47, .int x_48]) := Kp.at kc_71 i_43 (by decide) k_65
      have kp_77 := Kp.call kp_60 kc_71 (by decide)
      generalize H1 = H at hI hS ⊢
      refine W.widen (k := 0) (n := 0) (Nat.le_of_ble_eq_true rfl) (Nat.le_of_ble_eq_true rfl) ?_
      refine lv_aload_n hx hb dX11_listing_67 rfl (lv_at hl 1 rfl) ?_
      refine k_get (ci := 11) (v := .ref (gr g h0 10)) (C := RX11) (T := TX11) (N := 12) hx hb hts (fun _ h0_ => List.mem_cons_of_mem _ (List.mem_append_right _ (List.mem_append_left _ h0_))) hown hK hI i_h0.1 k_72 rfl 10 (by decide) (hts (.fieldLink RX11 72 "DeadlineShare" "refusals" "LDeadlineShare$Refusals;") (List.mem_cons_of_mem _ (List.mem_append_left _ (List.mem_of_getElem? (i := 16) rfl)))) (fun _ h9 => h9) rfl dX11_listing_68 ?_
      have i_79 := kw_11_10 hG i_h0
      refine lv_aload_n hx hb dX11_listing_71 rfl (lv_at hl 1 rfl) ?_
      refine k_get (ci := 11) (v := .ref (gr g h0 1)) (C := RX11) (T := TX11) (N := 12) hx hb hts (fun _ h0_ => List.mem_cons_of_mem _ (List.mem_append_right _ (List.mem_append_left _ h0_))) hown hK hI i_h0.1 k_72 rfl 1 (by decide) (hts (.fieldLink RX11 21 "DeadlineShare" "tape" "LDeadlineShare$Tape;") (List.mem_cons_of_mem _ (List.mem_append_left _ (List.mem_of_getElem? (i := 11) rfl)))) (fun _ h9 => h9) rfl dX11_listing_72 ?_
      obtain ⟨x_83, k_82⟩ := op_7 hI i_55
      refine k_get (ci := 7) (v := .int x_83) (C := RX7) (T := TX7) (N := 2) hx hb hts (fun _ h0_ => List.mem_cons_of_mem _ (List.mem_append_right _ (List.mem_append_right _ (List.mem_append_right _ (List.mem_append_right _ (List.mem_append_right _ (List.mem_append_right _ (List.mem_append_left _ h0_)))))))) hown hK hI i_55.1 k_82 rfl 1 (by decide) (hts (.fieldLink RX11 106 "DeadlineShare$Tape" "length" "I") (List.mem_cons_of_mem _ (List.mem_append_left _ (List.mem_of_getElem? (i := 12) rfl)))) (fun _ h9 => h9) rfl dX11_listing_75 ?_
      obtain ⟨x_85, k_84⟩ := op_4 hI i_79
      refine va_calli (va_runV (As := [.int x_83]) (rest := []) ⟨hx, hb, hml, hown, hts⟩ (c_X4_none l dC dI g A hG f_69 (gr g h0 10) x_83 i_79) (cwV 1 hts (gi_V (fun w_ h0_ => ⟨List.mem_cons_of_mem _ (List.mem_append_right _ (List.mem_append_right _ (List.mem_append_right _ (List.mem_append_right _ (List.mem_append_right _ (List.mem_append_right _ (List.mem_append_right _ (List.mem_append_right _ (List.mem_append_left _ h0_))))))))), (tb_c_X4_none w_ h0_).2⟩) (List.mem_cons_of_mem _ (List.mem_append_left _ (List.mem_of_getElem? (i := 17) rfl))) (List.mem_cons_of_mem _ (List.mem_append_left _ (List.mem_of_getElem? (i := 18) rfl))) (List.mem_cons_of_mem _ (List.mem_append_left _ (List.mem_of_getElem? (i := 19) rfl))) (List.mem_cons_of_mem _ (List.mem_append_left _ (List.mem_of_getElem? (i := 20) rfl)))) rfl rfl rfl (by decide +kernel) ⟨Nat.le_of_ble_eq_true rfl, Nat.le_of_ble_eq_true rfl⟩) ⟨fun a U g mk q => ⟨q.1, q.2.calling rfl rfl⟩, k_recv hK hI i_79.1 k_84 (ci := 4) rfl, fun U hU hW => ⟨rfl, kIn.of hI hK hE hS hU hW⟩⟩ rfl rfl hl.1 rfl (lv_room (Nat.le_of_ble_eq_true rfl)) dX11_listing_78 ⟨Nat.le_of_ble_eq_true rfl, Nat.le_of_ble_eq_true rfl⟩) hS (fun q _ h => h) (fun q h => h) (fun r_88 u t H1 locs ht hvm w_87 hB hz1 hk1 hS => ?_)
      obtain ⟨f_86, hI, kc_89⟩ := hB
      rw [ht] at hI
      have k_90 : f_86 h0 = .inr (11, [.ref (gr g h0 0), .ref (gr g h0 1), .ref (gr g h0 2), .ref (gr g h0 3), .ref (gr g h0 4), .ref (gr g h0 5), .ref (gr g h0 6), .ref (gr g h0 7), .ref (gr g h0 8), .ref (gr g h0 9), .ref (gr g h0 10), .int x_2]) := Kp.at kc_89 i_h0 (by decide) k_72
      have k_91 : f_86 (gr g h0 3) = .inr (6, [.ref (gr g (gr g h0 3) 0), .ref (gr g (gr g h0 3) 1), .ref (gr g (gr g h0 3) 2), .ref (gr g (gr g h0 3) 3), .ref (gr g (gr g h0 3) 4), .int x_6, .int x_7, .long x_8, .int x_9, .int x_10]) := Kp.at kc_89 i_4 (by decide) k_73
      have k_92 : f_86 (gr g (gr g h0 3) 1) = .inl (gc g 4, 12, .inr (.inr (.inr (.inr q_21)))) := Kp.at kc_89 i_19 (by decide) k_74
      have k_93 : f_86 a_23 = .inr (8, [.int x_26, .ref (gr g a_23 1), .int x_27, .int x_28, .int x_29, .long x_30, .int x_31, .ref (gr g a_23 7), .int x_32, .int x_33, .int x_34, .int x_35, .int x_36, .int x_37, .int x_38, .int x_39, .int x_40, .int x_41]) := Kp.at kc_89 i_24 (by decide) k_75
      have k_94 : f_86 (gr g a_23 1) = .inr (5, [.ref (gr g (gr g a_23 1) 0), .int x_45, .int x_46, .int x_47, .int x_48]) := Kp.at kc_89 i_43 (by decide) k_76
      have k_95 : f_86 (gr g h0 1) = .inr (7, [.ref (gr g (gr g h0 1) 0), .int x_83]) := Kp.at kc_89 i_55 (by decide) k_82
      have kp_96 := Kp.call kp_77 kc_89 (by decide)
      generalize H1 = H at hI hS ⊢
      refine W.widen (k := 0) (n := 0) (Nat.le_of_ble_eq_true rfl) (Nat.le_of_ble_eq_true rfl) ?_
      have w_87 : r_88.toInt = x_83.toInt := w_87
      exact W.iret (v := r_88) hx hb hr (fun t ht hW => ⟨⟨r_88, (), rfl, trivial, ⟨f_86, k_ret ht hI, kp_96⟩⟩, hS.F ht⟩) hS.2.2 dX11_listing_81
    · have c_53 := kc_eq rfl (by decide : Int32.toInt 0 = 0) c_53
      refine lv_aload_n hx hb dX11_listing_41 rfl (lv_at hl 1 rfl) ?_
      refine k_get (ci := 11) (v := .ref (gr g h0 10)) (C := RX11) (T := TX11) (N := 12) hx hb hts (fun _ h0_ => List.mem_cons_of_mem _ (List.mem_append_right _ (List.mem_append_left _ h0_))) hown hK hI i_h0.1 k_1 rfl 10 (by decide) (hts (.fieldLink RX11 72 "DeadlineShare" "refusals" "LDeadlineShare$Refusals;") (List.mem_cons_of_mem _ (List.mem_append_left _ (List.mem_of_getElem? (i := 16) rfl)))) (fun _ h9 => h9) rfl dX11_listing_42 ?_
      have i_98 := kw_11_10 hG i_h0
      refine lv_bipush (v := (-4)) hx hb dX11_listing_45 (by decide) ?_
      obtain ⟨x_100, k_99⟩ := op_4 hI i_98
      refine va_calli (va_runV (As := [.int (-4)]) (rest := []) ⟨hx, hb, hml, hown, hts⟩ (c_X4_add l dC dI g A hG f (gr g h0 10) (-4) i_98) (cwV 1 hts (gi_V (fun w_ h0_ => ⟨List.mem_cons_of_mem _ (List.mem_append_right _ (List.mem_append_right _ (List.mem_append_right _ (List.mem_append_right _ (List.mem_append_right _ (List.mem_append_right _ (List.mem_append_right _ (List.mem_append_right _ (List.mem_append_right _ (List.mem_append_left _ h0_)))))))))), (tb_c_X4_add w_ h0_).2⟩) (List.mem_cons_of_mem _ (List.mem_append_left _ (List.mem_of_getElem? (i := 21) rfl))) (List.mem_cons_of_mem _ (List.mem_append_left _ (List.mem_of_getElem? (i := 22) rfl))) (List.mem_cons_of_mem _ (List.mem_append_left _ (List.mem_of_getElem? (i := 23) rfl))) (List.mem_cons_of_mem _ (List.mem_append_left _ (List.mem_of_getElem? (i := 20) rfl)))) rfl rfl rfl (by decide +kernel) ⟨Nat.le_of_ble_eq_true rfl, Nat.le_of_ble_eq_true rfl⟩) ⟨fun a U g mk q => ⟨q.1, q.2.calling rfl rfl⟩, k_recv hK hI i_98.1 k_99 (ci := 4) rfl, fun U hU hW => ⟨rfl, kIn.of hI hK hE hS hU hW⟩⟩ rfl rfl hl.1 rfl (lv_room (Nat.le_of_ble_eq_true rfl)) dX11_listing_47 ⟨Nat.le_of_ble_eq_true rfl, Nat.le_of_ble_eq_true rfl⟩) hS (fun q _ h => h) (fun q h => h) (fun r_103 u t H1 locs ht hvm w_102 hB hz1 hk1 hS => ?_)
      obtain ⟨f_101, hI, kc_104⟩ := hB
      rw [ht] at hI
      have k_105 : f_101 h0 = .inr (11, [.ref (gr g h0 0), .ref (gr g h0 1), .ref (gr g h0 2), .ref (gr g h0 3), .ref (gr g h0 4), .ref (gr g h0 5), .ref (gr g h0 6), .ref (gr g h0 7), .ref (gr g h0 8), .ref (gr g h0 9), .ref (gr g h0 10), .int x_2]) := Kp.at kc_104 i_h0 (by decide) k_1
      have k_106 : f_101 (gr g h0 3) = .inr (6, [.ref (gr g (gr g h0 3) 0), .ref (gr g (gr g h0 3) 1), .ref (gr g (gr g h0 3) 2), .ref (gr g (gr g h0 3) 3), .ref (gr g (gr g h0 3) 4), .int x_6, .int x_7, .long x_8, .int x_9, .int x_10]) := Kp.at kc_104 i_4 (by decide) k_5
      have k_107 : f_101 (gr g (gr g h0 3) 1) = .inl (gc g 4, 12, .inr (.inr (.inr (.inr q_21)))) := Kp.at kc_104 i_19 (by decide) k_20
      have k_108 : f_101 a_23 = .inr (8, [.int x_26, .ref (gr g a_23 1), .int x_27, .int x_28, .int x_29, .long x_30, .int x_31, .ref (gr g a_23 7), .int x_32, .int x_33, .int x_34, .int x_35, .int x_36, .int x_37, .int x_38, .int x_39, .int x_40, .int x_41]) := Kp.at kc_104 i_24 (by decide) k_25
      have k_109 : f_101 (gr g a_23 1) = .inr (5, [.ref (gr g (gr g a_23 1) 0), .int x_45, .int x_46, .int x_47, .int x_48]) := Kp.at kc_104 i_43 (by decide) k_44
      have kp_110 := Kp.call hk0 kc_104 (by decide)
      generalize H1 = H at hI hS ⊢
      refine W.widen (k := 0) (n := 0) (Nat.le_of_ble_eq_true rfl) (Nat.le_of_ble_eq_true rfl) ?_
      have w_102 : r_103.toInt = (-4 : Int32).toInt := w_102
      exact W.iret (v := r_103) hx hb hr (fun t ht hW => ⟨⟨r_103, (), rfl, trivial, ⟨f_101, k_ret ht hI, kp_110⟩⟩, hS.F ht⟩) hS.2.2 dX11_listing_50
  · have c_15 := kc_eq rfl (by decide : Int32.toInt 0 = 0) c_15
    refine lv_aload_n hx hb dX11_listing_11 rfl (lv_at hl 0 rfl) ?_
    refine k_get (ci := 11) (v := .ref (gr g h0 10)) (C := RX11) (T := TX11) (N := 12) hx hb hts (fun _ h0_ => List.mem_cons_of_mem _ (List.mem_append_right _ (List.mem_append_left _ h0_))) hown hK hI i_h0.1 k_1 rfl 10 (by decide) (hts (.fieldLink RX11 72 "DeadlineShare" "refusals" "LDeadlineShare$Refusals;") (List.mem_cons_of_mem _ (List.mem_append_left _ (List.mem_of_getElem? (i := 16) rfl)))) (fun _ h9 => h9) rfl dX11_listing_12 ?_
    have i_112 := kw_11_10 hG i_h0
    refine lv_bipush (v := (-2)) hx hb dX11_listing_15 (by decide) ?_
    obtain ⟨x_114, k_113⟩ := op_4 hI i_112
    refine va_calli (va_runV (As := [.int (-2)]) (rest := []) ⟨hx, hb, hml, hown, hts⟩ (c_X4_add l dC dI g A hG f (gr g h0 10) (-2) i_112) (cwV 1 hts (gi_V (fun w_ h0_ => ⟨List.mem_cons_of_mem _ (List.mem_append_right _ (List.mem_append_right _ (List.mem_append_right _ (List.mem_append_right _ (List.mem_append_right _ (List.mem_append_right _ (List.mem_append_right _ (List.mem_append_right _ (List.mem_append_right _ (List.mem_append_left _ h0_)))))))))), (tb_c_X4_add w_ h0_).2⟩) (List.mem_cons_of_mem _ (List.mem_append_left _ (List.mem_of_getElem? (i := 21) rfl))) (List.mem_cons_of_mem _ (List.mem_append_left _ (List.mem_of_getElem? (i := 22) rfl))) (List.mem_cons_of_mem _ (List.mem_append_left _ (List.mem_of_getElem? (i := 23) rfl))) (List.mem_cons_of_mem _ (List.mem_append_left _ (List.mem_of_getElem? (i := 20) rfl)))) rfl rfl rfl (by decide +kernel) ⟨Nat.le_of_ble_eq_true rfl, Nat.le_of_ble_eq_true rfl⟩) ⟨fun a U g mk q => ⟨q.1, q.2.calling rfl rfl⟩, k_recv hK hI i_112.1 k_113 (ci := 4) rfl, fun U hU hW => ⟨rfl, kIn.of hI hK hE hS hU hW⟩⟩ rfl rfl hl.1 rfl (lv_room (Nat.le_of_ble_eq_true rfl)) dX11_listing_17 ⟨Nat.le_of_ble_eq_true rfl, Nat.le_of_ble_eq_true rfl⟩) hS (fun q _ h => h) (fun q h => h) (fun r_117 u t H1 locs ht hvm w_116 hB hz1 hk1 hS => ?_)
    obtain ⟨f_115, hI, kc_118⟩ := hB
    rw [ht] at hI
    have k_119 : f_115 h0 = .inr (11, [.ref (gr g h0 0), .ref (gr g h0 1), .ref (gr g h0 2), .ref (gr g h0 3), .ref (gr g h0 4), .ref (gr g h0 5), .ref (gr g h0 6), .ref (gr g h0 7), .ref (gr g h0 8), .ref (gr g h0 9), .ref (gr g h0 10), .int x_2]) := Kp.at kc_118 i_h0 (by decide) k_1
    have k_120 : f_115 (gr g h0 3) = .inr (6, [.ref (gr g (gr g h0 3) 0), .ref (gr g (gr g h0 3) 1), .ref (gr g (gr g h0 3) 2), .ref (gr g (gr g h0 3) 3), .ref (gr g (gr g h0 3) 4), .int x_6, .int x_7, .long x_8, .int x_9, .int x_10]) := Kp.at kc_118 i_4 (by decide) k_5
    have kp_121 := Kp.call hk0 kc_118 (by decide)
    generalize H1 = H at hI hS ⊢
    refine W.widen (k := 0) (n := 0) (Nat.le_of_ble_eq_true rfl) (Nat.le_of_ble_eq_true rfl) ?_
    have w_116 : r_117.toInt = (-2 : Int32).toInt := w_116
    exact W.iret (v := r_117) hx hb hr (fun t ht hW => ⟨⟨r_117, (), rfl, trivial, ⟨f_115, k_ret ht hI, kp_121⟩⟩, hS.F ht⟩) hS.2.2 dX11_listing_20
theorem tw_612 : q_g (.code yX11_fault cX11_fault 1 (some .int)) := ⟨(List.mem_append_right _ (List.mem_of_getElem? (i := 778) (by decide +kernel))), good_of_word (by decide +kernel)⟩
def ow_c_X11_fault : List Cond := [.fieldLink RX11 76 "DeadlineShare" "faultPlace" "I"]
def wq_c_X11_fault : List Cond := .code yX11_fault cX11_fault 1 (some .int) :: (ow_c_X11_fault ++ (u_ws RX11 TX11 12 ++ ([] : List Cond)))
theorem tb_c_X11_fault : ∀ w ∈ wq_c_X11_fault, q_g w := by
  unfold wq_c_X11_fault ow_c_X11_fault
  exact q_cons tw_612 (q_app (q_cons tw_601 q_nil) (q_app tu_X11 q_nil))
set_option maxHeartbeats 4000000 in
set_option maxRecDepth 100000 in
theorem c_X11_fault (l : Launch) (dC : Nat → ClassId) (dI : Nat → Nat → Nat) (g : kG) (A : Nat → Prop) (hG : kWf g) (f : Nat → va_E) (h0 : Nat) (i_h0 : ik g 11 h0) : Met l yX11_fault wq_c_X11_fault ({ frames := 0, cells := 0, slots := 0, locals := 0 } : Room) (va_Pc [.ref h0] (fun U => kIn dC dI g A f U)) (va_Qi (fun (r : Int32) (_ : Unit) => True) (fun (_ : Unit) t => Iv dC dI g A f t.heap) A) 0 0 A := by
  refine Met.ofW (cc := cX11_fault) (maxL := 1) (ret := (some .int)) (by decide) rfl ?_
  intro p e s m args below meth c s₁ B hml hv
  obtain ⟨rfl, hI, hK, hE⟩ := hv
  have hx := B.exec
  have hb := B.bytes
  have hr := B.returns
  have hts := atoms_spec (ws := wq_c_X11_fault) B.pre
  have hown : s.vm.findClass RX11 = some m.cls := findClass_of_methodNamed B.named
  have hlocks := B.notSynchronized
  have hS : va_S A s.heap s.heap [] := va_S.rf
  have hl := lv_entry ([.ref h0]) (n := 1) (Nat.le_of_ble_eq_true rfl)
  rw [lg_entry_eq]
  generalize (lg_sl ([.ref h0]) ++ List.replicate (1 - (lg_sl ([.ref h0])).length) Slot.unset).toArray = ls at hl ⊢
  have hl : lv_has ls 1 [(0, .ref h0)] := hl
  refine lv_aload_n hx hb dX11_fault_0 rfl (lv_at hl 0 rfl) ?_
  obtain ⟨x_2, k_1⟩ := op_11 hI i_h0
  refine k_get (ci := 11) (v := .int x_2) (C := RX11) (T := TX11) (N := 12) hx hb hts (fun _ h0_ => List.mem_cons_of_mem _ (List.mem_append_right _ (List.mem_append_left _ h0_))) hown hK hI i_h0.1 k_1 rfl 11 (by decide) (hts (.fieldLink RX11 76 "DeadlineShare" "faultPlace" "I") (List.mem_cons_of_mem _ (List.mem_append_left _ (List.mem_of_getElem? (i := 0) rfl)))) (fun _ h9 => h9) rfl dX11_fault_1 ?_
  exact W.iret (v := x_2) hx hb hr (fun t ht hW => ⟨⟨x_2, (), rfl, trivial, k_ret ht hI⟩, hS.F ht⟩) hS.2.2 dX11_fault_4
theorem tw_613 : q_g (.selects RX6 yX6_tick yX6_tick) := ⟨(List.mem_append_right _ (List.mem_of_getElem? (i := 785) (by decide +kernel))), good_of_word (by decide +kernel)⟩
theorem tw_614 : q_g (.instanceMethod yX6_tick) := ⟨(List.mem_append_right _ (List.mem_of_getElem? (i := 784) (by decide +kernel))), good_of_word (by decide +kernel)⟩
theorem tw_615 : q_g (.methodLink RX11 226 yX6_tick) := ⟨(List.mem_append_right _ (List.mem_of_getElem? (i := 783) (by decide +kernel))), good_of_word (by decide +kernel)⟩
theorem tw_616 : q_g (.fieldLink RX11 47 "DeadlineShare" "asTold" "LDeadlineShare$Chooser;") := ⟨(List.mem_append_right _ (List.mem_of_getElem? (i := 325) (by decide +kernel))), good_of_word (by decide +kernel)⟩
theorem tw_617 : q_g (.fieldLink RX11 223 "DeadlineShare$State" "time" "I") := ⟨(List.mem_append_right _ (List.mem_of_getElem? (i := 239) (by decide +kernel))), good_of_word (by decide +kernel)⟩
theorem tw_618 : q_g (.code yX11_ticks cX11_ticks 4 (some .int)) := ⟨(List.mem_append_right _ (List.mem_of_getElem? (i := 782) (by decide +kernel))), good_of_word (by decide +kernel)⟩
def ow_c_X11_ticks : List Cond := [.fieldLink RX11 72 "DeadlineShare" "refusals" "LDeadlineShare$Refusals;", .methodLink RX11 84 yX4_add, .instanceMethod yX4_add, .selects RX4 yX4_add yX4_add, .initialized RX4, .fieldLink RX11 37 "DeadlineShare" "now" "LDeadlineShare$State;", .fieldLink RX11 223 "DeadlineShare$State" "time" "I", .fieldLink RX11 65 "DeadlineShare" "history" "LDeadlineShare$History;", .methodLink RX11 122 yX1_keep, .instanceMethod yX1_keep, .selects RX1 yX1_keep yX1_keep, .initialized RX1, .methodLink RX11 95 yX4_none, .instanceMethod yX4_none, .selects RX4 yX4_none yX4_none, .fieldLink RX11 47 "DeadlineShare" "asTold" "LDeadlineShare$Chooser;", .methodLink RX11 226 yX6_tick, .instanceMethod yX6_tick, .selects RX6 yX6_tick yX6_tick, .initialized RX6]
def wq_c_X11_ticks : List Cond := .code yX11_ticks cX11_ticks 4 (some .int) :: (ow_c_X11_ticks ++ (u_ws RX11 TX11 12 ++ (wq_c_X4_add ++ (u_ws RX6 TX6 10 ++ (wq_c_X1_keep ++ (wq_c_X4_none ++ (wq_c_X6_tick ++ ([] : List Cond))))))))
theorem tb_c_X11_ticks : ∀ w ∈ wq_c_X11_ticks, q_g w := by
  unfold wq_c_X11_ticks ow_c_X11_ticks
  exact q_cons tw_618 (q_app (q_cons tw_522 (q_cons tw_518 (q_cons tw_517 (q_cons tw_516 (q_cons tw_273 (q_cons tw_558 (q_cons tw_617 (q_cons tw_556 (q_cons tw_555 (q_cons tw_554 (q_cons tw_553 (q_cons tw_552 (q_cons tw_521 (q_cons tw_520 (q_cons tw_519 (q_cons tw_616 (q_cons tw_615 (q_cons tw_614 (q_cons tw_613 (q_cons tw_47 q_nil)))))))))))))))))))) (q_app tu_X11 (q_app tb_c_X4_add (q_app tu_X6 (q_app tb_c_X1_keep (q_app tb_c_X4_none (q_app tb_c_X6_tick q_nil)))))))
set_option maxHeartbeats 4000000 in
set_option maxRecDepth 100000 in
theorem c_X11_ticks (l : Launch) (dC : Nat → ClassId) (dI : Nat → Nat → Nat) (g : kG) (A : Nat → Prop) (hG : kWf g) (f : Nat → va_E) (h0 : Nat) (p1 : Int32) (i_h0 : ik g 11 h0) : Met l yX11_ticks wq_c_X11_ticks ({ frames := 6, cells := 0, slots := 0, locals := 139 } : Room) (va_Pc [.ref h0, .int p1] (fun U => kIn dC dI g A f U)) (va_Qi (fun (r : Int32) (_ : Unit) => True) (fun (_ : Unit) t => ∃ f1 : Nat → va_E, Iv dC dI g A f1 t.heap ∧ Kp g [0, 1, 4, 5, 6, 8, 10, 23, 24, 27, 28] f f1) A) 0 0 A := by
  refine Met.ofW (cc := cX11_ticks) (maxL := 4) (ret := (some .int)) (by decide) rfl ?_
  intro p e s m args below meth c s₁ B hml hv
  obtain ⟨rfl, hI, hK, hE⟩ := hv
  have hx := B.exec
  have hb := B.bytes
  have hr := B.returns
  have hts := atoms_spec (ws := wq_c_X11_ticks) B.pre
  have hown : s.vm.findClass RX11 = some m.cls := findClass_of_methodNamed B.named
  have hlocks := B.notSynchronized
  have hS : va_S A s.heap s.heap [] := va_S.rf
  have hk0 : Kp g [0, 1, 4, 5, 6, 8, 10, 23, 24, 27, 28] f f := Kp.rf
  have hl := lv_entry ([.ref h0, .int p1]) (n := 4) (Nat.le_of_ble_eq_true rfl)
  rw [lg_entry_eq]
  generalize (lg_sl ([.ref h0, .int p1]) ++ List.replicate (4 - (lg_sl ([.ref h0, .int p1])).length) Slot.unset).toArray = ls at hl ⊢
  have hl : lv_has ls 4 [(0, .ref h0), (1, .int p1)] := hl
  refine lv_iload_n hx hb dX11_ticks_0 rfl (lv_at hl 1 rfl) ?_
  refine lv_iconst (v := 1) hx hb dX11_ticks_1 (by decide) ?_
  have J_11 : ∀ (H : Heap) (locs : List Loc) (ls : Array Slot), Iv dC dI g A f H → va_S A s.heap H locs → lv_has ls 4 [(0, .ref h0), (1, .int p1)] → W p l e (headSpec wq_c_X11_ticks ({ frames := 6, cells := 0, slots := 0, locals := 139 } : Room)).room s m ([.ref h0, .int p1].toArray) below meth c H locs 0 0 (MQ below (va_Qi (fun (r : Int32) (_ : Unit) => True) (fun (_ : Unit) t => ∃ f1 : Nat → va_E, Iv dC dI g A f1 t.heap ∧ Kp g [0, 1, 4, 5, 6, 8, 10, 23, 24, 27, 28] f f1) A) ([.ref h0, .int p1].toArray) s 0 0 A) (F0 m 11 ls []) := by
    intro H locs ls hI hS  hl
    refine lv_aload_n hx hb dX11_ticks_11 rfl (lv_at hl 0 rfl) ?_
    obtain ⟨x_2, k_1⟩ := op_11 hI i_h0
    refine k_get (ci := 11) (v := .ref (gr g h0 10)) (C := RX11) (T := TX11) (N := 12) hx hb hts (fun _ h0_ => List.mem_cons_of_mem _ (List.mem_append_right _ (List.mem_append_left _ h0_))) hown hK hI i_h0.1 k_1 rfl 10 (by decide) (hts (.fieldLink RX11 72 "DeadlineShare" "refusals" "LDeadlineShare$Refusals;") (List.mem_cons_of_mem _ (List.mem_append_left _ (List.mem_of_getElem? (i := 0) rfl)))) (fun _ h9 => h9) rfl dX11_ticks_12 ?_
    have i_4 := kw_11_10 hG i_h0
    refine lv_iconst (v := (-1)) hx hb dX11_ticks_15 (by decide) ?_
    obtain ⟨x_6, k_5⟩ := op_4 hI i_4
    refine va_calli (va_runV (As := [.int (-1)]) (rest := []) ⟨hx, hb, hml, hown, hts⟩ (c_X4_add l dC dI g A hG f (gr g h0 10) (-1) i_4) (cwV 1 hts (gi_V (fun w_ h0_ => ⟨List.mem_cons_of_mem _ (List.mem_append_right _ (List.mem_append_right _ (List.mem_append_left _ h0_))), (tb_c_X4_add w_ h0_).2⟩) (List.mem_cons_of_mem _ (List.mem_append_left _ (List.mem_of_getElem? (i := 1) rfl))) (List.mem_cons_of_mem _ (List.mem_append_left _ (List.mem_of_getElem? (i := 2) rfl))) (List.mem_cons_of_mem _ (List.mem_append_left _ (List.mem_of_getElem? (i := 3) rfl))) (List.mem_cons_of_mem _ (List.mem_append_left _ (List.mem_of_getElem? (i := 4) rfl)))) rfl rfl rfl (by decide +kernel) ⟨Nat.le_of_ble_eq_true rfl, Nat.le_of_ble_eq_true rfl⟩) ⟨fun a U g mk q => ⟨q.1, q.2.calling rfl rfl⟩, k_recv hK hI i_4.1 k_5 (ci := 4) rfl, fun U hU hW => ⟨rfl, kIn.of hI hK hE hS hU hW⟩⟩ rfl rfl hl.1 rfl (lv_room (Nat.le_of_ble_eq_true rfl)) dX11_ticks_16 ⟨Nat.le_of_ble_eq_true rfl, Nat.le_of_ble_eq_true rfl⟩) hS (fun q _ h => h) (fun q h => h) (fun r_9 u t H1 locs ht hvm w_8 hB hz1 hk1 hS => ?_)
    obtain ⟨f_7, hI, kc_10⟩ := hB
    rw [ht] at hI
    have k_11 : f_7 h0 = .inr (11, [.ref (gr g h0 0), .ref (gr g h0 1), .ref (gr g h0 2), .ref (gr g h0 3), .ref (gr g h0 4), .ref (gr g h0 5), .ref (gr g h0 6), .ref (gr g h0 7), .ref (gr g h0 8), .ref (gr g h0 9), .ref (gr g h0 10), .int x_2]) := Kp.at kc_10 i_h0 (by decide) k_1
    have kp_12 := Kp.call hk0 kc_10 (by decide)
    generalize H1 = H at hI hS ⊢
    refine W.widen (k := 0) (n := 0) (Nat.le_of_ble_eq_true rfl) (Nat.le_of_ble_eq_true rfl) ?_
    have w_8 : r_9.toInt = (-1 : Int32).toInt := w_8
    exact W.iret (v := r_9) hx hb hr (fun t ht hW => ⟨⟨r_9, (), rfl, trivial, ⟨f_7, k_ret ht hI, kp_12⟩⟩, hS.F ht⟩) hS.2.2 dX11_ticks_19
  refine lv_icmp_lt (tgt := 11) hx hb dX11_ticks_2 (by decide) (fun c_13 => ?_) (fun c_13 => ?_)
  · have c_13 := kc_lt rfl (by decide : Int32.toInt 1 = 1) c_13
    exact J_11  _ _ _ hI hS  (lv_sub hl [0, 1] rfl)
  · have c_13 := kn_lt rfl (by decide : Int32.toInt 1 = 1) c_13
    refine lv_iload_n hx hb dX11_ticks_5 rfl (lv_at hl 1 rfl) ?_
    refine lv_bipush (v := 60) hx hb dX11_ticks_6 (by decide) ?_
    refine lv_icmp_le (tgt := 20) hx hb dX11_ticks_8 (by decide) (fun c_14 => ?_) (fun c_14 => ?_)
    · have c_14 := kc_le rfl (by decide : Int32.toInt 60 = 60) c_14
      refine lv_aload_n hx hb dX11_ticks_20 rfl (lv_at hl 0 rfl) ?_
      obtain ⟨x_16, k_15⟩ := op_11 hI i_h0
      refine k_get (ci := 11) (v := .ref (gr g h0 3)) (C := RX11) (T := TX11) (N := 12) hx hb hts (fun _ h0_ => List.mem_cons_of_mem _ (List.mem_append_right _ (List.mem_append_left _ h0_))) hown hK hI i_h0.1 k_15 rfl 3 (by decide) (hts (.fieldLink RX11 37 "DeadlineShare" "now" "LDeadlineShare$State;") (List.mem_cons_of_mem _ (List.mem_append_left _ (List.mem_of_getElem? (i := 5) rfl)))) (fun _ h9 => h9) rfl dX11_ticks_21 ?_
      have i_18 := kw_11_3 hG i_h0
      obtain ⟨x_20, x_21, x_22, x_23, x_24, k_19, b_25, b_26⟩ := op_6 hI i_18
      refine k_get (ci := 6) (v := .int x_21) (C := RX6) (T := TX6) (N := 10) hx hb hts (fun _ h0_ => List.mem_cons_of_mem _ (List.mem_append_right _ (List.mem_append_right _ (List.mem_append_right _ (List.mem_append_left _ h0_))))) hown hK hI i_18.1 k_19 rfl 6 (by decide) (hts (.fieldLink RX11 223 "DeadlineShare$State" "time" "I") (List.mem_cons_of_mem _ (List.mem_append_left _ (List.mem_of_getElem? (i := 6) rfl)))) (fun _ h9 => h9) rfl dX11_ticks_24 ?_
      refine lv_iload_n hx hb dX11_ticks_27 rfl (lv_at hl 1 rfl) ?_
      refine lv_iadd hx hb dX11_ticks_28 ?_
      refine lv_topi (fun v_27 ev_27 => ?_)
      have tv_27 := k_ad x_21 p1
      rw [← ev_27] at tv_27
      refine lv_sipush (v := 9999) hx hb dX11_ticks_29 (by decide) ?_
      refine lv_icmp_le (tgt := 45) hx hb dX11_ticks_32 (by decide) (fun c_28 => ?_) (fun c_28 => ?_)
      · have c_28 := kc_le rfl (by decide : Int32.toInt 9999 = 9999) c_28
        refine lv_aload_n hx hb dX11_ticks_45 rfl (lv_at hl 0 rfl) ?_
        refine k_get (ci := 11) (v := .ref (gr g h0 9)) (C := RX11) (T := TX11) (N := 12) hx hb hts (fun _ h0_ => List.mem_cons_of_mem _ (List.mem_append_right _ (List.mem_append_left _ h0_))) hown hK hI i_h0.1 k_15 rfl 9 (by decide) (hts (.fieldLink RX11 65 "DeadlineShare" "history" "LDeadlineShare$History;") (List.mem_cons_of_mem _ (List.mem_append_left _ (List.mem_of_getElem? (i := 7) rfl)))) (fun _ h9 => h9) rfl dX11_ticks_46 ?_
        have i_30 := kw_11_9 hG i_h0
        refine lv_aload_n hx hb dX11_ticks_49 rfl (lv_at hl 0 rfl) ?_
        refine k_get (ci := 11) (v := .ref (gr g h0 3)) (C := RX11) (T := TX11) (N := 12) hx hb hts (fun _ h0_ => List.mem_cons_of_mem _ (List.mem_append_right _ (List.mem_append_left _ h0_))) hown hK hI i_h0.1 k_15 rfl 3 (by decide) (hts (.fieldLink RX11 37 "DeadlineShare" "now" "LDeadlineShare$State;") (List.mem_cons_of_mem _ (List.mem_append_left _ (List.mem_of_getElem? (i := 5) rfl)))) (fun _ h9 => h9) rfl dX11_ticks_50 ?_
        refine lv_bipush (v := 6) hx hb dX11_ticks_53 (by decide) ?_
        obtain ⟨x_34, x_35, k_33⟩ := op_1 hI i_30
        refine va_callv (va_runV (As := [.ref (gr g h0 3), .int 6]) (rest := []) ⟨hx, hb, hml, hown, hts⟩ (c_X1_keep l dC dI g A hG f (gr g h0 9) (gr g h0 3) 6 i_30 i_18) (cwV 2 hts (gi_V (fun w_ h0_ => ⟨List.mem_cons_of_mem _ (List.mem_append_right _ (List.mem_append_right _ (List.mem_append_right _ (List.mem_append_right _ (List.mem_append_left _ h0_))))), (tb_c_X1_keep w_ h0_).2⟩) (List.mem_cons_of_mem _ (List.mem_append_left _ (List.mem_of_getElem? (i := 8) rfl))) (List.mem_cons_of_mem _ (List.mem_append_left _ (List.mem_of_getElem? (i := 9) rfl))) (List.mem_cons_of_mem _ (List.mem_append_left _ (List.mem_of_getElem? (i := 10) rfl))) (List.mem_cons_of_mem _ (List.mem_append_left _ (List.mem_of_getElem? (i := 11) rfl)))) rfl rfl rfl (by decide +kernel) ⟨Nat.le_of_ble_eq_true rfl, Nat.le_of_ble_eq_true rfl⟩) ⟨fun a U g mk q => ⟨q.1, q.2.calling rfl rfl⟩, k_recv hK hI i_30.1 k_33 (ci := 1) rfl, fun U hU hW => ⟨rfl, kIn.of hI hK hE hS hU hW⟩⟩ rfl rfl hl.1 rfl (lv_room (Nat.le_of_ble_eq_true rfl)) dX11_ticks_55 ⟨Nat.le_of_ble_eq_true rfl, Nat.le_of_ble_eq_true rfl⟩) hS (fun q _ h => h) (fun q h => h) (fun u t H1 locs ht hvm _ hB hz1 hk1 hS => ?_)
        obtain ⟨f_36, hI, kc_38⟩ := hB
        rw [ht] at hI
        have k_39 : f_36 h0 = .inr (11, [.ref (gr g h0 0), .ref (gr g h0 1), .ref (gr g h0 2), .ref (gr g h0 3), .ref (gr g h0 4), .ref (gr g h0 5), .ref (gr g h0 6), .ref (gr g h0 7), .ref (gr g h0 8), .ref (gr g h0 9), .ref (gr g h0 10), .int x_16]) := Kp.at kc_38 i_h0 (by decide) k_15
        have kp_40 := Kp.call hk0 kc_38 (by decide)
        generalize H1 = H at hI hS ⊢
        refine W.widen (k := 0) (n := 0) (Nat.le_of_ble_eq_true rfl) (Nat.le_of_ble_eq_true rfl) ?_
        refine lv_iconst (v := 0) hx hb dX11_ticks_58 (by decide) ?_
        refine lv_istore_n (lv' := [(2, .int 0), (0, .ref h0), (1, .int p1)]) hx hb dX11_ticks_59 rfl hl (by decide) rfl (fun ls hl => ?_)
        refine lv_iconst (v := 0) hx hb dX11_ticks_60 (by decide) ?_
        refine lv_istore_n (lv' := [(3, .int 0), (2, .int 0), (0, .ref h0), (1, .int p1)]) hx hb dX11_ticks_61 rfl hl (by decide) rfl (fun ls hl => ?_)
        have K_62 : ∀ (nn : Nat) (y_41 : Int32) (y_42 : Int32) (f_43 : Nat → va_E) (H : Heap) (locs : List Loc) (ls : Array Slot), (p1.toInt - y_41.toInt).toNat < nn → Iv dC dI g A f_43 H → va_S A s.heap H locs → f_43 h0 = .inr (11, [.ref (gr g h0 0), .ref (gr g h0 1), .ref (gr g h0 2), .ref (gr g h0 3), .ref (gr g h0 4), .ref (gr g h0 5), .ref (gr g h0 6), .ref (gr g h0 7), .ref (gr g h0 8), .ref (gr g h0 9), .ref (gr g h0 10), .int x_16]) → Kp g [0, 1, 4, 5, 6, 8, 10, 23, 24, 27, 28] f f_43 → lv_has ls 4 [(3, .int y_41), (2, .int y_42), (0, .ref h0), (1, .int p1)] → W p l e (headSpec wq_c_X11_ticks ({ frames := 6, cells := 0, slots := 0, locals := 139 } : Room)).room s m ([.ref h0, .int p1].toArray) below meth c H locs 0 0 (MQ below (va_Qi (fun (r : Int32) (_ : Unit) => True) (fun (_ : Unit) t => ∃ f1 : Nat → va_E, Iv dC dI g A f1 t.heap ∧ Kp g [0, 1, 4, 5, 6, 8, 10, 23, 24, 27, 28] f f1) A) ([.ref h0, .int p1].toArray) s 0 0 A) (F0 m 62 ls []) := by
          intro nn
          induction nn with
          | zero => intro y_41 y_42 f_43 H locs ls m_46; exact absurd m_46 (Nat.not_lt_zero _)
          | succ nn ih =>
            intro y_41 y_42 f_43 H locs ls m_46 hI hS k_44 kp_45 hl
            have g_47 := Int32.toInt_lt p1
            have g_48 := Int32.le_toInt p1
            have g_49 := Int32.toInt_lt y_41
            have g_50 := Int32.le_toInt y_41
            refine lv_iload_n hx hb dX11_ticks_62 rfl (lv_at hl 0 rfl) ?_
            refine lv_iload_n hx hb dX11_ticks_63 rfl (lv_at hl 3 rfl) ?_
            refine lv_icmp_ge (tgt := 91) hx hb dX11_ticks_64 (by decide) (fun c_51 => ?_) (fun c_51 => ?_)
            · have c_51 := kc_le rfl rfl c_51
              refine lv_aload_n hx hb dX11_ticks_91 rfl (lv_at hl 2 rfl) ?_
              refine k_get (ci := 11) (v := .ref (gr g h0 10)) (C := RX11) (T := TX11) (N := 12) hx hb hts (fun _ h0_ => List.mem_cons_of_mem _ (List.mem_append_right _ (List.mem_append_left _ h0_))) hown hK hI i_h0.1 k_44 rfl 10 (by decide) (hts (.fieldLink RX11 72 "DeadlineShare" "refusals" "LDeadlineShare$Refusals;") (List.mem_cons_of_mem _ (List.mem_append_left _ (List.mem_of_getElem? (i := 0) rfl)))) (fun _ h9 => h9) rfl dX11_ticks_92 ?_
              have i_53 := kw_11_10 hG i_h0
              refine lv_iload_n hx hb dX11_ticks_95 rfl (lv_at hl 1 rfl) ?_
              obtain ⟨x_55, k_54⟩ := op_4 hI i_53
              refine va_calli (va_runV (As := [.int y_42]) (rest := []) ⟨hx, hb, hml, hown, hts⟩ (c_X4_none l dC dI g A hG f_43 (gr g h0 10) y_42 i_53) (cwV 1 hts (gi_V (fun w_ h0_ => ⟨List.mem_cons_of_mem _ (List.mem_append_right _ (List.mem_append_right _ (List.mem_append_right _ (List.mem_append_right _ (List.mem_append_right _ (List.mem_append_left _ h0_)))))), (tb_c_X4_none w_ h0_).2⟩) (List.mem_cons_of_mem _ (List.mem_append_left _ (List.mem_of_getElem? (i := 12) rfl))) (List.mem_cons_of_mem _ (List.mem_append_left _ (List.mem_of_getElem? (i := 13) rfl))) (List.mem_cons_of_mem _ (List.mem_append_left _ (List.mem_of_getElem? (i := 14) rfl))) (List.mem_cons_of_mem _ (List.mem_append_left _ (List.mem_of_getElem? (i := 4) rfl)))) rfl rfl rfl (by decide +kernel) ⟨Nat.le_of_ble_eq_true rfl, Nat.le_of_ble_eq_true rfl⟩) ⟨fun a U g mk q => ⟨q.1, q.2.calling rfl rfl⟩, k_recv hK hI i_53.1 k_54 (ci := 4) rfl, fun U hU hW => ⟨rfl, kIn.of hI hK hE hS hU hW⟩⟩ rfl rfl hl.1 rfl (lv_room (Nat.le_of_ble_eq_true rfl)) dX11_ticks_96 ⟨Nat.le_of_ble_eq_true rfl, Nat.le_of_ble_eq_true rfl⟩) hS (fun q _ h => h) (fun q h => h) (fun r_58 u t H1 locs ht hvm w_57 hB hz1 hk1 hS => ?_)
              obtain ⟨f_56, hI, kc_59⟩ := hB
              rw [ht] at hI
              have k_60 : f_56 h0 = .inr (11, [.ref (gr g h0 0), .ref (gr g h0 1), .ref (gr g h0 2), .ref (gr g h0 3), .ref (gr g h0 4), .ref (gr g h0 5), .ref (gr g h0 6), .ref (gr g h0 7), .ref (gr g h0 8), .ref (gr g h0 9), .ref (gr g h0 10), .int x_16]) := Kp.at kc_59 i_h0 (by decide) k_44
              have kp_61 := Kp.call kp_45 kc_59 (by decide)
              generalize H1 = H at hI hS ⊢
              refine W.widen (k := 0) (n := 0) (Nat.le_of_ble_eq_true rfl) (Nat.le_of_ble_eq_true rfl) ?_
              have w_57 : r_58.toInt = y_42.toInt := w_57
              exact W.iret (v := r_58) hx hb hr (fun t ht hW => ⟨⟨r_58, (), rfl, trivial, ⟨f_56, k_ret ht hI, kp_61⟩⟩, hS.F ht⟩) hS.2.2 dX11_ticks_99
            · have c_51 := kn_le rfl rfl c_51
              refine lv_aload_n hx hb dX11_ticks_67 rfl (lv_at hl 2 rfl) ?_
              refine k_get (ci := 11) (v := .ref (gr g h0 3)) (C := RX11) (T := TX11) (N := 12) hx hb hts (fun _ h0_ => List.mem_cons_of_mem _ (List.mem_append_right _ (List.mem_append_left _ h0_))) hown hK hI i_h0.1 k_44 rfl 3 (by decide) (hts (.fieldLink RX11 37 "DeadlineShare" "now" "LDeadlineShare$State;") (List.mem_cons_of_mem _ (List.mem_append_left _ (List.mem_of_getElem? (i := 5) rfl)))) (fun _ h9 => h9) rfl dX11_ticks_68 ?_
              refine lv_aload_n hx hb dX11_ticks_71 rfl (lv_at hl 2 rfl) ?_
              refine k_get (ci := 11) (v := .ref (gr g h0 5)) (C := RX11) (T := TX11) (N := 12) hx hb hts (fun _ h0_ => List.mem_cons_of_mem _ (List.mem_append_right _ (List.mem_append_left _ h0_))) hown hK hI i_h0.1 k_44 rfl 5 (by decide) (hts (.fieldLink RX11 47 "DeadlineShare" "asTold" "LDeadlineShare$Chooser;") (List.mem_cons_of_mem _ (List.mem_append_left _ (List.mem_of_getElem? (i := 15) rfl)))) (fun _ h9 => h9) rfl dX11_ticks_72 ?_
              have i_65 := kw_11_5 hG i_h0
              obtain ⟨x_67, x_68, x_69, x_70, x_71, k_66, b_72, b_73⟩ := op_6 hI i_18
              refine va_calli (va_runV (As := [.ref (gr g h0 5)]) (rest := []) ⟨hx, hb, hml, hown, hts⟩ (c_X6_tick l dC dI g A hG f_43 (gr g h0 3) (gr g h0 5) i_18 i_65) (cwV 1 hts (gi_V (fun w_ h0_ => ⟨List.mem_cons_of_mem _ (List.mem_append_right _ (List.mem_append_right _ (List.mem_append_right _ (List.mem_append_right _ (List.mem_append_right _ (List.mem_append_right _ (List.mem_append_left _ h0_))))))), (tb_c_X6_tick w_ h0_).2⟩) (List.mem_cons_of_mem _ (List.mem_append_left _ (List.mem_of_getElem? (i := 16) rfl))) (List.mem_cons_of_mem _ (List.mem_append_left _ (List.mem_of_getElem? (i := 17) rfl))) (List.mem_cons_of_mem _ (List.mem_append_left _ (List.mem_of_getElem? (i := 18) rfl))) (List.mem_cons_of_mem _ (List.mem_append_left _ (List.mem_of_getElem? (i := 19) rfl)))) rfl rfl rfl (by decide +kernel) ⟨Nat.le_of_ble_eq_true rfl, Nat.le_of_ble_eq_true rfl⟩) ⟨fun a U g mk q => ⟨q.1, q.2.calling rfl rfl⟩, k_recv hK hI i_18.1 k_66 (ci := 6) rfl, fun U hU hW => ⟨rfl, kIn.of hI hK hE hS hU hW⟩⟩ rfl rfl hl.1 rfl (lv_room (Nat.le_of_ble_eq_true rfl)) dX11_ticks_75 ⟨Nat.le_of_ble_eq_true rfl, Nat.le_of_ble_eq_true rfl⟩) hS (fun q _ h => h) (fun q h => h) (fun r_76 u t H1 locs ht hvm w_75 hB hz1 hk1 hS => ?_)
              obtain ⟨f_74, hI, kc_77⟩ := hB
              rw [ht] at hI
              have k_78 : f_74 h0 = .inr (11, [.ref (gr g h0 0), .ref (gr g h0 1), .ref (gr g h0 2), .ref (gr g h0 3), .ref (gr g h0 4), .ref (gr g h0 5), .ref (gr g h0 6), .ref (gr g h0 7), .ref (gr g h0 8), .ref (gr g h0 9), .ref (gr g h0 10), .int x_16]) := Kp.at kc_77 i_h0 (by decide) k_44
              have kp_79 := Kp.call kp_45 kc_77 (by decide)
              generalize H1 = H at hI hS ⊢
              refine W.widen (k := 0) (n := 0) (Nat.le_of_ble_eq_true rfl) (Nat.le_of_ble_eq_true rfl) ?_
              refine lv_iconst (v := (-1)) hx hb dX11_ticks_78 (by decide) ?_
              have J_85 : ∀ (y_80 : Int32) (H : Heap) (locs : List Loc) (ls : Array Slot), Iv dC dI g A f_74 H → va_S A s.heap H locs → lv_has ls 4 [(3, .int y_41), (2, .int y_80), (0, .ref h0), (1, .int p1)] → W p l e (headSpec wq_c_X11_ticks ({ frames := 6, cells := 0, slots := 0, locals := 139 } : Room)).room s m ([.ref h0, .int p1].toArray) below meth c H locs 0 0 (MQ below (va_Qi (fun (r : Int32) (_ : Unit) => True) (fun (_ : Unit) t => ∃ f1 : Nat → va_E, Iv dC dI g A f1 t.heap ∧ Kp g [0, 1, 4, 5, 6, 8, 10, 23, 24, 27, 28] f f1) A) ([.ref h0, .int p1].toArray) s 0 0 A) (F0 m 85 ls []) := by
                intro y_80 H locs ls hI hS  hl
                obtain ⟨v_81, ev_81⟩ : ∃ y : Int32, y = y_41 + Int32.ofInt 1 := ⟨_, rfl⟩
                refine lv_iinc (v := v_81) (lv' := [(3, .int v_81), (2, .int y_80), (0, .ref h0), (1, .int p1)]) hx hb dX11_ticks_85 hl (k := 0) rfl ev_81.symm (by decide) rfl (fun ls hl => ?_)
                have tv_81 := k_inc y_41
                rw [← ev_81] at tv_81
                refine lv_goto (tgt := 62) hx hb dX11_ticks_88 (by decide) ?_
                exact ih v_81 y_80 f_74 _ _ _ (by omega) hI hS k_78 kp_79 (lv_sub hl [0, 1, 2, 3] rfl)
              refine lv_icmp_eq (tgt := 85) hx hb dX11_ticks_79 (by decide) (fun c_82 => ?_) (fun c_82 => ?_)
              · have c_82 := kc_eq rfl (by decide : Int32.toInt (-1) = (-1)) c_82
                exact J_85 y_42 _ _ _ hI hS  (lv_sub hl [0, 1, 2, 3] rfl)
              · have c_82 := kn_eq rfl (by decide : Int32.toInt (-1) = (-1)) c_82
                obtain ⟨v_83, ev_83⟩ : ∃ y : Int32, y = y_42 + Int32.ofInt 1 := ⟨_, rfl⟩
                refine lv_iinc (v := v_83) (lv' := [(2, .int v_83), (3, .int y_41), (0, .ref h0), (1, .int p1)]) hx hb dX11_ticks_82 hl (k := 1) rfl ev_83.symm (by decide) rfl (fun ls hl => ?_)
                have tv_83 := k_inc y_42
                rw [← ev_83] at tv_83
                exact J_85 v_83 _ _ _ hI hS  (lv_sub hl [1, 0, 2, 3] rfl)
        exact K_62 _ 0 0 f_36 _ _ _ (Nat.lt_succ_self _) hI hS k_39 kp_40 (lv_sub hl [0, 1, 2, 3] rfl)
      · have c_28 := kn_le rfl (by decide : Int32.toInt 9999 = 9999) c_28
        refine lv_aload_n hx hb dX11_ticks_35 rfl (lv_at hl 0 rfl) ?_
        refine k_get (ci := 11) (v := .ref (gr g h0 10)) (C := RX11) (T := TX11) (N := 12) hx hb hts (fun _ h0_ => List.mem_cons_of_mem _ (List.mem_append_right _ (List.mem_append_left _ h0_))) hown hK hI i_h0.1 k_15 rfl 10 (by decide) (hts (.fieldLink RX11 72 "DeadlineShare" "refusals" "LDeadlineShare$Refusals;") (List.mem_cons_of_mem _ (List.mem_append_left _ (List.mem_of_getElem? (i := 0) rfl)))) (fun _ h9 => h9) rfl dX11_ticks_36 ?_
        have i_85 := kw_11_10 hG i_h0
        refine lv_bipush (v := (-4)) hx hb dX11_ticks_39 (by decide) ?_
        obtain ⟨x_87, k_86⟩ := op_4 hI i_85
        refine va_calli (va_runV (As := [.int (-4)]) (rest := []) ⟨hx, hb, hml, hown, hts⟩ (c_X4_add l dC dI g A hG f (gr g h0 10) (-4) i_85) (cwV 1 hts (gi_V (fun w_ h0_ => ⟨List.mem_cons_of_mem _ (List.mem_append_right _ (List.mem_append_right _ (List.mem_append_left _ h0_))), (tb_c_X4_add w_ h0_).2⟩) (List.mem_cons_of_mem _ (List.mem_append_left _ (List.mem_of_getElem? (i := 1) rfl))) (List.mem_cons_of_mem _ (List.mem_append_left _ (List.mem_of_getElem? (i := 2) rfl))) (List.mem_cons_of_mem _ (List.mem_append_left _ (List.mem_of_getElem? (i := 3) rfl))) (List.mem_cons_of_mem _ (List.mem_append_left _ (List.mem_of_getElem? (i := 4) rfl)))) rfl rfl rfl (by decide +kernel) ⟨Nat.le_of_ble_eq_true rfl, Nat.le_of_ble_eq_true rfl⟩) ⟨fun a U g mk q => ⟨q.1, q.2.calling rfl rfl⟩, k_recv hK hI i_85.1 k_86 (ci := 4) rfl, fun U hU hW => ⟨rfl, kIn.of hI hK hE hS hU hW⟩⟩ rfl rfl hl.1 rfl (lv_room (Nat.le_of_ble_eq_true rfl)) dX11_ticks_41 ⟨Nat.le_of_ble_eq_true rfl, Nat.le_of_ble_eq_true rfl⟩) hS (fun q _ h => h) (fun q h => h) (fun r_90 u t H1 locs ht hvm w_89 hB hz1 hk1 hS => ?_)
        obtain ⟨f_88, hI, kc_91⟩ := hB
        rw [ht] at hI
        have k_92 : f_88 h0 = .inr (11, [.ref (gr g h0 0), .ref (gr g h0 1), .ref (gr g h0 2), .ref (gr g h0 3), .ref (gr g h0 4), .ref (gr g h0 5), .ref (gr g h0 6), .ref (gr g h0 7), .ref (gr g h0 8), .ref (gr g h0 9), .ref (gr g h0 10), .int x_16]) := Kp.at kc_91 i_h0 (by decide) k_15
        have k_93 : f_88 (gr g h0 3) = .inr (6, [.ref (gr g (gr g h0 3) 0), .ref (gr g (gr g h0 3) 1), .ref (gr g (gr g h0 3) 2), .ref (gr g (gr g h0 3) 3), .ref (gr g (gr g h0 3) 4), .int x_20, .int x_21, .long x_22, .int x_23, .int x_24]) := Kp.at kc_91 i_18 (by decide) k_19
        have kp_94 := Kp.call hk0 kc_91 (by decide)
        generalize H1 = H at hI hS ⊢
        refine W.widen (k := 0) (n := 0) (Nat.le_of_ble_eq_true rfl) (Nat.le_of_ble_eq_true rfl) ?_
        have w_89 : r_90.toInt = (-4 : Int32).toInt := w_89
        exact W.iret (v := r_90) hx hb hr (fun t ht hW => ⟨⟨r_90, (), rfl, trivial, ⟨f_88, k_ret ht hI, kp_94⟩⟩, hS.F ht⟩) hS.2.2 dX11_ticks_44
    · have c_14 := kn_le rfl (by decide : Int32.toInt 60 = 60) c_14
      exact J_11  _ _ _ hI hS  (lv_sub hl [0, 1] rfl)
theorem tw_619 : q_g (.selects RX1 yX1_takeBack yX1_takeBack) := ⟨(List.mem_append_right _ (List.mem_of_getElem? (i := 881) (by decide +kernel))), good_of_word (by decide +kernel)⟩
theorem tw_620 : q_g (.instanceMethod yX1_takeBack) := ⟨(List.mem_append_right _ (List.mem_of_getElem? (i := 880) (by decide +kernel))), good_of_word (by decide +kernel)⟩
theorem tw_621 : q_g (.methodLink RX11 231 yX1_takeBack) := ⟨(List.mem_append_right _ (List.mem_of_getElem? (i := 879) (by decide +kernel))), good_of_word (by decide +kernel)⟩
theorem tw_622 : q_g (.fieldLink RX11 230 "DeadlineShare$History" "size" "I") := ⟨(List.mem_append_right _ (List.mem_of_getElem? (i := 295) (by decide +kernel))), good_of_word (by decide +kernel)⟩
theorem tw_623 : q_g (.code yX11_undo cX11_undo 1 (some .int)) := ⟨(List.mem_append_right _ (List.mem_of_getElem? (i := 878) (by decide +kernel))), good_of_word (by decide +kernel)⟩
def ow_c_X11_undo : List Cond := [.fieldLink RX11 65 "DeadlineShare" "history" "LDeadlineShare$History;", .fieldLink RX11 230 "DeadlineShare$History" "size" "I", .fieldLink RX11 72 "DeadlineShare" "refusals" "LDeadlineShare$Refusals;", .fieldLink RX11 37 "DeadlineShare" "now" "LDeadlineShare$State;", .methodLink RX11 231 yX1_takeBack, .instanceMethod yX1_takeBack, .selects RX1 yX1_takeBack yX1_takeBack, .initialized RX1, .methodLink RX11 95 yX4_none, .instanceMethod yX4_none, .selects RX4 yX4_none yX4_none, .initialized RX4, .methodLink RX11 84 yX4_add, .instanceMethod yX4_add, .selects RX4 yX4_add yX4_add]
def wq_c_X11_undo : List Cond := .code yX11_undo cX11_undo 1 (some .int) :: (ow_c_X11_undo ++ (u_ws RX11 TX11 12 ++ (u_ws RX1 TX1 4 ++ (wq_c_X1_takeBack ++ (wq_c_X4_none ++ (wq_c_X4_add ++ ([] : List Cond)))))))
theorem tb_c_X11_undo : ∀ w ∈ wq_c_X11_undo, q_g w := by
  unfold wq_c_X11_undo ow_c_X11_undo
  exact q_cons tw_623 (q_app (q_cons tw_556 (q_cons tw_622 (q_cons tw_522 (q_cons tw_558 (q_cons tw_621 (q_cons tw_620 (q_cons tw_619 (q_cons tw_552 (q_cons tw_521 (q_cons tw_520 (q_cons tw_519 (q_cons tw_273 (q_cons tw_518 (q_cons tw_517 (q_cons tw_516 q_nil))))))))))))))) (q_app tu_X11 (q_app tu_X1 (q_app tb_c_X1_takeBack (q_app tb_c_X4_none (q_app tb_c_X4_add q_nil))))))
set_option maxHeartbeats 4000000 in
set_option maxRecDepth 100000 in
theorem c_X11_undo (l : Launch) (dC : Nat → ClassId) (dI : Nat → Nat → Nat) (g : kG) (A : Nat → Prop) (hG : kWf g) (f : Nat → va_E) (h0 : Nat) (i_h0 : ik g 11 h0) : Met l yX11_undo wq_c_X11_undo ({ frames := 5, cells := 0, slots := 0, locals := 126 } : Room) (va_Pc [.ref h0] (fun U => kIn dC dI g A f U)) (va_Qi (fun (r : Int32) (_ : Unit) => True) (fun (_ : Unit) t => ∃ f1 : Nat → va_E, Iv dC dI g A f1 t.heap ∧ Kp g [1, 4, 5, 6, 8, 10, 23, 24, 28] f f1) A) 0 0 A := by
  refine Met.ofW (cc := cX11_undo) (maxL := 1) (ret := (some .int)) (by decide) rfl ?_
  intro p e s m args below meth c s₁ B hml hv
  obtain ⟨rfl, hI, hK, hE⟩ := hv
  have hx := B.exec
  have hb := B.bytes
  have hr := B.returns
  have hts := atoms_spec (ws := wq_c_X11_undo) B.pre
  have hown : s.vm.findClass RX11 = some m.cls := findClass_of_methodNamed B.named
  have hlocks := B.notSynchronized
  have hS : va_S A s.heap s.heap [] := va_S.rf
  have hk0 : Kp g [1, 4, 5, 6, 8, 10, 23, 24, 28] f f := Kp.rf
  have hl := lv_entry ([.ref h0]) (n := 1) (Nat.le_of_ble_eq_true rfl)
  rw [lg_entry_eq]
  generalize (lg_sl ([.ref h0]) ++ List.replicate (1 - (lg_sl ([.ref h0])).length) Slot.unset).toArray = ls at hl ⊢
  have hl : lv_has ls 1 [(0, .ref h0)] := hl
  refine lv_aload_n hx hb dX11_undo_0 rfl (lv_at hl 0 rfl) ?_
  obtain ⟨x_2, k_1⟩ := op_11 hI i_h0
  refine k_get (ci := 11) (v := .ref (gr g h0 9)) (C := RX11) (T := TX11) (N := 12) hx hb hts (fun _ h0_ => List.mem_cons_of_mem _ (List.mem_append_right _ (List.mem_append_left _ h0_))) hown hK hI i_h0.1 k_1 rfl 9 (by decide) (hts (.fieldLink RX11 65 "DeadlineShare" "history" "LDeadlineShare$History;") (List.mem_cons_of_mem _ (List.mem_append_left _ (List.mem_of_getElem? (i := 0) rfl)))) (fun _ h9 => h9) rfl dX11_undo_1 ?_
  have i_4 := kw_11_9 hG i_h0
  obtain ⟨x_6, x_7, k_5⟩ := op_1 hI i_4
  refine k_get (ci := 1) (v := .int x_7) (C := RX1) (T := TX1) (N := 4) hx hb hts (fun _ h0_ => List.mem_cons_of_mem _ (List.mem_append_right _ (List.mem_append_right _ (List.mem_append_left _ h0_)))) hown hK hI i_4.1 k_5 rfl 3 (by decide) (hts (.fieldLink RX11 230 "DeadlineShare$History" "size" "I") (List.mem_cons_of_mem _ (List.mem_append_left _ (List.mem_of_getElem? (i := 1) rfl)))) (fun _ h9 => h9) rfl dX11_undo_4 ?_
  refine lv_if_ne (tgt := 20) hx hb dX11_undo_7 (by decide) (fun c_8 => ?_) (fun c_8 => ?_)
  · have c_8 := kn_eq rfl (by decide : Int32.toInt 0 = 0) c_8
    refine lv_aload_n hx hb dX11_undo_20 rfl (lv_at hl 0 rfl) ?_
    refine k_get (ci := 11) (v := .ref (gr g h0 10)) (C := RX11) (T := TX11) (N := 12) hx hb hts (fun _ h0_ => List.mem_cons_of_mem _ (List.mem_append_right _ (List.mem_append_left _ h0_))) hown hK hI i_h0.1 k_1 rfl 10 (by decide) (hts (.fieldLink RX11 72 "DeadlineShare" "refusals" "LDeadlineShare$Refusals;") (List.mem_cons_of_mem _ (List.mem_append_left _ (List.mem_of_getElem? (i := 2) rfl)))) (fun _ h9 => h9) rfl dX11_undo_21 ?_
    have i_10 := kw_11_10 hG i_h0
    refine lv_aload_n hx hb dX11_undo_24 rfl (lv_at hl 0 rfl) ?_
    refine k_get (ci := 11) (v := .ref (gr g h0 9)) (C := RX11) (T := TX11) (N := 12) hx hb hts (fun _ h0_ => List.mem_cons_of_mem _ (List.mem_append_right _ (List.mem_append_left _ h0_))) hown hK hI i_h0.1 k_1 rfl 9 (by decide) (hts (.fieldLink RX11 65 "DeadlineShare" "history" "LDeadlineShare$History;") (List.mem_cons_of_mem _ (List.mem_append_left _ (List.mem_of_getElem? (i := 0) rfl)))) (fun _ h9 => h9) rfl dX11_undo_25 ?_
    refine lv_aload_n hx hb dX11_undo_28 rfl (lv_at hl 0 rfl) ?_
    refine k_get (ci := 11) (v := .ref (gr g h0 3)) (C := RX11) (T := TX11) (N := 12) hx hb hts (fun _ h0_ => List.mem_cons_of_mem _ (List.mem_append_right _ (List.mem_append_left _ h0_))) hown hK hI i_h0.1 k_1 rfl 3 (by decide) (hts (.fieldLink RX11 37 "DeadlineShare" "now" "LDeadlineShare$State;") (List.mem_cons_of_mem _ (List.mem_append_left _ (List.mem_of_getElem? (i := 3) rfl)))) (fun _ h9 => h9) rfl dX11_undo_29 ?_
    have i_14 := kw_11_3 hG i_h0
    refine va_calli (va_runV (As := [.ref (gr g h0 3)]) (rest := [.ref (gr g h0 10)]) ⟨hx, hb, hml, hown, hts⟩ (c_X1_takeBack l dC dI g A hG f (gr g h0 9) (gr g h0 3) i_4 i_14) (cwV 1 hts (gi_V (fun w_ h0_ => ⟨List.mem_cons_of_mem _ (List.mem_append_right _ (List.mem_append_right _ (List.mem_append_right _ (List.mem_append_left _ h0_)))), (tb_c_X1_takeBack w_ h0_).2⟩) (List.mem_cons_of_mem _ (List.mem_append_left _ (List.mem_of_getElem? (i := 4) rfl))) (List.mem_cons_of_mem _ (List.mem_append_left _ (List.mem_of_getElem? (i := 5) rfl))) (List.mem_cons_of_mem _ (List.mem_append_left _ (List.mem_of_getElem? (i := 6) rfl))) (List.mem_cons_of_mem _ (List.mem_append_left _ (List.mem_of_getElem? (i := 7) rfl)))) rfl rfl rfl (by decide +kernel) ⟨Nat.le_of_ble_eq_true rfl, Nat.le_of_ble_eq_true rfl⟩) ⟨fun a U g mk q => ⟨q.1, q.2.calling rfl rfl⟩, k_recv hK hI i_4.1 k_5 (ci := 1) rfl, fun U hU hW => ⟨rfl, kIn.of hI hK hE hS hU hW⟩⟩ rfl rfl hl.1 rfl (lv_room (Nat.le_of_ble_eq_true rfl)) dX11_undo_32 ⟨Nat.le_of_ble_eq_true rfl, Nat.le_of_ble_eq_true rfl⟩) hS (fun q _ h => h) (fun q h => h) (fun r_17 u t H1 locs ht hvm w_16 hB hz1 hk1 hS => ?_)
    obtain ⟨f_15, hI, kc_18⟩ := hB
    rw [ht] at hI
    have k_19 : f_15 h0 = .inr (11, [.ref (gr g h0 0), .ref (gr g h0 1), .ref (gr g h0 2), .ref (gr g h0 3), .ref (gr g h0 4), .ref (gr g h0 5), .ref (gr g h0 6), .ref (gr g h0 7), .ref (gr g h0 8), .ref (gr g h0 9), .ref (gr g h0 10), .int x_2]) := Kp.at kc_18 i_h0 (by decide) k_1
    have kp_20 := Kp.call hk0 kc_18 (by decide)
    generalize H1 = H at hI hS ⊢
    refine W.widen (k := 0) (n := 0) (Nat.le_of_ble_eq_true rfl) (Nat.le_of_ble_eq_true rfl) ?_
    obtain ⟨x_22, k_21⟩ := op_4 hI i_10
    refine va_calli (va_runV (As := [.int r_17]) (rest := []) ⟨hx, hb, hml, hown, hts⟩ (c_X4_none l dC dI g A hG f_15 (gr g h0 10) r_17 i_10) (cwV 1 hts (gi_V (fun w_ h0_ => ⟨List.mem_cons_of_mem _ (List.mem_append_right _ (List.mem_append_right _ (List.mem_append_right _ (List.mem_append_right _ (List.mem_append_left _ h0_))))), (tb_c_X4_none w_ h0_).2⟩) (List.mem_cons_of_mem _ (List.mem_append_left _ (List.mem_of_getElem? (i := 8) rfl))) (List.mem_cons_of_mem _ (List.mem_append_left _ (List.mem_of_getElem? (i := 9) rfl))) (List.mem_cons_of_mem _ (List.mem_append_left _ (List.mem_of_getElem? (i := 10) rfl))) (List.mem_cons_of_mem _ (List.mem_append_left _ (List.mem_of_getElem? (i := 11) rfl)))) rfl rfl rfl (by decide +kernel) ⟨Nat.le_of_ble_eq_true rfl, Nat.le_of_ble_eq_true rfl⟩) ⟨fun a U g mk q => ⟨q.1, q.2.calling rfl rfl⟩, k_recv hK hI i_10.1 k_21 (ci := 4) rfl, fun U hU hW => ⟨rfl, kIn.of hI hK hE hS hU hW⟩⟩ rfl rfl hl.1 rfl (lv_room (Nat.le_of_ble_eq_true rfl)) dX11_undo_35 ⟨Nat.le_of_ble_eq_true rfl, Nat.le_of_ble_eq_true rfl⟩) hS (fun q _ h => h) (fun q h => h) (fun r_25 u t H1 locs ht hvm w_24 hB hz1 hk1 hS => ?_)
    obtain ⟨f_23, hI, kc_26⟩ := hB
    rw [ht] at hI
    have k_27 : f_23 h0 = .inr (11, [.ref (gr g h0 0), .ref (gr g h0 1), .ref (gr g h0 2), .ref (gr g h0 3), .ref (gr g h0 4), .ref (gr g h0 5), .ref (gr g h0 6), .ref (gr g h0 7), .ref (gr g h0 8), .ref (gr g h0 9), .ref (gr g h0 10), .int x_2]) := Kp.at kc_26 i_h0 (by decide) k_19
    have kp_28 := Kp.call kp_20 kc_26 (by decide)
    generalize H1 = H at hI hS ⊢
    refine W.widen (k := 0) (n := 0) (Nat.le_of_ble_eq_true rfl) (Nat.le_of_ble_eq_true rfl) ?_
    have w_24 : r_25.toInt = r_17.toInt := w_24
    exact W.iret (v := r_25) hx hb hr (fun t ht hW => ⟨⟨r_25, (), rfl, trivial, ⟨f_23, k_ret ht hI, kp_28⟩⟩, hS.F ht⟩) hS.2.2 dX11_undo_38
  · have c_8 := kc_eq rfl (by decide : Int32.toInt 0 = 0) c_8
    refine lv_aload_n hx hb dX11_undo_10 rfl (lv_at hl 0 rfl) ?_
    refine k_get (ci := 11) (v := .ref (gr g h0 10)) (C := RX11) (T := TX11) (N := 12) hx hb hts (fun _ h0_ => List.mem_cons_of_mem _ (List.mem_append_right _ (List.mem_append_left _ h0_))) hown hK hI i_h0.1 k_1 rfl 10 (by decide) (hts (.fieldLink RX11 72 "DeadlineShare" "refusals" "LDeadlineShare$Refusals;") (List.mem_cons_of_mem _ (List.mem_append_left _ (List.mem_of_getElem? (i := 2) rfl)))) (fun _ h9 => h9) rfl dX11_undo_11 ?_
    have i_30 := kw_11_10 hG i_h0
    refine lv_bipush (v := (-4)) hx hb dX11_undo_14 (by decide) ?_
    obtain ⟨x_32, k_31⟩ := op_4 hI i_30
    refine va_calli (va_runV (As := [.int (-4)]) (rest := []) ⟨hx, hb, hml, hown, hts⟩ (c_X4_add l dC dI g A hG f (gr g h0 10) (-4) i_30) (cwV 1 hts (gi_V (fun w_ h0_ => ⟨List.mem_cons_of_mem _ (List.mem_append_right _ (List.mem_append_right _ (List.mem_append_right _ (List.mem_append_right _ (List.mem_append_right _ (List.mem_append_left _ h0_)))))), (tb_c_X4_add w_ h0_).2⟩) (List.mem_cons_of_mem _ (List.mem_append_left _ (List.mem_of_getElem? (i := 12) rfl))) (List.mem_cons_of_mem _ (List.mem_append_left _ (List.mem_of_getElem? (i := 13) rfl))) (List.mem_cons_of_mem _ (List.mem_append_left _ (List.mem_of_getElem? (i := 14) rfl))) (List.mem_cons_of_mem _ (List.mem_append_left _ (List.mem_of_getElem? (i := 11) rfl)))) rfl rfl rfl (by decide +kernel) ⟨Nat.le_of_ble_eq_true rfl, Nat.le_of_ble_eq_true rfl⟩) ⟨fun a U g mk q => ⟨q.1, q.2.calling rfl rfl⟩, k_recv hK hI i_30.1 k_31 (ci := 4) rfl, fun U hU hW => ⟨rfl, kIn.of hI hK hE hS hU hW⟩⟩ rfl rfl hl.1 rfl (lv_room (Nat.le_of_ble_eq_true rfl)) dX11_undo_16 ⟨Nat.le_of_ble_eq_true rfl, Nat.le_of_ble_eq_true rfl⟩) hS (fun q _ h => h) (fun q h => h) (fun r_35 u t H1 locs ht hvm w_34 hB hz1 hk1 hS => ?_)
    obtain ⟨f_33, hI, kc_36⟩ := hB
    rw [ht] at hI
    have k_37 : f_33 h0 = .inr (11, [.ref (gr g h0 0), .ref (gr g h0 1), .ref (gr g h0 2), .ref (gr g h0 3), .ref (gr g h0 4), .ref (gr g h0 5), .ref (gr g h0 6), .ref (gr g h0 7), .ref (gr g h0 8), .ref (gr g h0 9), .ref (gr g h0 10), .int x_2]) := Kp.at kc_36 i_h0 (by decide) k_1
    have k_38 : f_33 (gr g h0 9) = .inr (1, [.ref (gr g (gr g h0 9) 0), .ref (gr g (gr g h0 9) 1), .int x_6, .int x_7]) := Kp.at kc_36 i_4 (by decide) k_5
    have kp_39 := Kp.call hk0 kc_36 (by decide)
    generalize H1 = H at hI hS ⊢
    refine W.widen (k := 0) (n := 0) (Nat.le_of_ble_eq_true rfl) (Nat.le_of_ble_eq_true rfl) ?_
    have w_34 : r_35.toInt = (-4 : Int32).toInt := w_34
    exact W.iret (v := r_35) hx hb hr (fun t ht hW => ⟨⟨r_35, (), rfl, trivial, ⟨f_33, k_ret ht hI, kp_39⟩⟩, hS.F ht⟩) hS.2.2 dX11_undo_19
theorem tw_624 : q_g (.code yX11_isImage cX11_isImage 1 (some .boolean)) := ⟨(List.mem_append_right _ (List.mem_of_getElem? (i := 889) (by decide +kernel))), good_of_word (by decide +kernel)⟩
def ow_c_X11_isImage : List Cond := []
def wq_c_X11_isImage : List Cond := .code yX11_isImage cX11_isImage 1 (some .boolean) :: (ow_c_X11_isImage ++ ([] : List Cond))
theorem tb_c_X11_isImage : ∀ w ∈ wq_c_X11_isImage, q_g w := by
  unfold wq_c_X11_isImage ow_c_X11_isImage
  exact q_cons tw_624 (q_app q_nil q_nil)
set_option maxHeartbeats 4000000 in
set_option maxRecDepth 100000 in
theorem c_X11_isImage (l : Launch) (dC : Nat → ClassId) (dI : Nat → Nat → Nat) (g : kG) (A : Nat → Prop) (hG : kWf g) (f : Nat → va_E) (p1 : Int32) : Met l yX11_isImage wq_c_X11_isImage ({ frames := 0, cells := 0, slots := 0, locals := 0 } : Room) (va_Pc [.int p1] (fun U => kIn dC dI g A f U)) (va_Qi (fun (r : Int32) (_ : Unit) => r.toInt = 0 ∨ (0 ≤ p1.toInt ∧ p1.toInt < 2)) (fun (_ : Unit) t => Iv dC dI g A f t.heap) A) 0 0 A := by
  refine Met.ofW (cc := cX11_isImage) (maxL := 1) (ret := (some .boolean)) (by decide) rfl ?_
  intro p e s m args below meth c s₁ B hml hv
  obtain ⟨rfl, hI, hK, hE⟩ := hv
  have hx := B.exec
  have hb := B.bytes
  have hr := B.returns
  have hts := atoms_spec (ws := wq_c_X11_isImage) B.pre
  have hown : s.vm.findClass RX11 = some m.cls := findClass_of_methodNamed B.named
  have hlocks := B.notSynchronized
  have hS : va_S A s.heap s.heap [] := va_S.rf
  have hl := lv_entry ([.int p1]) (n := 1) (Nat.le_of_ble_eq_true rfl)
  rw [lg_entry_eq]
  generalize (lg_sl ([.int p1]) ++ List.replicate (1 - (lg_sl ([.int p1])).length) Slot.unset).toArray = ls at hl ⊢
  have hl : lv_has ls 1 [(0, .int p1)] := hl
  refine lv_iload_n hx hb dX11_isImage_0 rfl (lv_at hl 0 rfl) ?_
  refine lv_if_lt (tgt := 13) hx hb dX11_isImage_1 (by decide) (fun c_1 => ?_) (fun c_1 => ?_)
  · have c_1 := kc_lt rfl (by decide : Int32.toInt 0 = 0) c_1
    refine lv_iconst (v := 0) hx hb dX11_isImage_13 (by decide) ?_
    have w_2 : (0 : Int32).toInt = 0 ∨ (0 ≤ p1.toInt ∧ p1.toInt < 2) := by rw [show Int32.toInt (0) = 0 from by decide]; omega
    exact W.zret (v := 0) hx hb hr rfl (fun t ht hW => ⟨⟨0, (), rfl, w_2, k_ret ht hI⟩, hS.F ht⟩) hS.2.2 dX11_isImage_14
  · have c_1 := kn_lt rfl (by decide : Int32.toInt 0 = 0) c_1
    refine lv_iload_n hx hb dX11_isImage_4 rfl (lv_at hl 0 rfl) ?_
    refine lv_iconst (v := 2) hx hb dX11_isImage_5 (by decide) ?_
    refine lv_icmp_ge (tgt := 13) hx hb dX11_isImage_6 (by decide) (fun c_3 => ?_) (fun c_3 => ?_)
    · have c_3 := kc_le (by decide : Int32.toInt 2 = 2) rfl c_3
      refine lv_iconst (v := 0) hx hb dX11_isImage_13 (by decide) ?_
      have w_4 : (0 : Int32).toInt = 0 ∨ (0 ≤ p1.toInt ∧ p1.toInt < 2) := by rw [show Int32.toInt (0) = 0 from by decide]; omega
      exact W.zret (v := 0) hx hb hr rfl (fun t ht hW => ⟨⟨0, (), rfl, w_4, k_ret ht hI⟩, hS.F ht⟩) hS.2.2 dX11_isImage_14
    · have c_3 := kn_le (by decide : Int32.toInt 2 = 2) rfl c_3
      refine lv_iconst (v := 1) hx hb dX11_isImage_9 (by decide) ?_
      refine lv_goto (tgt := 14) hx hb dX11_isImage_10 (by decide) ?_
      have w_5 : (1 : Int32).toInt = 0 ∨ (0 ≤ p1.toInt ∧ p1.toInt < 2) := by rw [show Int32.toInt (1) = 1 from by decide]; omega
      exact W.zret (v := 1) hx hb hr rfl (fun t ht hW => ⟨⟨1, (), rfl, w_5, k_ret ht hI⟩, hS.F ht⟩) hS.2.2 dX11_isImage_14
theorem tw_625 : q_g (.fieldLink RX11 58 "DeadlineShare" "imageKept" "[Z") := ⟨(List.mem_append_right _ (List.mem_of_getElem? (i := 328) (by decide +kernel))), good_of_word (by decide +kernel)⟩
theorem tw_626 : q_g (.methodLink RX11 238 yX6_copy) := ⟨(List.mem_append_right _ (List.mem_of_getElem? (i := 890) (by decide +kernel))), good_of_word (by decide +kernel)⟩
theorem tw_627 : q_g (.fieldLink RX11 54 "DeadlineShare" "images" "[LDeadlineShare$State;") := ⟨(List.mem_append_right _ (List.mem_of_getElem? (i := 327) (by decide +kernel))), good_of_word (by decide +kernel)⟩
theorem tw_628 : q_g (.static yX11_isImage) := ⟨(List.mem_append_right _ (List.mem_of_getElem? (i := 888) (by decide +kernel))), good_of_word (by decide +kernel)⟩
theorem tw_629 : q_g (.methodLink RX11 235 yX11_isImage) := ⟨(List.mem_append_right _ (List.mem_of_getElem? (i := 887) (by decide +kernel))), good_of_word (by decide +kernel)⟩
theorem tw_630 : q_g (.code yX11_image cX11_image 2 (some .int)) := ⟨(List.mem_append_right _ (List.mem_of_getElem? (i := 886) (by decide +kernel))), good_of_word (by decide +kernel)⟩
def ow_c_X11_image : List Cond := [.methodLink RX11 235 yX11_isImage, .static yX11_isImage, .initialized RX11, .fieldLink RX11 54 "DeadlineShare" "images" "[LDeadlineShare$State;", .fieldLink RX11 37 "DeadlineShare" "now" "LDeadlineShare$State;", .methodLink RX11 238 yX6_copy, .instanceMethod yX6_copy, .selects RX6 yX6_copy yX6_copy, .initialized RX6, .fieldLink RX11 58 "DeadlineShare" "imageKept" "[Z", .fieldLink RX11 72 "DeadlineShare" "refusals" "LDeadlineShare$Refusals;", .fieldLink RX11 223 "DeadlineShare$State" "time" "I", .methodLink RX11 95 yX4_none, .instanceMethod yX4_none, .selects RX4 yX4_none yX4_none, .initialized RX4, .methodLink RX11 84 yX4_add, .instanceMethod yX4_add, .selects RX4 yX4_add yX4_add]
def wq_c_X11_image : List Cond := .code yX11_image cX11_image 2 (some .int) :: (ow_c_X11_image ++ (wq_c_X11_isImage ++ (u_ws RX11 TX11 12 ++ (wq_c_X6_copy ++ (u_ws RX6 TX6 10 ++ (wq_c_X4_none ++ (wq_c_X4_add ++ ([] : List Cond))))))))
theorem tb_c_X11_image : ∀ w ∈ wq_c_X11_image, q_g w := by
  unfold wq_c_X11_image ow_c_X11_image
  exact q_cons tw_630 (q_app (q_cons tw_629 (q_cons tw_628 (q_cons tw_56 (q_cons tw_627 (q_cons tw_558 (q_cons tw_626 (q_cons tw_160 (q_cons tw_159 (q_cons tw_47 (q_cons tw_625 (q_cons tw_522 (q_cons tw_617 (q_cons tw_521 (q_cons tw_520 (q_cons tw_519 (q_cons tw_273 (q_cons tw_518 (q_cons tw_517 (q_cons tw_516 q_nil))))))))))))))))))) (q_app tb_c_X11_isImage (q_app tu_X11 (q_app tb_c_X6_copy (q_app tu_X6 (q_app tb_c_X4_none (q_app tb_c_X4_add q_nil)))))))
set_option maxHeartbeats 4000000 in
set_option maxRecDepth 100000 in
theorem c_X11_image (l : Launch) (dC : Nat → ClassId) (dI : Nat → Nat → Nat) (g : kG) (A : Nat → Prop) (hG : kWf g) (f : Nat → va_E) (h0 : Nat) (p1 : Int32) (i_h0 : ik g 11 h0) : Met l yX11_image wq_c_X11_image ({ frames := 4, cells := 0, slots := 0, locals := 104 } : Room) (va_Pc [.ref h0, .int p1] (fun U => kIn dC dI g A f U)) (va_Qi (fun (r : Int32) (_ : Unit) => True) (fun (_ : Unit) t => ∃ f1 : Nat → va_E, Iv dC dI g A f1 t.heap ∧ Kp g [4, 5, 6, 8, 10, 23, 24, 26, 28] f f1) A) 0 0 A := by
  refine Met.ofW (cc := cX11_image) (maxL := 2) (ret := (some .int)) (by decide) rfl ?_
  intro p e s m args below meth c s₁ B hml hv
  obtain ⟨rfl, hI, hK, hE⟩ := hv
  have hx := B.exec
  have hb := B.bytes
  have hr := B.returns
  have hts := atoms_spec (ws := wq_c_X11_image) B.pre
  have hown : s.vm.findClass RX11 = some m.cls := findClass_of_methodNamed B.named
  have hlocks := B.notSynchronized
  have hS : va_S A s.heap s.heap [] := va_S.rf
  have hk0 : Kp g [4, 5, 6, 8, 10, 23, 24, 26, 28] f f := Kp.rf
  have hl := lv_entry ([.ref h0, .int p1]) (n := 2) (Nat.le_of_ble_eq_true rfl)
  rw [lg_entry_eq]
  generalize (lg_sl ([.ref h0, .int p1]) ++ List.replicate (2 - (lg_sl ([.ref h0, .int p1])).length) Slot.unset).toArray = ls at hl ⊢
  have hl : lv_has ls 2 [(0, .ref h0), (1, .int p1)] := hl
  refine lv_iload_n hx hb dX11_image_0 rfl (lv_at hl 1 rfl) ?_
  refine va_calli (va_runS (As := [.int p1]) (rest := []) ⟨hx, hb, hml, hown, hts⟩ (c_X11_isImage l dC dI g A hG f p1) (va_cwS 1 hts (gi_S (fun w_ h0_ => ⟨List.mem_cons_of_mem _ (List.mem_append_right _ (List.mem_append_left _ h0_)), (tb_c_X11_isImage w_ h0_).2⟩) (List.mem_cons_of_mem _ (List.mem_append_left _ (List.mem_of_getElem? (i := 0) rfl))) (List.mem_cons_of_mem _ (List.mem_append_left _ (List.mem_of_getElem? (i := 1) rfl))) (List.mem_cons_of_mem _ (List.mem_append_left _ (List.mem_of_getElem? (i := 2) rfl)))) rfl rfl rfl (by decide +kernel) ⟨Nat.le_of_ble_eq_true rfl, Nat.le_of_ble_eq_true rfl⟩) ⟨fun a U g mk q => ⟨q.1, q.2.calling rfl rfl⟩, fun U hU hW => ⟨rfl, kIn.of hI hK hE hS hU hW⟩⟩ rfl rfl hl.1 rfl (lv_room (Nat.le_of_ble_eq_true rfl)) dX11_image_1 ⟨Nat.le_of_ble_eq_true rfl, Nat.le_of_ble_eq_true rfl⟩) hS (fun q _ h => h) (fun q h => h) (fun r_2 u t H1 locs ht hvm w_1 hB hz1 hk1 hS => ?_)
  have hI : Iv dC dI g A f t.heap := hB
  rw [ht] at hI
  generalize H1 = H at hI hS ⊢
  refine W.widen (k := 0) (n := 0) (Nat.le_of_ble_eq_true rfl) (Nat.le_of_ble_eq_true rfl) ?_
  have w_1 : r_2.toInt = 0 ∨ (0 ≤ p1.toInt ∧ p1.toInt < 2) := w_1
  refine lv_if_ne (tgt := 16) hx hb dX11_image_4 (by decide) (fun c_3 => ?_) (fun c_3 => ?_)
  · have c_3 := kn_eq rfl (by decide : Int32.toInt 0 = 0) c_3
    refine lv_aload_n hx hb dX11_image_16 rfl (lv_at hl 0 rfl) ?_
    obtain ⟨x_5, k_4⟩ := op_11 hI i_h0
    refine k_get (ci := 11) (v := .ref (gr g h0 7)) (C := RX11) (T := TX11) (N := 12) hx hb hts (fun _ h0_ => List.mem_cons_of_mem _ (List.mem_append_right _ (List.mem_append_right _ (List.mem_append_left _ h0_)))) hown hK hI i_h0.1 k_4 rfl 7 (by decide) (hts (.fieldLink RX11 54 "DeadlineShare" "images" "[LDeadlineShare$State;") (List.mem_cons_of_mem _ (List.mem_append_left _ (List.mem_of_getElem? (i := 3) rfl)))) (fun _ h9 => h9) rfl dX11_image_17 ?_
    have i_7 := kw_11_7 hG i_h0
    refine lv_iload_n hx hb dX11_image_20 rfl (lv_at hl 1 rfl) ?_
    obtain ⟨q_9, k_8, b_10⟩ := op_21 hI i_7
    refine k_aald hx hb hK hI i_7.1 5 k_8 rfl (vp_in_iff.mpr (by omega)) b_10 (fun _ hj => kw_21 hG i_7 hj) dX11_image_21 (fun a_11 i_12 => ?_)
    refine lv_aload_n hx hb dX11_image_22 rfl (lv_at hl 0 rfl) ?_
    refine k_get (ci := 11) (v := .ref (gr g h0 3)) (C := RX11) (T := TX11) (N := 12) hx hb hts (fun _ h0_ => List.mem_cons_of_mem _ (List.mem_append_right _ (List.mem_append_right _ (List.mem_append_left _ h0_)))) hown hK hI i_h0.1 k_4 rfl 3 (by decide) (hts (.fieldLink RX11 37 "DeadlineShare" "now" "LDeadlineShare$State;") (List.mem_cons_of_mem _ (List.mem_append_left _ (List.mem_of_getElem? (i := 4) rfl)))) (fun _ h9 => h9) rfl dX11_image_23 ?_
    have i_14 := kw_11_3 hG i_h0
    obtain ⟨x_16, x_17, x_18, x_19, x_20, k_15, b_21, b_22⟩ := op_6 hI i_12
    refine va_callv (va_runV (As := [.ref (gr g h0 3)]) (rest := []) ⟨hx, hb, hml, hown, hts⟩ (c_X6_copy l dC dI g A hG f a_11 (gr g h0 3) i_12 i_14) (cwV 1 hts (gi_V (fun w_ h0_ => ⟨List.mem_cons_of_mem _ (List.mem_append_right _ (List.mem_append_right _ (List.mem_append_right _ (List.mem_append_left _ h0_)))), (tb_c_X6_copy w_ h0_).2⟩) (List.mem_cons_of_mem _ (List.mem_append_left _ (List.mem_of_getElem? (i := 5) rfl))) (List.mem_cons_of_mem _ (List.mem_append_left _ (List.mem_of_getElem? (i := 6) rfl))) (List.mem_cons_of_mem _ (List.mem_append_left _ (List.mem_of_getElem? (i := 7) rfl))) (List.mem_cons_of_mem _ (List.mem_append_left _ (List.mem_of_getElem? (i := 8) rfl)))) rfl rfl rfl (by decide +kernel) ⟨Nat.le_of_ble_eq_true rfl, Nat.le_of_ble_eq_true rfl⟩) ⟨fun a U g mk q => ⟨q.1, q.2.calling rfl rfl⟩, k_recv hK hI i_12.1 k_15 (ci := 6) rfl, fun U hU hW => ⟨rfl, kIn.of hI hK hE hS hU hW⟩⟩ rfl rfl hl.1 rfl (lv_room (Nat.le_of_ble_eq_true rfl)) dX11_image_26 ⟨Nat.le_of_ble_eq_true rfl, Nat.le_of_ble_eq_true rfl⟩) hS (fun q _ h => h) (fun q h => h) (fun u t H1 locs ht hvm _ hB hz1 hk1 hS => ?_)
    obtain ⟨f_23, hI, kc_25⟩ := hB
    rw [ht] at hI
    have k_26 : f_23 h0 = .inr (11, [.ref (gr g h0 0), .ref (gr g h0 1), .ref (gr g h0 2), .ref (gr g h0 3), .ref (gr g h0 4), .ref (gr g h0 5), .ref (gr g h0 6), .ref (gr g h0 7), .ref (gr g h0 8), .ref (gr g h0 9), .ref (gr g h0 10), .int x_5]) := Kp.at kc_25 i_h0 (by decide) k_4
    have k_27 : f_23 (gr g h0 7) = .inl (gc g 5, 2, .inr (.inr (.inr (.inr q_9)))) := Kp.at kc_25 i_7 (by decide) k_8
    have kp_28 := Kp.call hk0 kc_25 (by decide)
    generalize H1 = H at hI hS ⊢
    refine W.widen (k := 0) (n := 0) (Nat.le_of_ble_eq_true rfl) (Nat.le_of_ble_eq_true rfl) ?_
    refine lv_aload_n hx hb dX11_image_29 rfl (lv_at hl 0 rfl) ?_
    refine k_get (ci := 11) (v := .ref (gr g h0 8)) (C := RX11) (T := TX11) (N := 12) hx hb hts (fun _ h0_ => List.mem_cons_of_mem _ (List.mem_append_right _ (List.mem_append_right _ (List.mem_append_left _ h0_)))) hown hK hI i_h0.1 k_26 rfl 8 (by decide) (hts (.fieldLink RX11 58 "DeadlineShare" "imageKept" "[Z") (List.mem_cons_of_mem _ (List.mem_append_left _ (List.mem_of_getElem? (i := 9) rfl)))) (fun _ h9 => h9) rfl dX11_image_30 ?_
    have i_30 := kw_11_8 hG i_h0
    refine lv_iload_n hx hb dX11_image_33 rfl (lv_at hl 1 rfl) ?_
    refine lv_iconst (v := 1) hx hb dX11_image_34 (by decide) ?_
    obtain ⟨q_32, k_31⟩ := op_26 hI i_30
    refine k_zast hx hb hK hI hS i_30.1 3 k_31 rfl (vp_in_iff.mpr (by omega)) (cl_26 i_30) dX11_image_35 (fun f_33 H locs e_34 hI hS => ?_)
    generalize eq_35 : upd q_32 (Int32.toNatClampNeg p1) (vp_nar .boolean 1) = q_35 at e_34
    have k_37 : f_33 h0 = .inr (11, [.ref (gr g h0 0), .ref (gr g h0 1), .ref (gr g h0 2), .ref (gr g h0 3), .ref (gr g h0 4), .ref (gr g h0 5), .ref (gr g h0 6), .ref (gr g h0 7), .ref (gr g h0 8), .ref (gr g h0 9), .ref (gr g h0 10), .int x_5]) := by rw [e_34, va_up_ne _ _ (ik_ne i_h0 i_30 (by decide))]; exact k_26
    have k_38 : f_33 (gr g h0 7) = .inl (gc g 5, 2, .inr (.inr (.inr (.inr q_9)))) := by rw [e_34, va_up_ne _ _ (ik_ne i_7 i_30 (by decide))]; exact k_27
    have k_39 : f_33 (gr g h0 8) = .inl (gc g 3, 2, .inl q_35) := by rw [e_34]; exact va_up_self _ _ _
    have kp_36 := Kp.put kp_28 i_30 (by decide) e_34
    refine lv_aload_n hx hb dX11_image_36 rfl (lv_at hl 0 rfl) ?_
    refine k_get (ci := 11) (v := .ref (gr g h0 10)) (C := RX11) (T := TX11) (N := 12) hx hb hts (fun _ h0_ => List.mem_cons_of_mem _ (List.mem_append_right _ (List.mem_append_right _ (List.mem_append_left _ h0_)))) hown hK hI i_h0.1 k_37 rfl 10 (by decide) (hts (.fieldLink RX11 72 "DeadlineShare" "refusals" "LDeadlineShare$Refusals;") (List.mem_cons_of_mem _ (List.mem_append_left _ (List.mem_of_getElem? (i := 10) rfl)))) (fun _ h9 => h9) rfl dX11_image_37 ?_
    have i_41 := kw_11_10 hG i_h0
    refine lv_aload_n hx hb dX11_image_40 rfl (lv_at hl 0 rfl) ?_
    refine k_get (ci := 11) (v := .ref (gr g h0 3)) (C := RX11) (T := TX11) (N := 12) hx hb hts (fun _ h0_ => List.mem_cons_of_mem _ (List.mem_append_right _ (List.mem_append_right _ (List.mem_append_left _ h0_)))) hown hK hI i_h0.1 k_37 rfl 3 (by decide) (hts (.fieldLink RX11 37 "DeadlineShare" "now" "LDeadlineShare$State;") (List.mem_cons_of_mem _ (List.mem_append_left _ (List.mem_of_getElem? (i := 4) rfl)))) (fun _ h9 => h9) rfl dX11_image_41 ?_
    obtain ⟨x_45, x_46, x_47, x_48, x_49, k_44, b_50, b_51⟩ := op_6 hI i_14
    refine k_get (ci := 6) (v := .int x_46) (C := RX6) (T := TX6) (N := 10) hx hb hts (fun _ h0_ => List.mem_cons_of_mem _ (List.mem_append_right _ (List.mem_append_right _ (List.mem_append_right _ (List.mem_append_right _ (List.mem_append_left _ h0_)))))) hown hK hI i_14.1 k_44 rfl 6 (by decide) (hts (.fieldLink RX11 223 "DeadlineShare$State" "time" "I") (List.mem_cons_of_mem _ (List.mem_append_left _ (List.mem_of_getElem? (i := 11) rfl)))) (fun _ h9 => h9) rfl dX11_image_44 ?_
    obtain ⟨x_53, k_52⟩ := op_4 hI i_41
    refine va_calli (va_runV (As := [.int x_46]) (rest := []) ⟨hx, hb, hml, hown, hts⟩ (c_X4_none l dC dI g A hG f_33 (gr g h0 10) x_46 i_41) (cwV 1 hts (gi_V (fun w_ h0_ => ⟨List.mem_cons_of_mem _ (List.mem_append_right _ (List.mem_append_right _ (List.mem_append_right _ (List.mem_append_right _ (List.mem_append_right _ (List.mem_append_left _ h0_)))))), (tb_c_X4_none w_ h0_).2⟩) (List.mem_cons_of_mem _ (List.mem_append_left _ (List.mem_of_getElem? (i := 12) rfl))) (List.mem_cons_of_mem _ (List.mem_append_left _ (List.mem_of_getElem? (i := 13) rfl))) (List.mem_cons_of_mem _ (List.mem_append_left _ (List.mem_of_getElem? (i := 14) rfl))) (List.mem_cons_of_mem _ (List.mem_append_left _ (List.mem_of_getElem? (i := 15) rfl)))) rfl rfl rfl (by decide +kernel) ⟨Nat.le_of_ble_eq_true rfl, Nat.le_of_ble_eq_true rfl⟩) ⟨fun a U g mk q => ⟨q.1, q.2.calling rfl rfl⟩, k_recv hK hI i_41.1 k_52 (ci := 4) rfl, fun U hU hW => ⟨rfl, kIn.of hI hK hE hS hU hW⟩⟩ rfl rfl hl.1 rfl (lv_room (Nat.le_of_ble_eq_true rfl)) dX11_image_47 ⟨Nat.le_of_ble_eq_true rfl, Nat.le_of_ble_eq_true rfl⟩) hS (fun q _ h => h) (fun q h => h) (fun r_56 u t H1 locs ht hvm w_55 hB hz1 hk1 hS => ?_)
    obtain ⟨f_54, hI, kc_57⟩ := hB
    rw [ht] at hI
    have k_58 : f_54 h0 = .inr (11, [.ref (gr g h0 0), .ref (gr g h0 1), .ref (gr g h0 2), .ref (gr g h0 3), .ref (gr g h0 4), .ref (gr g h0 5), .ref (gr g h0 6), .ref (gr g h0 7), .ref (gr g h0 8), .ref (gr g h0 9), .ref (gr g h0 10), .int x_5]) := Kp.at kc_57 i_h0 (by decide) k_37
    have k_59 : f_54 (gr g h0 7) = .inl (gc g 5, 2, .inr (.inr (.inr (.inr q_9)))) := Kp.at kc_57 i_7 (by decide) k_38
    have k_60 : f_54 (gr g h0 8) = .inl (gc g 3, 2, .inl q_35) := Kp.at kc_57 i_30 (by decide) k_39
    have k_61 : f_54 (gr g h0 3) = .inr (6, [.ref (gr g (gr g h0 3) 0), .ref (gr g (gr g h0 3) 1), .ref (gr g (gr g h0 3) 2), .ref (gr g (gr g h0 3) 3), .ref (gr g (gr g h0 3) 4), .int x_45, .int x_46, .long x_47, .int x_48, .int x_49]) := Kp.at kc_57 i_14 (by decide) k_44
    have kp_62 := Kp.call kp_36 kc_57 (by decide)
    generalize H1 = H at hI hS ⊢
    refine W.widen (k := 0) (n := 0) (Nat.le_of_ble_eq_true rfl) (Nat.le_of_ble_eq_true rfl) ?_
    have w_55 : r_56.toInt = x_46.toInt := w_55
    exact W.iret (v := r_56) hx hb hr (fun t ht hW => ⟨⟨r_56, (), rfl, trivial, ⟨f_54, k_ret ht hI, kp_62⟩⟩, hS.F ht⟩) hS.2.2 dX11_image_50
  · have c_3 := kc_eq rfl (by decide : Int32.toInt 0 = 0) c_3
    refine lv_aload_n hx hb dX11_image_7 rfl (lv_at hl 0 rfl) ?_
    obtain ⟨x_64, k_63⟩ := op_11 hI i_h0
    refine k_get (ci := 11) (v := .ref (gr g h0 10)) (C := RX11) (T := TX11) (N := 12) hx hb hts (fun _ h0_ => List.mem_cons_of_mem _ (List.mem_append_right _ (List.mem_append_right _ (List.mem_append_left _ h0_)))) hown hK hI i_h0.1 k_63 rfl 10 (by decide) (hts (.fieldLink RX11 72 "DeadlineShare" "refusals" "LDeadlineShare$Refusals;") (List.mem_cons_of_mem _ (List.mem_append_left _ (List.mem_of_getElem? (i := 10) rfl)))) (fun _ h9 => h9) rfl dX11_image_8 ?_
    have i_66 := kw_11_10 hG i_h0
    refine lv_iconst (v := (-1)) hx hb dX11_image_11 (by decide) ?_
    obtain ⟨x_68, k_67⟩ := op_4 hI i_66
    refine va_calli (va_runV (As := [.int (-1)]) (rest := []) ⟨hx, hb, hml, hown, hts⟩ (c_X4_add l dC dI g A hG f (gr g h0 10) (-1) i_66) (cwV 1 hts (gi_V (fun w_ h0_ => ⟨List.mem_cons_of_mem _ (List.mem_append_right _ (List.mem_append_right _ (List.mem_append_right _ (List.mem_append_right _ (List.mem_append_right _ (List.mem_append_right _ (List.mem_append_left _ h0_))))))), (tb_c_X4_add w_ h0_).2⟩) (List.mem_cons_of_mem _ (List.mem_append_left _ (List.mem_of_getElem? (i := 16) rfl))) (List.mem_cons_of_mem _ (List.mem_append_left _ (List.mem_of_getElem? (i := 17) rfl))) (List.mem_cons_of_mem _ (List.mem_append_left _ (List.mem_of_getElem? (i := 18) rfl))) (List.mem_cons_of_mem _ (List.mem_append_left _ (List.mem_of_getElem? (i := 15) rfl)))) rfl rfl rfl (by decide +kernel) ⟨Nat.le_of_ble_eq_true rfl, Nat.le_of_ble_eq_true rfl⟩) ⟨fun a U g mk q => ⟨q.1, q.2.calling rfl rfl⟩, k_recv hK hI i_66.1 k_67 (ci := 4) rfl, fun U hU hW => ⟨rfl, kIn.of hI hK hE hS hU hW⟩⟩ rfl rfl hl.1 rfl (lv_room (Nat.le_of_ble_eq_true rfl)) dX11_image_12 ⟨Nat.le_of_ble_eq_true rfl, Nat.le_of_ble_eq_true rfl⟩) hS (fun q _ h => h) (fun q h => h) (fun r_71 u t H1 locs ht hvm w_70 hB hz1 hk1 hS => ?_)
    obtain ⟨f_69, hI, kc_72⟩ := hB
    rw [ht] at hI
    have k_73 : f_69 h0 = .inr (11, [.ref (gr g h0 0), .ref (gr g h0 1), .ref (gr g h0 2), .ref (gr g h0 3), .ref (gr g h0 4), .ref (gr g h0 5), .ref (gr g h0 6), .ref (gr g h0 7), .ref (gr g h0 8), .ref (gr g h0 9), .ref (gr g h0 10), .int x_64]) := Kp.at kc_72 i_h0 (by decide) k_63
    have kp_74 := Kp.call hk0 kc_72 (by decide)
    generalize H1 = H at hI hS ⊢
    refine W.widen (k := 0) (n := 0) (Nat.le_of_ble_eq_true rfl) (Nat.le_of_ble_eq_true rfl) ?_
    have w_70 : r_71.toInt = (-1 : Int32).toInt := w_70
    exact W.iret (v := r_71) hx hb hr (fun t ht hW => ⟨⟨r_71, (), rfl, trivial, ⟨f_69, k_ret ht hI, kp_74⟩⟩, hS.F ht⟩) hS.2.2 dX11_image_15
theorem tw_631 : q_g (.code yX11_back cX11_back 2 (some .int)) := ⟨(List.mem_append_right _ (List.mem_of_getElem? (i := 894) (by decide +kernel))), good_of_word (by decide +kernel)⟩
def ow_c_X11_back : List Cond := [.methodLink RX11 235 yX11_isImage, .static yX11_isImage, .initialized RX11, .fieldLink RX11 58 "DeadlineShare" "imageKept" "[Z", .fieldLink RX11 37 "DeadlineShare" "now" "LDeadlineShare$State;", .fieldLink RX11 54 "DeadlineShare" "images" "[LDeadlineShare$State;", .methodLink RX11 238 yX6_copy, .instanceMethod yX6_copy, .selects RX6 yX6_copy yX6_copy, .initialized RX6, .fieldLink RX11 65 "DeadlineShare" "history" "LDeadlineShare$History;", .fieldLink RX11 230 "DeadlineShare$History" "size" "I", .fieldLink RX11 72 "DeadlineShare" "refusals" "LDeadlineShare$Refusals;", .fieldLink RX11 223 "DeadlineShare$State" "time" "I", .methodLink RX11 95 yX4_none, .instanceMethod yX4_none, .selects RX4 yX4_none yX4_none, .initialized RX4, .methodLink RX11 84 yX4_add, .instanceMethod yX4_add, .selects RX4 yX4_add yX4_add]
def wq_c_X11_back : List Cond := .code yX11_back cX11_back 2 (some .int) :: (ow_c_X11_back ++ (wq_c_X11_isImage ++ (u_ws RX11 TX11 12 ++ (wq_c_X6_copy ++ (u_ws RX1 TX1 4 ++ (u_ws RX6 TX6 10 ++ (wq_c_X4_none ++ (wq_c_X4_add ++ ([] : List Cond)))))))))
theorem tb_c_X11_back : ∀ w ∈ wq_c_X11_back, q_g w := by
  unfold wq_c_X11_back ow_c_X11_back
  exact q_cons tw_631 (q_app (q_cons tw_629 (q_cons tw_628 (q_cons tw_56 (q_cons tw_625 (q_cons tw_558 (q_cons tw_627 (q_cons tw_626 (q_cons tw_160 (q_cons tw_159 (q_cons tw_47 (q_cons tw_556 (q_cons tw_622 (q_cons tw_522 (q_cons tw_617 (q_cons tw_521 (q_cons tw_520 (q_cons tw_519 (q_cons tw_273 (q_cons tw_518 (q_cons tw_517 (q_cons tw_516 q_nil))))))))))))))))))))) (q_app tb_c_X11_isImage (q_app tu_X11 (q_app tb_c_X6_copy (q_app tu_X1 (q_app tu_X6 (q_app tb_c_X4_none (q_app tb_c_X4_add q_nil))))))))
set_option maxHeartbeats 4000000 in
set_option maxRecDepth 100000 in
theorem c_X11_back (l : Launch) (dC : Nat → ClassId) (dI : Nat → Nat → Nat) (g : kG) (A : Nat → Prop) (hG : kWf g) (f : Nat → va_E) (h0 : Nat) (p1 : Int32) (i_h0 : ik g 11 h0) : Met l yX11_back wq_c_X11_back ({ frames := 4, cells := 0, slots := 0, locals := 104 } : Room) (va_Pc [.ref h0, .int p1] (fun U => kIn dC dI g A f U)) (va_Qi (fun (r : Int32) (_ : Unit) => True) (fun (_ : Unit) t => ∃ f1 : Nat → va_E, Iv dC dI g A f1 t.heap ∧ Kp g [1, 4, 5, 6, 8, 10, 23, 24, 28] f f1) A) 0 0 A := by
  refine Met.ofW (cc := cX11_back) (maxL := 2) (ret := (some .int)) (by decide) rfl ?_
  intro p e s m args below meth c s₁ B hml hv
  obtain ⟨rfl, hI, hK, hE⟩ := hv
  have hx := B.exec
  have hb := B.bytes
  have hr := B.returns
  have hts := atoms_spec (ws := wq_c_X11_back) B.pre
  have hown : s.vm.findClass RX11 = some m.cls := findClass_of_methodNamed B.named
  have hlocks := B.notSynchronized
  have hS : va_S A s.heap s.heap [] := va_S.rf
  have hk0 : Kp g [1, 4, 5, 6, 8, 10, 23, 24, 28] f f := Kp.rf
  have hl := lv_entry ([.ref h0, .int p1]) (n := 2) (Nat.le_of_ble_eq_true rfl)
  rw [lg_entry_eq]
  generalize (lg_sl ([.ref h0, .int p1]) ++ List.replicate (2 - (lg_sl ([.ref h0, .int p1])).length) Slot.unset).toArray = ls at hl ⊢
  have hl : lv_has ls 2 [(0, .ref h0), (1, .int p1)] := hl
  refine lv_iload_n hx hb dX11_back_0 rfl (lv_at hl 1 rfl) ?_
  refine va_calli (va_runS (As := [.int p1]) (rest := []) ⟨hx, hb, hml, hown, hts⟩ (c_X11_isImage l dC dI g A hG f p1) (va_cwS 1 hts (gi_S (fun w_ h0_ => ⟨List.mem_cons_of_mem _ (List.mem_append_right _ (List.mem_append_left _ h0_)), (tb_c_X11_isImage w_ h0_).2⟩) (List.mem_cons_of_mem _ (List.mem_append_left _ (List.mem_of_getElem? (i := 0) rfl))) (List.mem_cons_of_mem _ (List.mem_append_left _ (List.mem_of_getElem? (i := 1) rfl))) (List.mem_cons_of_mem _ (List.mem_append_left _ (List.mem_of_getElem? (i := 2) rfl)))) rfl rfl rfl (by decide +kernel) ⟨Nat.le_of_ble_eq_true rfl, Nat.le_of_ble_eq_true rfl⟩) ⟨fun a U g mk q => ⟨q.1, q.2.calling rfl rfl⟩, fun U hU hW => ⟨rfl, kIn.of hI hK hE hS hU hW⟩⟩ rfl rfl hl.1 rfl (lv_room (Nat.le_of_ble_eq_true rfl)) dX11_back_1 ⟨Nat.le_of_ble_eq_true rfl, Nat.le_of_ble_eq_true rfl⟩) hS (fun q _ h => h) (fun q h => h) (fun r_2 u t H1 locs ht hvm w_1 hB hz1 hk1 hS => ?_)
  have hI : Iv dC dI g A f t.heap := hB
  rw [ht] at hI
  generalize H1 = H at hI hS ⊢
  refine W.widen (k := 0) (n := 0) (Nat.le_of_ble_eq_true rfl) (Nat.le_of_ble_eq_true rfl) ?_
  have w_1 : r_2.toInt = 0 ∨ (0 ≤ p1.toInt ∧ p1.toInt < 2) := w_1
  refine lv_if_ne (tgt := 16) hx hb dX11_back_4 (by decide) (fun c_3 => ?_) (fun c_3 => ?_)
  · have c_3 := kn_eq rfl (by decide : Int32.toInt 0 = 0) c_3
    refine lv_aload_n hx hb dX11_back_16 rfl (lv_at hl 0 rfl) ?_
    obtain ⟨x_5, k_4⟩ := op_11 hI i_h0
    refine k_get (ci := 11) (v := .ref (gr g h0 8)) (C := RX11) (T := TX11) (N := 12) hx hb hts (fun _ h0_ => List.mem_cons_of_mem _ (List.mem_append_right _ (List.mem_append_right _ (List.mem_append_left _ h0_)))) hown hK hI i_h0.1 k_4 rfl 8 (by decide) (hts (.fieldLink RX11 58 "DeadlineShare" "imageKept" "[Z") (List.mem_cons_of_mem _ (List.mem_append_left _ (List.mem_of_getElem? (i := 3) rfl)))) (fun _ h9 => h9) rfl dX11_back_17 ?_
    have i_7 := kw_11_8 hG i_h0
    refine lv_iload_n hx hb dX11_back_20 rfl (lv_at hl 1 rfl) ?_
    obtain ⟨q_9, k_8⟩ := op_26 hI i_7
    refine k_zald hx hb hK hI i_7.1 3 k_8 rfl (vp_in_iff.mpr (by omega)) dX11_back_21 ?_
    refine lv_topi (fun v_10 ev_10 => ?_)
    refine lv_if_ne (tgt := 35) hx hb dX11_back_22 (by decide) (fun c_11 => ?_) (fun c_11 => ?_)
    · have c_11 := kn_eq rfl (by decide : Int32.toInt 0 = 0) c_11
      refine lv_aload_n hx hb dX11_back_35 rfl (lv_at hl 0 rfl) ?_
      refine k_get (ci := 11) (v := .ref (gr g h0 3)) (C := RX11) (T := TX11) (N := 12) hx hb hts (fun _ h0_ => List.mem_cons_of_mem _ (List.mem_append_right _ (List.mem_append_right _ (List.mem_append_left _ h0_)))) hown hK hI i_h0.1 k_4 rfl 3 (by decide) (hts (.fieldLink RX11 37 "DeadlineShare" "now" "LDeadlineShare$State;") (List.mem_cons_of_mem _ (List.mem_append_left _ (List.mem_of_getElem? (i := 4) rfl)))) (fun _ h9 => h9) rfl dX11_back_36 ?_
      have i_13 := kw_11_3 hG i_h0
      refine lv_aload_n hx hb dX11_back_39 rfl (lv_at hl 0 rfl) ?_
      refine k_get (ci := 11) (v := .ref (gr g h0 7)) (C := RX11) (T := TX11) (N := 12) hx hb hts (fun _ h0_ => List.mem_cons_of_mem _ (List.mem_append_right _ (List.mem_append_right _ (List.mem_append_left _ h0_)))) hown hK hI i_h0.1 k_4 rfl 7 (by decide) (hts (.fieldLink RX11 54 "DeadlineShare" "images" "[LDeadlineShare$State;") (List.mem_cons_of_mem _ (List.mem_append_left _ (List.mem_of_getElem? (i := 5) rfl)))) (fun _ h9 => h9) rfl dX11_back_40 ?_
      have i_15 := kw_11_7 hG i_h0
      refine lv_iload_n hx hb dX11_back_43 rfl (lv_at hl 1 rfl) ?_
      obtain ⟨q_17, k_16, b_18⟩ := op_21 hI i_15
      refine k_aald hx hb hK hI i_15.1 5 k_16 rfl (vp_in_iff.mpr (by omega)) b_18 (fun _ hj => kw_21 hG i_15 hj) dX11_back_44 (fun a_19 i_20 => ?_)
      obtain ⟨x_22, x_23, x_24, x_25, x_26, k_21, b_27, b_28⟩ := op_6 hI i_13
      refine va_callv (va_runV (As := [.ref a_19]) (rest := []) ⟨hx, hb, hml, hown, hts⟩ (c_X6_copy l dC dI g A hG f (gr g h0 3) a_19 i_13 i_20) (cwV 1 hts (gi_V (fun w_ h0_ => ⟨List.mem_cons_of_mem _ (List.mem_append_right _ (List.mem_append_right _ (List.mem_append_right _ (List.mem_append_left _ h0_)))), (tb_c_X6_copy w_ h0_).2⟩) (List.mem_cons_of_mem _ (List.mem_append_left _ (List.mem_of_getElem? (i := 6) rfl))) (List.mem_cons_of_mem _ (List.mem_append_left _ (List.mem_of_getElem? (i := 7) rfl))) (List.mem_cons_of_mem _ (List.mem_append_left _ (List.mem_of_getElem? (i := 8) rfl))) (List.mem_cons_of_mem _ (List.mem_append_left _ (List.mem_of_getElem? (i := 9) rfl)))) rfl rfl rfl (by decide +kernel) ⟨Nat.le_of_ble_eq_true rfl, Nat.le_of_ble_eq_true rfl⟩) ⟨fun a U g mk q => ⟨q.1, q.2.calling rfl rfl⟩, k_recv hK hI i_13.1 k_21 (ci := 6) rfl, fun U hU hW => ⟨rfl, kIn.of hI hK hE hS hU hW⟩⟩ rfl rfl hl.1 rfl (lv_room (Nat.le_of_ble_eq_true rfl)) dX11_back_45 ⟨Nat.le_of_ble_eq_true rfl, Nat.le_of_ble_eq_true rfl⟩) hS (fun q _ h => h) (fun q h => h) (fun u t H1 locs ht hvm _ hB hz1 hk1 hS => ?_)
      obtain ⟨f_29, hI, kc_31⟩ := hB
      rw [ht] at hI
      have k_32 : f_29 h0 = .inr (11, [.ref (gr g h0 0), .ref (gr g h0 1), .ref (gr g h0 2), .ref (gr g h0 3), .ref (gr g h0 4), .ref (gr g h0 5), .ref (gr g h0 6), .ref (gr g h0 7), .ref (gr g h0 8), .ref (gr g h0 9), .ref (gr g h0 10), .int x_5]) := Kp.at kc_31 i_h0 (by decide) k_4
      have k_33 : f_29 (gr g h0 8) = .inl (gc g 3, 2, .inl q_9) := Kp.at kc_31 i_7 (by decide) k_8
      have k_34 : f_29 (gr g h0 7) = .inl (gc g 5, 2, .inr (.inr (.inr (.inr q_17)))) := Kp.at kc_31 i_15 (by decide) k_16
      have kp_35 := Kp.call hk0 kc_31 (by decide)
      generalize H1 = H at hI hS ⊢
      refine W.widen (k := 0) (n := 0) (Nat.le_of_ble_eq_true rfl) (Nat.le_of_ble_eq_true rfl) ?_
      refine lv_aload_n hx hb dX11_back_48 rfl (lv_at hl 0 rfl) ?_
      refine k_get (ci := 11) (v := .ref (gr g h0 9)) (C := RX11) (T := TX11) (N := 12) hx hb hts (fun _ h0_ => List.mem_cons_of_mem _ (List.mem_append_right _ (List.mem_append_right _ (List.mem_append_left _ h0_)))) hown hK hI i_h0.1 k_32 rfl 9 (by decide) (hts (.fieldLink RX11 65 "DeadlineShare" "history" "LDeadlineShare$History;") (List.mem_cons_of_mem _ (List.mem_append_left _ (List.mem_of_getElem? (i := 10) rfl)))) (fun _ h9 => h9) rfl dX11_back_49 ?_
      have i_37 := kw_11_9 hG i_h0
      refine lv_iconst (v := 0) hx hb dX11_back_52 (by decide) ?_
      obtain ⟨x_39, x_40, k_38⟩ := op_1 hI i_37
      refine k_put (ci := 1) (v := .int 0) (ty := .int) (C := RX1) (T := TX1) (N := 4) hx hb hts (fun _ h0_ => List.mem_cons_of_mem _ (List.mem_append_right _ (List.mem_append_right _ (List.mem_append_right _ (List.mem_append_right _ (List.mem_append_left _ h0_)))))) tyX1 tyX1_ok nmX1 hown hK hI hS i_37.1 k_38 rfl 3 (by decide) (hts (.fieldLink RX11 230 "DeadlineShare$History" "size" "I") (List.mem_cons_of_mem _ (List.mem_append_left _ (List.mem_of_getElem? (i := 11) rfl)))) (fun _ h9 => h9) rfl (by decide +kernel) rfl rfl (Nat.le_of_ble_eq_true rfl) rfl (cl_1 i_37) dX11_back_53 (fun f_41 H locs e_42 hI hS => ?_)
      have k_44 : f_41 h0 = .inr (11, [.ref (gr g h0 0), .ref (gr g h0 1), .ref (gr g h0 2), .ref (gr g h0 3), .ref (gr g h0 4), .ref (gr g h0 5), .ref (gr g h0 6), .ref (gr g h0 7), .ref (gr g h0 8), .ref (gr g h0 9), .ref (gr g h0 10), .int x_5]) := by rw [e_42, va_up_ne _ _ (ik_ne i_h0 i_37 (by decide))]; exact k_32
      have k_45 : f_41 (gr g h0 8) = .inl (gc g 3, 2, .inl q_9) := by rw [e_42, va_up_ne _ _ (ik_ne i_7 i_37 (by decide))]; exact k_33
      have k_46 : f_41 (gr g h0 7) = .inl (gc g 5, 2, .inr (.inr (.inr (.inr q_17)))) := by rw [e_42, va_up_ne _ _ (ik_ne i_15 i_37 (by decide))]; exact k_34
      have k_47 : f_41 (gr g h0 9) = .inr (1, [.ref (gr g (gr g h0 9) 0), .ref (gr g (gr g h0 9) 1), .int x_39, .int 0]) := by rw [e_42]; exact va_up_self _ _ _
      have kp_43 := Kp.put kp_35 i_37 (by decide) e_42
      refine lv_aload_n hx hb dX11_back_56 rfl (lv_at hl 0 rfl) ?_
      refine k_get (ci := 11) (v := .ref (gr g h0 10)) (C := RX11) (T := TX11) (N := 12) hx hb hts (fun _ h0_ => List.mem_cons_of_mem _ (List.mem_append_right _ (List.mem_append_right _ (List.mem_append_left _ h0_)))) hown hK hI i_h0.1 k_44 rfl 10 (by decide) (hts (.fieldLink RX11 72 "DeadlineShare" "refusals" "LDeadlineShare$Refusals;") (List.mem_cons_of_mem _ (List.mem_append_left _ (List.mem_of_getElem? (i := 12) rfl)))) (fun _ h9 => h9) rfl dX11_back_57 ?_
      have i_49 := kw_11_10 hG i_h0
      refine lv_aload_n hx hb dX11_back_60 rfl (lv_at hl 0 rfl) ?_
      refine k_get (ci := 11) (v := .ref (gr g h0 3)) (C := RX11) (T := TX11) (N := 12) hx hb hts (fun _ h0_ => List.mem_cons_of_mem _ (List.mem_append_right _ (List.mem_append_right _ (List.mem_append_left _ h0_)))) hown hK hI i_h0.1 k_44 rfl 3 (by decide) (hts (.fieldLink RX11 37 "DeadlineShare" "now" "LDeadlineShare$State;") (List.mem_cons_of_mem _ (List.mem_append_left _ (List.mem_of_getElem? (i := 4) rfl)))) (fun _ h9 => h9) rfl dX11_back_61 ?_
      obtain ⟨x_53, x_54, x_55, x_56, x_57, k_52, b_58, b_59⟩ := op_6 hI i_13
      refine k_get (ci := 6) (v := .int x_54) (C := RX6) (T := TX6) (N := 10) hx hb hts (fun _ h0_ => List.mem_cons_of_mem _ (List.mem_append_right _ (List.mem_append_right _ (List.mem_append_right _ (List.mem_append_right _ (List.mem_append_right _ (List.mem_append_left _ h0_))))))) hown hK hI i_13.1 k_52 rfl 6 (by decide) (hts (.fieldLink RX11 223 "DeadlineShare$State" "time" "I") (List.mem_cons_of_mem _ (List.mem_append_left _ (List.mem_of_getElem? (i := 13) rfl)))) (fun _ h9 => h9) rfl dX11_back_64 ?_
      obtain ⟨x_61, k_60⟩ := op_4 hI i_49
      refine va_calli (va_runV (As := [.int x_54]) (rest := []) ⟨hx, hb, hml, hown, hts⟩ (c_X4_none l dC dI g A hG f_41 (gr g h0 10) x_54 i_49) (cwV 1 hts (gi_V (fun w_ h0_ => ⟨List.mem_cons_of_mem _ (List.mem_append_right _ (List.mem_append_right _ (List.mem_append_right _ (List.mem_append_right _ (List.mem_append_right _ (List.mem_append_right _ (List.mem_append_left _ h0_))))))), (tb_c_X4_none w_ h0_).2⟩) (List.mem_cons_of_mem _ (List.mem_append_left _ (List.mem_of_getElem? (i := 14) rfl))) (List.mem_cons_of_mem _ (List.mem_append_left _ (List.mem_of_getElem? (i := 15) rfl))) (List.mem_cons_of_mem _ (List.mem_append_left _ (List.mem_of_getElem? (i := 16) rfl))) (List.mem_cons_of_mem _ (List.mem_append_left _ (List.mem_of_getElem? (i := 17) rfl)))) rfl rfl rfl (by decide +kernel) ⟨Nat.le_of_ble_eq_true rfl, Nat.le_of_ble_eq_true rfl⟩) ⟨fun a U g mk q => ⟨q.1, q.2.calling rfl rfl⟩, k_recv hK hI i_49.1 k_60 (ci := 4) rfl, fun U hU hW => ⟨rfl, kIn.of hI hK hE hS hU hW⟩⟩ rfl rfl hl.1 rfl (lv_room (Nat.le_of_ble_eq_true rfl)) dX11_back_67 ⟨Nat.le_of_ble_eq_true rfl, Nat.le_of_ble_eq_true rfl⟩) hS (fun q _ h => h) (fun q h => h) (fun r_64 u t H1 locs ht hvm w_63 hB hz1 hk1 hS => ?_)
      obtain ⟨f_62, hI, kc_65⟩ := hB
      rw [ht] at hI
      have k_66 : f_62 h0 = .inr (11, [.ref (gr g h0 0), .ref (gr g h0 1), .ref (gr g h0 2), .ref (gr g h0 3), .ref (gr g h0 4), .ref (gr g h0 5), .ref (gr g h0 6), .ref (gr g h0 7), .ref (gr g h0 8), .ref (gr g h0 9), .ref (gr g h0 10), .int x_5]) := Kp.at kc_65 i_h0 (by decide) k_44
      have k_67 : f_62 (gr g h0 8) = .inl (gc g 3, 2, .inl q_9) := Kp.at kc_65 i_7 (by decide) k_45
      have k_68 : f_62 (gr g h0 7) = .inl (gc g 5, 2, .inr (.inr (.inr (.inr q_17)))) := Kp.at kc_65 i_15 (by decide) k_46
      have k_69 : f_62 (gr g h0 9) = .inr (1, [.ref (gr g (gr g h0 9) 0), .ref (gr g (gr g h0 9) 1), .int x_39, .int 0]) := Kp.at kc_65 i_37 (by decide) k_47
      have k_70 : f_62 (gr g h0 3) = .inr (6, [.ref (gr g (gr g h0 3) 0), .ref (gr g (gr g h0 3) 1), .ref (gr g (gr g h0 3) 2), .ref (gr g (gr g h0 3) 3), .ref (gr g (gr g h0 3) 4), .int x_53, .int x_54, .long x_55, .int x_56, .int x_57]) := Kp.at kc_65 i_13 (by decide) k_52
      have kp_71 := Kp.call kp_43 kc_65 (by decide)
      generalize H1 = H at hI hS ⊢
      refine W.widen (k := 0) (n := 0) (Nat.le_of_ble_eq_true rfl) (Nat.le_of_ble_eq_true rfl) ?_
      have w_63 : r_64.toInt = x_54.toInt := w_63
      exact W.iret (v := r_64) hx hb hr (fun t ht hW => ⟨⟨r_64, (), rfl, trivial, ⟨f_62, k_ret ht hI, kp_71⟩⟩, hS.F ht⟩) hS.2.2 dX11_back_70
    · have c_11 := kc_eq rfl (by decide : Int32.toInt 0 = 0) c_11
      refine lv_aload_n hx hb dX11_back_25 rfl (lv_at hl 0 rfl) ?_
      refine k_get (ci := 11) (v := .ref (gr g h0 10)) (C := RX11) (T := TX11) (N := 12) hx hb hts (fun _ h0_ => List.mem_cons_of_mem _ (List.mem_append_right _ (List.mem_append_right _ (List.mem_append_left _ h0_)))) hown hK hI i_h0.1 k_4 rfl 10 (by decide) (hts (.fieldLink RX11 72 "DeadlineShare" "refusals" "LDeadlineShare$Refusals;") (List.mem_cons_of_mem _ (List.mem_append_left _ (List.mem_of_getElem? (i := 12) rfl)))) (fun _ h9 => h9) rfl dX11_back_26 ?_
      have i_73 := kw_11_10 hG i_h0
      refine lv_bipush (v := (-4)) hx hb dX11_back_29 (by decide) ?_
      obtain ⟨x_75, k_74⟩ := op_4 hI i_73
      refine va_calli (va_runV (As := [.int (-4)]) (rest := []) ⟨hx, hb, hml, hown, hts⟩ (c_X4_add l dC dI g A hG f (gr g h0 10) (-4) i_73) (cwV 1 hts (gi_V (fun w_ h0_ => ⟨List.mem_cons_of_mem _ (List.mem_append_right _ (List.mem_append_right _ (List.mem_append_right _ (List.mem_append_right _ (List.mem_append_right _ (List.mem_append_right _ (List.mem_append_right _ (List.mem_append_left _ h0_)))))))), (tb_c_X4_add w_ h0_).2⟩) (List.mem_cons_of_mem _ (List.mem_append_left _ (List.mem_of_getElem? (i := 18) rfl))) (List.mem_cons_of_mem _ (List.mem_append_left _ (List.mem_of_getElem? (i := 19) rfl))) (List.mem_cons_of_mem _ (List.mem_append_left _ (List.mem_of_getElem? (i := 20) rfl))) (List.mem_cons_of_mem _ (List.mem_append_left _ (List.mem_of_getElem? (i := 17) rfl)))) rfl rfl rfl (by decide +kernel) ⟨Nat.le_of_ble_eq_true rfl, Nat.le_of_ble_eq_true rfl⟩) ⟨fun a U g mk q => ⟨q.1, q.2.calling rfl rfl⟩, k_recv hK hI i_73.1 k_74 (ci := 4) rfl, fun U hU hW => ⟨rfl, kIn.of hI hK hE hS hU hW⟩⟩ rfl rfl hl.1 rfl (lv_room (Nat.le_of_ble_eq_true rfl)) dX11_back_31 ⟨Nat.le_of_ble_eq_true rfl, Nat.le_of_ble_eq_true rfl⟩) hS (fun q _ h => h) (fun q h => h) (fun r_78 u t H1 locs ht hvm w_77 hB hz1 hk1 hS => ?_)
      obtain ⟨f_76, hI, kc_79⟩ := hB
      rw [ht] at hI
      have k_80 : f_76 h0 = .inr (11, [.ref (gr g h0 0), .ref (gr g h0 1), .ref (gr g h0 2), .ref (gr g h0 3), .ref (gr g h0 4), .ref (gr g h0 5), .ref (gr g h0 6), .ref (gr g h0 7), .ref (gr g h0 8), .ref (gr g h0 9), .ref (gr g h0 10), .int x_5]) := Kp.at kc_79 i_h0 (by decide) k_4
      have k_81 : f_76 (gr g h0 8) = .inl (gc g 3, 2, .inl q_9) := Kp.at kc_79 i_7 (by decide) k_8
      have kp_82 := Kp.call hk0 kc_79 (by decide)
      generalize H1 = H at hI hS ⊢
      refine W.widen (k := 0) (n := 0) (Nat.le_of_ble_eq_true rfl) (Nat.le_of_ble_eq_true rfl) ?_
      have w_77 : r_78.toInt = (-4 : Int32).toInt := w_77
      exact W.iret (v := r_78) hx hb hr (fun t ht hW => ⟨⟨r_78, (), rfl, trivial, ⟨f_76, k_ret ht hI, kp_82⟩⟩, hS.F ht⟩) hS.2.2 dX11_back_34
  · have c_3 := kc_eq rfl (by decide : Int32.toInt 0 = 0) c_3
    refine lv_aload_n hx hb dX11_back_7 rfl (lv_at hl 0 rfl) ?_
    obtain ⟨x_84, k_83⟩ := op_11 hI i_h0
    refine k_get (ci := 11) (v := .ref (gr g h0 10)) (C := RX11) (T := TX11) (N := 12) hx hb hts (fun _ h0_ => List.mem_cons_of_mem _ (List.mem_append_right _ (List.mem_append_right _ (List.mem_append_left _ h0_)))) hown hK hI i_h0.1 k_83 rfl 10 (by decide) (hts (.fieldLink RX11 72 "DeadlineShare" "refusals" "LDeadlineShare$Refusals;") (List.mem_cons_of_mem _ (List.mem_append_left _ (List.mem_of_getElem? (i := 12) rfl)))) (fun _ h9 => h9) rfl dX11_back_8 ?_
    have i_86 := kw_11_10 hG i_h0
    refine lv_iconst (v := (-1)) hx hb dX11_back_11 (by decide) ?_
    obtain ⟨x_88, k_87⟩ := op_4 hI i_86
    refine va_calli (va_runV (As := [.int (-1)]) (rest := []) ⟨hx, hb, hml, hown, hts⟩ (c_X4_add l dC dI g A hG f (gr g h0 10) (-1) i_86) (cwV 1 hts (gi_V (fun w_ h0_ => ⟨List.mem_cons_of_mem _ (List.mem_append_right _ (List.mem_append_right _ (List.mem_append_right _ (List.mem_append_right _ (List.mem_append_right _ (List.mem_append_right _ (List.mem_append_right _ (List.mem_append_left _ h0_)))))))), (tb_c_X4_add w_ h0_).2⟩) (List.mem_cons_of_mem _ (List.mem_append_left _ (List.mem_of_getElem? (i := 18) rfl))) (List.mem_cons_of_mem _ (List.mem_append_left _ (List.mem_of_getElem? (i := 19) rfl))) (List.mem_cons_of_mem _ (List.mem_append_left _ (List.mem_of_getElem? (i := 20) rfl))) (List.mem_cons_of_mem _ (List.mem_append_left _ (List.mem_of_getElem? (i := 17) rfl)))) rfl rfl rfl (by decide +kernel) ⟨Nat.le_of_ble_eq_true rfl, Nat.le_of_ble_eq_true rfl⟩) ⟨fun a U g mk q => ⟨q.1, q.2.calling rfl rfl⟩, k_recv hK hI i_86.1 k_87 (ci := 4) rfl, fun U hU hW => ⟨rfl, kIn.of hI hK hE hS hU hW⟩⟩ rfl rfl hl.1 rfl (lv_room (Nat.le_of_ble_eq_true rfl)) dX11_back_12 ⟨Nat.le_of_ble_eq_true rfl, Nat.le_of_ble_eq_true rfl⟩) hS (fun q _ h => h) (fun q h => h) (fun r_91 u t H1 locs ht hvm w_90 hB hz1 hk1 hS => ?_)
    obtain ⟨f_89, hI, kc_92⟩ := hB
    rw [ht] at hI
    have k_93 : f_89 h0 = .inr (11, [.ref (gr g h0 0), .ref (gr g h0 1), .ref (gr g h0 2), .ref (gr g h0 3), .ref (gr g h0 4), .ref (gr g h0 5), .ref (gr g h0 6), .ref (gr g h0 7), .ref (gr g h0 8), .ref (gr g h0 9), .ref (gr g h0 10), .int x_84]) := Kp.at kc_92 i_h0 (by decide) k_83
    have kp_94 := Kp.call hk0 kc_92 (by decide)
    generalize H1 = H at hI hS ⊢
    refine W.widen (k := 0) (n := 0) (Nat.le_of_ble_eq_true rfl) (Nat.le_of_ble_eq_true rfl) ?_
    have w_90 : r_91.toInt = (-1 : Int32).toInt := w_90
    exact W.iret (v := r_91) hx hb hr (fun t ht hW => ⟨⟨r_91, (), rfl, trivial, ⟨f_89, k_ret ht hI, kp_94⟩⟩, hS.F ht⟩) hS.2.2 dX11_back_15
theorem tw_632 : q_g (.selects RX8 yX8_tell yX8_tell) := ⟨(List.mem_append_right _ (List.mem_of_getElem? (i := 901) (by decide +kernel))), good_of_word (by decide +kernel)⟩
theorem tw_633 : q_g (.instanceMethod yX8_tell) := ⟨(List.mem_append_right _ (List.mem_of_getElem? (i := 900) (by decide +kernel))), good_of_word (by decide +kernel)⟩
theorem tw_634 : q_g (.methodLink RX11 242 yX8_tell) := ⟨(List.mem_append_right _ (List.mem_of_getElem? (i := 899) (by decide +kernel))), good_of_word (by decide +kernel)⟩
theorem tw_635 : q_g (.code yX11_of cX11_of 3 (some .int)) := ⟨(List.mem_append_right _ (List.mem_of_getElem? (i := 898) (by decide +kernel))), good_of_word (by decide +kernel)⟩
def ow_c_X11_of : List Cond := [.fieldLink RX11 37 "DeadlineShare" "now" "LDeadlineShare$State;", .methodLink RX11 130 yX6_has, .instanceMethod yX6_has, .selects RX6 yX6_has yX6_has, .initialized RX6, .fieldLink RX11 133 "DeadlineShare$State" "tasks" "[LDeadlineShare$Task;", .methodLink RX11 242 yX8_tell, .instanceMethod yX8_tell, .selects RX8 yX8_tell yX8_tell, .initialized RX8]
def wq_c_X11_of : List Cond := .code yX11_of cX11_of 3 (some .int) :: (ow_c_X11_of ++ (u_ws RX11 TX11 12 ++ (wq_c_X6_has ++ (u_ws RX6 TX6 10 ++ (wq_c_X8_tell ++ ([] : List Cond))))))
theorem tb_c_X11_of : ∀ w ∈ wq_c_X11_of, q_g w := by
  unfold wq_c_X11_of ow_c_X11_of
  exact q_cons tw_635 (q_app (q_cons tw_558 (q_cons tw_571 (q_cons tw_74 (q_cons tw_73 (q_cons tw_47 (q_cons tw_570 (q_cons tw_634 (q_cons tw_633 (q_cons tw_632 (q_cons tw_8 q_nil)))))))))) (q_app tu_X11 (q_app tb_c_X6_has (q_app tu_X6 (q_app tb_c_X8_tell q_nil)))))
set_option maxHeartbeats 4000000 in
set_option maxRecDepth 100000 in
theorem c_X11_of (l : Launch) (dC : Nat → ClassId) (dI : Nat → Nat → Nat) (g : kG) (A : Nat → Prop) (hG : kWf g) (f : Nat → va_E) (h0 : Nat) (p1 : Int32) (p2 : Int32) (i_h0 : ik g 11 h0) : Met l yX11_of wq_c_X11_of ({ frames := 3, cells := 0, slots := 0, locals := 62 } : Room) (va_Pc [.ref h0, .int p1, .int p2] (fun U => kIn dC dI g A f U)) (va_Qi (fun (r : Int32) (_ : Unit) => True) (fun (_ : Unit) t => Iv dC dI g A f t.heap) A) 0 0 A := by
  refine Met.ofW (cc := cX11_of) (maxL := 3) (ret := (some .int)) (by decide) rfl ?_
  intro p e s m args below meth c s₁ B hml hv
  obtain ⟨rfl, hI, hK, hE⟩ := hv
  have hx := B.exec
  have hb := B.bytes
  have hr := B.returns
  have hts := atoms_spec (ws := wq_c_X11_of) B.pre
  have hown : s.vm.findClass RX11 = some m.cls := findClass_of_methodNamed B.named
  have hlocks := B.notSynchronized
  have hS : va_S A s.heap s.heap [] := va_S.rf
  have hl := lv_entry ([.ref h0, .int p1, .int p2]) (n := 3) (Nat.le_of_ble_eq_true rfl)
  rw [lg_entry_eq]
  generalize (lg_sl ([.ref h0, .int p1, .int p2]) ++ List.replicate (3 - (lg_sl ([.ref h0, .int p1, .int p2])).length) Slot.unset).toArray = ls at hl ⊢
  have hl : lv_has ls 3 [(0, .ref h0), (1, .int p1), (2, .int p2)] := hl
  refine lv_aload_n hx hb dX11_of_0 rfl (lv_at hl 0 rfl) ?_
  obtain ⟨x_2, k_1⟩ := op_11 hI i_h0
  refine k_get (ci := 11) (v := .ref (gr g h0 3)) (C := RX11) (T := TX11) (N := 12) hx hb hts (fun _ h0_ => List.mem_cons_of_mem _ (List.mem_append_right _ (List.mem_append_left _ h0_))) hown hK hI i_h0.1 k_1 rfl 3 (by decide) (hts (.fieldLink RX11 37 "DeadlineShare" "now" "LDeadlineShare$State;") (List.mem_cons_of_mem _ (List.mem_append_left _ (List.mem_of_getElem? (i := 0) rfl)))) (fun _ h9 => h9) rfl dX11_of_1 ?_
  have i_4 := kw_11_3 hG i_h0
  refine lv_iload_n hx hb dX11_of_4 rfl (lv_at hl 1 rfl) ?_
  obtain ⟨x_6, x_7, x_8, x_9, x_10, k_5, b_11, b_12⟩ := op_6 hI i_4
  refine va_calli (va_runV (As := [.int p1]) (rest := []) ⟨hx, hb, hml, hown, hts⟩ (c_X6_has l dC dI g A hG f (gr g h0 3) p1 i_4) (cwV 1 hts (gi_V (fun w_ h0_ => ⟨List.mem_cons_of_mem _ (List.mem_append_right _ (List.mem_append_right _ (List.mem_append_left _ h0_))), (tb_c_X6_has w_ h0_).2⟩) (List.mem_cons_of_mem _ (List.mem_append_left _ (List.mem_of_getElem? (i := 1) rfl))) (List.mem_cons_of_mem _ (List.mem_append_left _ (List.mem_of_getElem? (i := 2) rfl))) (List.mem_cons_of_mem _ (List.mem_append_left _ (List.mem_of_getElem? (i := 3) rfl))) (List.mem_cons_of_mem _ (List.mem_append_left _ (List.mem_of_getElem? (i := 4) rfl)))) rfl rfl rfl (by decide +kernel) ⟨Nat.le_of_ble_eq_true rfl, Nat.le_of_ble_eq_true rfl⟩) ⟨fun a U g mk q => ⟨q.1, q.2.calling rfl rfl⟩, k_recv hK hI i_4.1 k_5 (ci := 6) rfl, fun U hU hW => ⟨rfl, kIn.of hI hK hE hS hU hW⟩⟩ rfl rfl hl.1 rfl (lv_room (Nat.le_of_ble_eq_true rfl)) dX11_of_5 ⟨Nat.le_of_ble_eq_true rfl, Nat.le_of_ble_eq_true rfl⟩) hS (fun q _ h => h) (fun q h => h) (fun r_14 u t H1 locs ht hvm w_13 hB hz1 hk1 hS => ?_)
  have hI : Iv dC dI g A f t.heap := hB
  rw [ht] at hI
  generalize H1 = H at hI hS ⊢
  refine W.widen (k := 0) (n := 0) (Nat.le_of_ble_eq_true rfl) (Nat.le_of_ble_eq_true rfl) ?_
  have w_13 : r_14.toInt = 0 ∨ (0 ≤ p1.toInt ∧ p1.toInt < 12) := w_13
  refine lv_if_eq (tgt := 27) hx hb dX11_of_8 (by decide) (fun c_15 => ?_) (fun c_15 => ?_)
  · have c_15 := kc_eq rfl (by decide : Int32.toInt 0 = 0) c_15
    refine lv_iconst (v := (-1)) hx hb dX11_of_27 (by decide) ?_
    exact W.iret (v := (-1)) hx hb hr (fun t ht hW => ⟨⟨(-1), (), rfl, trivial, k_ret ht hI⟩, hS.F ht⟩) hS.2.2 dX11_of_28
  · have c_15 := kn_eq rfl (by decide : Int32.toInt 0 = 0) c_15
    refine lv_aload_n hx hb dX11_of_11 rfl (lv_at hl 0 rfl) ?_
    refine k_get (ci := 11) (v := .ref (gr g h0 3)) (C := RX11) (T := TX11) (N := 12) hx hb hts (fun _ h0_ => List.mem_cons_of_mem _ (List.mem_append_right _ (List.mem_append_left _ h0_))) hown hK hI i_h0.1 k_1 rfl 3 (by decide) (hts (.fieldLink RX11 37 "DeadlineShare" "now" "LDeadlineShare$State;") (List.mem_cons_of_mem _ (List.mem_append_left _ (List.mem_of_getElem? (i := 0) rfl)))) (fun _ h9 => h9) rfl dX11_of_12 ?_
    refine k_get (ci := 6) (v := .ref (gr g (gr g h0 3) 1)) (C := RX6) (T := TX6) (N := 10) hx hb hts (fun _ h0_ => List.mem_cons_of_mem _ (List.mem_append_right _ (List.mem_append_right _ (List.mem_append_right _ (List.mem_append_left _ h0_))))) hown hK hI i_4.1 k_5 rfl 1 (by decide) (hts (.fieldLink RX11 133 "DeadlineShare$State" "tasks" "[LDeadlineShare$Task;") (List.mem_cons_of_mem _ (List.mem_append_left _ (List.mem_of_getElem? (i := 5) rfl)))) (fun _ h9 => h9) rfl dX11_of_15 ?_
    have i_19 := kw_6_1 hG i_4
    refine lv_iload_n hx hb dX11_of_18 rfl (lv_at hl 1 rfl) ?_
    obtain ⟨q_21, k_20, b_22⟩ := op_20 hI i_19
    refine k_aald hx hb hK hI i_19.1 4 k_20 rfl (vp_in_iff.mpr (by omega)) b_22 (fun _ hj => kw_20 hG i_19 hj) dX11_of_19 (fun a_23 i_24 => ?_)
    refine lv_iload_n hx hb dX11_of_20 rfl (lv_at hl 2 rfl) ?_
    obtain ⟨x_26, x_27, x_28, x_29, x_30, x_31, x_32, x_33, x_34, x_35, x_36, x_37, x_38, x_39, x_40, x_41, k_25⟩ := op_8 hI i_24
    refine va_calli (va_runV (As := [.int p2]) (rest := []) ⟨hx, hb, hml, hown, hts⟩ (c_X8_tell l dC dI g A hG f a_23 p2 i_24) (cwV 1 hts (gi_V (fun w_ h0_ => ⟨List.mem_cons_of_mem _ (List.mem_append_right _ (List.mem_append_right _ (List.mem_append_right _ (List.mem_append_right _ (List.mem_append_left _ h0_))))), (tb_c_X8_tell w_ h0_).2⟩) (List.mem_cons_of_mem _ (List.mem_append_left _ (List.mem_of_getElem? (i := 6) rfl))) (List.mem_cons_of_mem _ (List.mem_append_left _ (List.mem_of_getElem? (i := 7) rfl))) (List.mem_cons_of_mem _ (List.mem_append_left _ (List.mem_of_getElem? (i := 8) rfl))) (List.mem_cons_of_mem _ (List.mem_append_left _ (List.mem_of_getElem? (i := 9) rfl)))) rfl rfl rfl (by decide +kernel) ⟨Nat.le_of_ble_eq_true rfl, Nat.le_of_ble_eq_true rfl⟩) ⟨fun a U g mk q => ⟨q.1, q.2.calling rfl rfl⟩, k_recv hK hI i_24.1 k_25 (ci := 8) rfl, fun U hU hW => ⟨rfl, kIn.of hI hK hE hS hU hW⟩⟩ rfl rfl hl.1 rfl (lv_room (Nat.le_of_ble_eq_true rfl)) dX11_of_21 ⟨Nat.le_of_ble_eq_true rfl, Nat.le_of_ble_eq_true rfl⟩) hS (fun q _ h => h) (fun q h => h) (fun r_43 u t H1 locs ht hvm w_42 hB hz1 hk1 hS => ?_)
    have hI : Iv dC dI g A f t.heap := hB
    rw [ht] at hI
    generalize H1 = H at hI hS ⊢
    refine W.widen (k := 0) (n := 0) (Nat.le_of_ble_eq_true rfl) (Nat.le_of_ble_eq_true rfl) ?_
    refine lv_goto (tgt := 28) hx hb dX11_of_24 (by decide) ?_
    exact W.iret (v := r_43) hx hb hr (fun t ht hW => ⟨⟨r_43, (), rfl, trivial, k_ret ht hI⟩, hS.F ht⟩) hS.2.2 dX11_of_28
theorem tw_636 : q_g (.methodLink RX11 251 yX10_asLong) := ⟨(List.mem_append_right _ (List.mem_of_getElem? (i := 914) (by decide +kernel))), good_of_word (by decide +kernel)⟩
theorem tw_637 : q_g (.fieldLink RX11 247 "DeadlineShare$Task" "lag" "LDeadlineShare$Wide;") := ⟨(List.mem_append_right _ (List.mem_of_getElem? (i := 171) (by decide +kernel))), good_of_word (by decide +kernel)⟩
theorem tw_638 : q_g (.constantLong RX11 245 (-9223372036854775808)) := ⟨(List.mem_append_right _ (List.mem_of_getElem? (i := 913) (by decide +kernel))), good_of_word (by decide +kernel)⟩
theorem tw_639 : q_g (.selects RX6 yX6_lagTimesW yX6_lagTimesW) := ⟨(List.mem_append_right _ (List.mem_of_getElem? (i := 918) (by decide +kernel))), good_of_word (by decide +kernel)⟩
theorem tw_640 : q_g (.instanceMethod yX6_lagTimesW) := ⟨(List.mem_append_right _ (List.mem_of_getElem? (i := 917) (by decide +kernel))), good_of_word (by decide +kernel)⟩
theorem tw_641 : q_g (.methodLink RX11 264 yX6_lagTimesW) := ⟨(List.mem_append_right _ (List.mem_of_getElem? (i := 916) (by decide +kernel))), good_of_word (by decide +kernel)⟩
theorem tw_642 : q_g (.methodLink RX11 261 yX8_deadline) := ⟨(List.mem_append_right _ (List.mem_of_getElem? (i := 915) (by decide +kernel))), good_of_word (by decide +kernel)⟩
theorem tw_643 : q_g (.fieldLink RX11 257 "DeadlineShare$Task" "v" "J") := ⟨(List.mem_append_right _ (List.mem_of_getElem? (i := 165) (by decide +kernel))), good_of_word (by decide +kernel)⟩
theorem tw_644 : q_g (.code yX11_exact cX11_exact 4 (some .long)) := ⟨(List.mem_append_right _ (List.mem_of_getElem? (i := 912) (by decide +kernel))), good_of_word (by decide +kernel)⟩
def ow_c_X11_exact : List Cond := [.fieldLink RX11 37 "DeadlineShare" "now" "LDeadlineShare$State;", .methodLink RX11 130 yX6_has, .instanceMethod yX6_has, .selects RX6 yX6_has yX6_has, .initialized RX6, .fieldLink RX11 133 "DeadlineShare$State" "tasks" "[LDeadlineShare$Task;", .methodLink RX11 159 yX8_isOn, .instanceMethod yX8_isOn, .selects RX8 yX8_isOn yX8_isOn, .initialized RX8, .fieldLink RX11 257 "DeadlineShare$Task" "v" "J", .methodLink RX11 261 yX8_deadline, .instanceMethod yX8_deadline, .selects RX8 yX8_deadline yX8_deadline, .methodLink RX11 264 yX6_lagTimesW, .instanceMethod yX6_lagTimesW, .selects RX6 yX6_lagTimesW yX6_lagTimesW, .constantLong RX11 245 (-9223372036854775808), .fieldLink RX11 247 "DeadlineShare$Task" "lag" "LDeadlineShare$Wide;", .methodLink RX11 251 yX10_asLong, .instanceMethod yX10_asLong, .selects RX10 yX10_asLong yX10_asLong, .initialized RX10]
def wq_c_X11_exact : List Cond := .code yX11_exact cX11_exact 4 (some .long) :: (ow_c_X11_exact ++ (u_ws RX11 TX11 12 ++ (wq_c_X6_has ++ (u_ws RX6 TX6 10 ++ (wq_c_X8_isOn ++ (u_ws RX8 TX8 18 ++ (wq_c_X8_deadline ++ (wq_c_X6_lagTimesW ++ (wq_c_X10_asLong ++ ([] : List Cond))))))))))
theorem tb_c_X11_exact : ∀ w ∈ wq_c_X11_exact, q_g w := by
  unfold wq_c_X11_exact ow_c_X11_exact
  exact q_cons tw_644 (q_app (q_cons tw_558 (q_cons tw_571 (q_cons tw_74 (q_cons tw_73 (q_cons tw_47 (q_cons tw_570 (q_cons tw_576 (q_cons tw_10 (q_cons tw_9 (q_cons tw_8 (q_cons tw_643 (q_cons tw_642 (q_cons tw_63 (q_cons tw_62 (q_cons tw_641 (q_cons tw_640 (q_cons tw_639 (q_cons tw_638 (q_cons tw_637 (q_cons tw_636 (q_cons tw_42 (q_cons tw_41 (q_cons tw_26 q_nil))))))))))))))))))))))) (q_app tu_X11 (q_app tb_c_X6_has (q_app tu_X6 (q_app tb_c_X8_isOn (q_app tu_X8 (q_app tb_c_X8_deadline (q_app tb_c_X6_lagTimesW (q_app tb_c_X10_asLong q_nil)))))))))
set_option maxHeartbeats 4000000 in
set_option maxRecDepth 100000 in
theorem c_X11_exact (l : Launch) (dC : Nat → ClassId) (dI : Nat → Nat → Nat) (g : kG) (A : Nat → Prop) (hG : kWf g) (f : Nat → va_E) (h0 : Nat) (p1 : Int32) (p2 : Int32) (i_h0 : ik g 11 h0) : Met l yX11_exact wq_c_X11_exact ({ frames := 3, cells := 0, slots := 0, locals := 70 } : Room) (va_Pc [.ref h0, .int p1, .int p2] (fun U => kIn dC dI g A f U)) (va_Ql (fun (r : Int64) (_ : Unit) => True) (fun (_ : Unit) t => ∃ f1 : Nat → va_E, Iv dC dI g A f1 t.heap ∧ Kp g [10] f f1) A) 0 0 A := by
  refine Met.ofW (cc := cX11_exact) (maxL := 4) (ret := (some .long)) (by decide) rfl ?_
  intro p e s m args below meth c s₁ B hml hv
  obtain ⟨rfl, hI, hK, hE⟩ := hv
  have hx := B.exec
  have hb := B.bytes
  have hr := B.returns
  have hts := atoms_spec (ws := wq_c_X11_exact) B.pre
  have hown : s.vm.findClass RX11 = some m.cls := findClass_of_methodNamed B.named
  have hlocks := B.notSynchronized
  have hS : va_S A s.heap s.heap [] := va_S.rf
  have hk0 : Kp g [10] f f := Kp.rf
  have hl := lv_entry ([.ref h0, .int p1, .int p2]) (n := 4) (Nat.le_of_ble_eq_true rfl)
  rw [lg_entry_eq]
  generalize (lg_sl ([.ref h0, .int p1, .int p2]) ++ List.replicate (4 - (lg_sl ([.ref h0, .int p1, .int p2])).length) Slot.unset).toArray = ls at hl ⊢
  have hl : lv_has ls 4 [(0, .ref h0), (1, .int p1), (2, .int p2)] := hl
  refine lv_aload_n hx hb dX11_exact_0 rfl (lv_at hl 0 rfl) ?_
  obtain ⟨x_2, k_1⟩ := op_11 hI i_h0
  refine k_get (ci := 11) (v := .ref (gr g h0 3)) (C := RX11) (T := TX11) (N := 12) hx hb hts (fun _ h0_ => List.mem_cons_of_mem _ (List.mem_append_right _ (List.mem_append_left _ h0_))) hown hK hI i_h0.1 k_1 rfl 3 (by decide) (hts (.fieldLink RX11 37 "DeadlineShare" "now" "LDeadlineShare$State;") (List.mem_cons_of_mem _ (List.mem_append_left _ (List.mem_of_getElem? (i := 0) rfl)))) (fun _ h9 => h9) rfl dX11_exact_1 ?_
  have i_4 := kw_11_3 hG i_h0
  refine lv_iload_n hx hb dX11_exact_4 rfl (lv_at hl 1 rfl) ?_
  obtain ⟨x_6, x_7, x_8, x_9, x_10, k_5, b_11, b_12⟩ := op_6 hI i_4
  refine va_calli (va_runV (As := [.int p1]) (rest := []) ⟨hx, hb, hml, hown, hts⟩ (c_X6_has l dC dI g A hG f (gr g h0 3) p1 i_4) (cwV 1 hts (gi_V (fun w_ h0_ => ⟨List.mem_cons_of_mem _ (List.mem_append_right _ (List.mem_append_right _ (List.mem_append_left _ h0_))), (tb_c_X6_has w_ h0_).2⟩) (List.mem_cons_of_mem _ (List.mem_append_left _ (List.mem_of_getElem? (i := 1) rfl))) (List.mem_cons_of_mem _ (List.mem_append_left _ (List.mem_of_getElem? (i := 2) rfl))) (List.mem_cons_of_mem _ (List.mem_append_left _ (List.mem_of_getElem? (i := 3) rfl))) (List.mem_cons_of_mem _ (List.mem_append_left _ (List.mem_of_getElem? (i := 4) rfl)))) rfl rfl rfl (by decide +kernel) ⟨Nat.le_of_ble_eq_true rfl, Nat.le_of_ble_eq_true rfl⟩) ⟨fun a U g mk q => ⟨q.1, q.2.calling rfl rfl⟩, k_recv hK hI i_4.1 k_5 (ci := 6) rfl, fun U hU hW => ⟨rfl, kIn.of hI hK hE hS hU hW⟩⟩ rfl rfl hl.1 rfl (lv_room (Nat.le_of_ble_eq_true rfl)) dX11_exact_5 ⟨Nat.le_of_ble_eq_true rfl, Nat.le_of_ble_eq_true rfl⟩) hS (fun q _ h => h) (fun q h => h) (fun r_14 u t H1 locs ht hvm w_13 hB hz1 hk1 hS => ?_)
  have hI : Iv dC dI g A f t.heap := hB
  rw [ht] at hI
  generalize H1 = H at hI hS ⊢
  refine W.widen (k := 0) (n := 0) (Nat.le_of_ble_eq_true rfl) (Nat.le_of_ble_eq_true rfl) ?_
  have w_13 : r_14.toInt = 0 ∨ (0 ≤ p1.toInt ∧ p1.toInt < 12) := w_13
  refine lv_if_ne (tgt := 15) hx hb dX11_exact_8 (by decide) (fun c_15 => ?_) (fun c_15 => ?_)
  · have c_15 := kn_eq rfl (by decide : Int32.toInt 0 = 0) c_15
    refine lv_aload_n hx hb dX11_exact_15 rfl (lv_at hl 0 rfl) ?_
    refine k_get (ci := 11) (v := .ref (gr g h0 3)) (C := RX11) (T := TX11) (N := 12) hx hb hts (fun _ h0_ => List.mem_cons_of_mem _ (List.mem_append_right _ (List.mem_append_left _ h0_))) hown hK hI i_h0.1 k_1 rfl 3 (by decide) (hts (.fieldLink RX11 37 "DeadlineShare" "now" "LDeadlineShare$State;") (List.mem_cons_of_mem _ (List.mem_append_left _ (List.mem_of_getElem? (i := 0) rfl)))) (fun _ h9 => h9) rfl dX11_exact_16 ?_
    refine k_get (ci := 6) (v := .ref (gr g (gr g h0 3) 1)) (C := RX6) (T := TX6) (N := 10) hx hb hts (fun _ h0_ => List.mem_cons_of_mem _ (List.mem_append_right _ (List.mem_append_right _ (List.mem_append_right _ (List.mem_append_left _ h0_))))) hown hK hI i_4.1 k_5 rfl 1 (by decide) (hts (.fieldLink RX11 133 "DeadlineShare$State" "tasks" "[LDeadlineShare$Task;") (List.mem_cons_of_mem _ (List.mem_append_left _ (List.mem_of_getElem? (i := 5) rfl)))) (fun _ h9 => h9) rfl dX11_exact_19 ?_
    have i_19 := kw_6_1 hG i_4
    refine lv_iload_n hx hb dX11_exact_22 rfl (lv_at hl 1 rfl) ?_
    obtain ⟨q_21, k_20, b_22⟩ := op_20 hI i_19
    refine k_aald hx hb hK hI i_19.1 4 k_20 rfl (vp_in_iff.mpr (by omega)) b_22 (fun _ hj => kw_20 hG i_19 hj) dX11_exact_23 (fun a_23 i_24 => ?_)
    refine lv_astore_n (lv' := [(3, .ref a_23), (0, .ref h0), (1, .int p1), (2, .int p2)]) hx hb dX11_exact_24 rfl hl (by decide) rfl (fun ls hl => ?_)
    refine lv_aload_n hx hb dX11_exact_25 rfl (lv_at hl 0 rfl) ?_
    obtain ⟨x_26, x_27, x_28, x_29, x_30, x_31, x_32, x_33, x_34, x_35, x_36, x_37, x_38, x_39, x_40, x_41, k_25⟩ := op_8 hI i_24
    refine va_calli (va_runV (As := []) (rest := []) ⟨hx, hb, hml, hown, hts⟩ (c_X8_isOn l dC dI g A hG f a_23 i_24) (cwV 0 hts (gi_V (fun w_ h0_ => ⟨List.mem_cons_of_mem _ (List.mem_append_right _ (List.mem_append_right _ (List.mem_append_right _ (List.mem_append_right _ (List.mem_append_left _ h0_))))), (tb_c_X8_isOn w_ h0_).2⟩) (List.mem_cons_of_mem _ (List.mem_append_left _ (List.mem_of_getElem? (i := 6) rfl))) (List.mem_cons_of_mem _ (List.mem_append_left _ (List.mem_of_getElem? (i := 7) rfl))) (List.mem_cons_of_mem _ (List.mem_append_left _ (List.mem_of_getElem? (i := 8) rfl))) (List.mem_cons_of_mem _ (List.mem_append_left _ (List.mem_of_getElem? (i := 9) rfl)))) rfl rfl rfl (by decide +kernel) ⟨Nat.le_of_ble_eq_true rfl, Nat.le_of_ble_eq_true rfl⟩) ⟨fun a U g mk q => ⟨q.1, q.2.calling rfl rfl⟩, k_recv hK hI i_24.1 k_25 (ci := 8) rfl, fun U hU hW => ⟨rfl, kIn.of hI hK hE hS hU hW⟩⟩ rfl rfl hl.1 rfl (lv_room (Nat.le_of_ble_eq_true rfl)) dX11_exact_26 ⟨Nat.le_of_ble_eq_true rfl, Nat.le_of_ble_eq_true rfl⟩) hS (fun q _ h => h) (fun q h => h) (fun r_43 u t H1 locs ht hvm w_42 hB hz1 hk1 hS => ?_)
    have hI : Iv dC dI g A f t.heap := hB
    rw [ht] at hI
    generalize H1 = H at hI hS ⊢
    refine W.widen (k := 0) (n := 0) (Nat.le_of_ble_eq_true rfl) (Nat.le_of_ble_eq_true rfl) ?_
    refine lv_if_ne (tgt := 51) hx hb dX11_exact_29 (by decide) (fun c_44 => ?_) (fun c_44 => ?_)
    · have c_44 := kn_eq rfl (by decide : Int32.toInt 0 = 0) c_44
      refine lv_iload_n hx hb dX11_exact_51 rfl (lv_at hl 3 rfl) ?_
      by_cases h_45 : p2 = 0
      · refine k_topi (y := 0) h_45 ?_
        refine lv_tableIn (tgt := 80) hx hb dX11_exact_52 (by decide) (by decide) rfl (by decide) ?_
        have h_45 := kc_eq rfl (by decide : Int32.toInt 0 = 0) h_45
        refine lv_aload_n hx hb dX11_exact_80 rfl (lv_at hl 0 rfl) ?_
        refine k_get (ci := 8) (v := .long x_30) (C := RX8) (T := TX8) (N := 18) hx hb hts (fun _ h0_ => List.mem_cons_of_mem _ (List.mem_append_right _ (List.mem_append_right _ (List.mem_append_right _ (List.mem_append_right _ (List.mem_append_right _ (List.mem_append_left _ h0_))))))) hown hK hI i_24.1 k_25 rfl 5 (by decide) (hts (.fieldLink RX11 257 "DeadlineShare$Task" "v" "J") (List.mem_cons_of_mem _ (List.mem_append_left _ (List.mem_of_getElem? (i := 10) rfl)))) (fun _ h9 => h9) rfl dX11_exact_81 ?_
        exact W.lret (v := x_30) hx hb hr (fun t ht hW => ⟨⟨x_30, (), rfl, trivial, ⟨f, k_ret ht hI, hk0⟩⟩, hS.F ht⟩) hS.2.2 dX11_exact_84
      by_cases h_46 : p2 = 1
      · refine k_topi (y := 1) h_46 ?_
        refine lv_tableIn (tgt := 85) hx hb dX11_exact_52 (by decide) (by decide) rfl (by decide) ?_
        have h_46 := kc_eq rfl (by decide : Int32.toInt 1 = 1) h_46
        refine lv_aload_n hx hb dX11_exact_85 rfl (lv_at hl 0 rfl) ?_
        refine va_calll (va_runV (As := []) (rest := []) ⟨hx, hb, hml, hown, hts⟩ (c_X8_deadline l dC dI g A hG f a_23 i_24) (cwV 0 hts (gi_V (fun w_ h0_ => ⟨List.mem_cons_of_mem _ (List.mem_append_right _ (List.mem_append_right _ (List.mem_append_right _ (List.mem_append_right _ (List.mem_append_right _ (List.mem_append_right _ (List.mem_append_left _ h0_))))))), (tb_c_X8_deadline w_ h0_).2⟩) (List.mem_cons_of_mem _ (List.mem_append_left _ (List.mem_of_getElem? (i := 11) rfl))) (List.mem_cons_of_mem _ (List.mem_append_left _ (List.mem_of_getElem? (i := 12) rfl))) (List.mem_cons_of_mem _ (List.mem_append_left _ (List.mem_of_getElem? (i := 13) rfl))) (List.mem_cons_of_mem _ (List.mem_append_left _ (List.mem_of_getElem? (i := 9) rfl)))) rfl rfl rfl (by decide +kernel) ⟨Nat.le_of_ble_eq_true rfl, Nat.le_of_ble_eq_true rfl⟩) ⟨fun a U g mk q => ⟨q.1, q.2.calling rfl rfl⟩, k_recv hK hI i_24.1 k_25 (ci := 8) rfl, fun U hU hW => ⟨rfl, kIn.of hI hK hE hS hU hW⟩⟩ rfl rfl hl.1 rfl (lv_room (Nat.le_of_ble_eq_true rfl)) dX11_exact_86 ⟨Nat.le_of_ble_eq_true rfl, Nat.le_of_ble_eq_true rfl⟩) hS (fun q _ h => h) (fun q h => h) (fun r_48 u t H1 locs ht hvm w_47 hB hz1 hk1 hS => ?_)
        have hI : Iv dC dI g A f t.heap := hB
        rw [ht] at hI
        generalize H1 = H at hI hS ⊢
        refine W.widen (k := 0) (n := 0) (Nat.le_of_ble_eq_true rfl) (Nat.le_of_ble_eq_true rfl) ?_
        exact W.lret (v := r_48) hx hb hr (fun t ht hW => ⟨⟨r_48, (), rfl, trivial, ⟨f, k_ret ht hI, hk0⟩⟩, hS.F ht⟩) hS.2.2 dX11_exact_89
      by_cases h_49 : p2 = 2
      · refine k_topi (y := 2) h_49 ?_
        refine lv_tableIn (tgt := 90) hx hb dX11_exact_52 (by decide) (by decide) rfl (by decide) ?_
        have h_49 := kc_eq rfl (by decide : Int32.toInt 2 = 2) h_49
        refine lv_aload_n hx hb dX11_exact_90 rfl (lv_at hl 1 rfl) ?_
        refine k_get (ci := 11) (v := .ref (gr g h0 3)) (C := RX11) (T := TX11) (N := 12) hx hb hts (fun _ h0_ => List.mem_cons_of_mem _ (List.mem_append_right _ (List.mem_append_left _ h0_))) hown hK hI i_h0.1 k_1 rfl 3 (by decide) (hts (.fieldLink RX11 37 "DeadlineShare" "now" "LDeadlineShare$State;") (List.mem_cons_of_mem _ (List.mem_append_left _ (List.mem_of_getElem? (i := 0) rfl)))) (fun _ h9 => h9) rfl dX11_exact_91 ?_
        refine lv_aload_n hx hb dX11_exact_94 rfl (lv_at hl 0 rfl) ?_
        refine va_calll (va_runV (As := [.ref a_23]) (rest := []) ⟨hx, hb, hml, hown, hts⟩ (c_X6_lagTimesW l dC dI g A hG f (gr g h0 3) a_23 i_4 i_24) (cwV 1 hts (gi_V (fun w_ h0_ => ⟨List.mem_cons_of_mem _ (List.mem_append_right _ (List.mem_append_right _ (List.mem_append_right _ (List.mem_append_right _ (List.mem_append_right _ (List.mem_append_right _ (List.mem_append_right _ (List.mem_append_left _ h0_)))))))), (tb_c_X6_lagTimesW w_ h0_).2⟩) (List.mem_cons_of_mem _ (List.mem_append_left _ (List.mem_of_getElem? (i := 14) rfl))) (List.mem_cons_of_mem _ (List.mem_append_left _ (List.mem_of_getElem? (i := 15) rfl))) (List.mem_cons_of_mem _ (List.mem_append_left _ (List.mem_of_getElem? (i := 16) rfl))) (List.mem_cons_of_mem _ (List.mem_append_left _ (List.mem_of_getElem? (i := 4) rfl)))) rfl rfl rfl (by decide +kernel) ⟨Nat.le_of_ble_eq_true rfl, Nat.le_of_ble_eq_true rfl⟩) ⟨fun a U g mk q => ⟨q.1, q.2.calling rfl rfl⟩, k_recv hK hI i_4.1 k_5 (ci := 6) rfl, fun U hU hW => ⟨rfl, kIn.of hI hK hE hS hU hW⟩⟩ rfl rfl hl.1 rfl (lv_room (Nat.le_of_ble_eq_true rfl)) dX11_exact_95 ⟨Nat.le_of_ble_eq_true rfl, Nat.le_of_ble_eq_true rfl⟩) hS (fun q _ h => h) (fun q h => h) (fun r_54 u t H1 locs ht hvm w_53 hB hz1 hk1 hS => ?_)
        obtain ⟨f_52, hI, kc_55⟩ := hB
        rw [ht] at hI
        have k_56 : f_52 h0 = .inr (11, [.ref (gr g h0 0), .ref (gr g h0 1), .ref (gr g h0 2), .ref (gr g h0 3), .ref (gr g h0 4), .ref (gr g h0 5), .ref (gr g h0 6), .ref (gr g h0 7), .ref (gr g h0 8), .ref (gr g h0 9), .ref (gr g h0 10), .int x_2]) := Kp.at kc_55 i_h0 (by decide) k_1
        have k_57 : f_52 (gr g h0 3) = .inr (6, [.ref (gr g (gr g h0 3) 0), .ref (gr g (gr g h0 3) 1), .ref (gr g (gr g h0 3) 2), .ref (gr g (gr g h0 3) 3), .ref (gr g (gr g h0 3) 4), .int x_6, .int x_7, .long x_8, .int x_9, .int x_10]) := Kp.at kc_55 i_4 (by decide) k_5
        have k_58 : f_52 (gr g (gr g h0 3) 1) = .inl (gc g 4, 12, .inr (.inr (.inr (.inr q_21)))) := Kp.at kc_55 i_19 (by decide) k_20
        have k_59 : f_52 a_23 = .inr (8, [.int x_26, .ref (gr g a_23 1), .int x_27, .int x_28, .int x_29, .long x_30, .int x_31, .ref (gr g a_23 7), .int x_32, .int x_33, .int x_34, .int x_35, .int x_36, .int x_37, .int x_38, .int x_39, .int x_40, .int x_41]) := Kp.at kc_55 i_24 (by decide) k_25
        have kp_60 := Kp.call hk0 kc_55 (by decide)
        generalize H1 = H at hI hS ⊢
        refine W.widen (k := 0) (n := 0) (Nat.le_of_ble_eq_true rfl) (Nat.le_of_ble_eq_true rfl) ?_
        exact W.lret (v := r_54) hx hb hr (fun t ht hW => ⟨⟨r_54, (), rfl, trivial, ⟨f_52, k_ret ht hI, kp_60⟩⟩, hS.F ht⟩) hS.2.2 dX11_exact_98
      have h_45 := kn_eq rfl (by decide : Int32.toInt 0 = 0) h_45
      have h_46 := kn_eq rfl (by decide : Int32.toInt 1 = 1) h_46
      have h_49 := kn_eq rfl (by decide : Int32.toInt 2 = 2) h_49
      refine lv_tableOut (tgt := 99) hx hb dX11_exact_52 (by omega) (by decide) ?_
      refine lv_ldc2 hx hb hown (hts (.constantLong RX11 245 (-9223372036854775808)) (List.mem_cons_of_mem _ (List.mem_append_left _ (List.mem_of_getElem? (i := 17) rfl)))) dX11_exact_99 ?_
      exact W.lret (v := (-9223372036854775808)) hx hb hr (fun t ht hW => ⟨⟨(-9223372036854775808), (), rfl, trivial, ⟨f, k_ret ht hI, hk0⟩⟩, hS.F ht⟩) hS.2.2 dX11_exact_102
    · have c_44 := kc_eq rfl (by decide : Int32.toInt 0 = 0) c_44
      refine lv_iload_n hx hb dX11_exact_32 rfl (lv_at hl 3 rfl) ?_
      refine lv_iconst (v := 3) hx hb dX11_exact_33 (by decide) ?_
      refine lv_icmp_ne (tgt := 47) hx hb dX11_exact_34 (by decide) (fun c_61 => ?_) (fun c_61 => ?_)
      · have c_61 := kn_eq rfl (by decide : Int32.toInt 3 = 3) c_61
        refine lv_ldc2 hx hb hown (hts (.constantLong RX11 245 (-9223372036854775808)) (List.mem_cons_of_mem _ (List.mem_append_left _ (List.mem_of_getElem? (i := 17) rfl)))) dX11_exact_47 ?_
        exact W.lret (v := (-9223372036854775808)) hx hb hr (fun t ht hW => ⟨⟨(-9223372036854775808), (), rfl, trivial, ⟨f, k_ret ht hI, hk0⟩⟩, hS.F ht⟩) hS.2.2 dX11_exact_50
      · have c_61 := kc_eq rfl (by decide : Int32.toInt 3 = 3) c_61
        refine lv_aload_n hx hb dX11_exact_37 rfl (lv_at hl 0 rfl) ?_
        refine k_get (ci := 8) (v := .ref (gr g a_23 7)) (C := RX8) (T := TX8) (N := 18) hx hb hts (fun _ h0_ => List.mem_cons_of_mem _ (List.mem_append_right _ (List.mem_append_right _ (List.mem_append_right _ (List.mem_append_right _ (List.mem_append_right _ (List.mem_append_left _ h0_))))))) hown hK hI i_24.1 k_25 rfl 7 (by decide) (hts (.fieldLink RX11 247 "DeadlineShare$Task" "lag" "LDeadlineShare$Wide;") (List.mem_cons_of_mem _ (List.mem_append_left _ (List.mem_of_getElem? (i := 18) rfl)))) (fun _ h9 => h9) rfl dX11_exact_38 ?_
        have i_63 := kw_8_7 hG i_24
        obtain ⟨x_65, x_66, k_64⟩ := op_10 hI i_63
        refine va_calll (va_runV (As := []) (rest := []) ⟨hx, hb, hml, hown, hts⟩ (c_X10_asLong l dC dI g A hG f (gr g a_23 7) i_63) (cwV 0 hts (gi_V (fun w_ h0_ => ⟨List.mem_cons_of_mem _ (List.mem_append_right _ (List.mem_append_right _ (List.mem_append_right _ (List.mem_append_right _ (List.mem_append_right _ (List.mem_append_right _ (List.mem_append_right _ (List.mem_append_right _ (List.mem_append_left _ h0_))))))))), (tb_c_X10_asLong w_ h0_).2⟩) (List.mem_cons_of_mem _ (List.mem_append_left _ (List.mem_of_getElem? (i := 19) rfl))) (List.mem_cons_of_mem _ (List.mem_append_left _ (List.mem_of_getElem? (i := 20) rfl))) (List.mem_cons_of_mem _ (List.mem_append_left _ (List.mem_of_getElem? (i := 21) rfl))) (List.mem_cons_of_mem _ (List.mem_append_left _ (List.mem_of_getElem? (i := 22) rfl)))) rfl rfl rfl (by decide +kernel) ⟨Nat.le_of_ble_eq_true rfl, Nat.le_of_ble_eq_true rfl⟩) ⟨fun a U g mk q => ⟨q.1, q.2.calling rfl rfl⟩, k_recv hK hI i_63.1 k_64 (ci := 10) rfl, fun U hU hW => ⟨rfl, kIn.of hI hK hE hS hU hW⟩⟩ rfl rfl hl.1 rfl (lv_room (Nat.le_of_ble_eq_true rfl)) dX11_exact_41 ⟨Nat.le_of_ble_eq_true rfl, Nat.le_of_ble_eq_true rfl⟩) hS (fun q _ h => h) (fun q h => h) (fun r_68 u t H1 locs ht hvm w_67 hB hz1 hk1 hS => ?_)
        have hI : Iv dC dI g A f t.heap := hB
        rw [ht] at hI
        generalize H1 = H at hI hS ⊢
        refine W.widen (k := 0) (n := 0) (Nat.le_of_ble_eq_true rfl) (Nat.le_of_ble_eq_true rfl) ?_
        refine lv_goto (tgt := 50) hx hb dX11_exact_44 (by decide) ?_
        exact W.lret (v := r_68) hx hb hr (fun t ht hW => ⟨⟨r_68, (), rfl, trivial, ⟨f, k_ret ht hI, hk0⟩⟩, hS.F ht⟩) hS.2.2 dX11_exact_50
  · have c_15 := kc_eq rfl (by decide : Int32.toInt 0 = 0) c_15
    refine lv_ldc2 hx hb hown (hts (.constantLong RX11 245 (-9223372036854775808)) (List.mem_cons_of_mem _ (List.mem_append_left _ (List.mem_of_getElem? (i := 17) rfl)))) dX11_exact_11 ?_
    exact W.lret (v := (-9223372036854775808)) hx hb hr (fun t ht hW => ⟨⟨(-9223372036854775808), (), rfl, trivial, ⟨f, k_ret ht hI, hk0⟩⟩, hS.F ht⟩) hS.2.2 dX11_exact_14
theorem tw_645 : q_g (.selects RX6 yX6_restOfV yX6_restOfV) := ⟨(List.mem_append_right _ (List.mem_of_getElem? (i := 927) (by decide +kernel))), good_of_word (by decide +kernel)⟩
theorem tw_646 : q_g (.instanceMethod yX6_restOfV) := ⟨(List.mem_append_right _ (List.mem_of_getElem? (i := 926) (by decide +kernel))), good_of_word (by decide +kernel)⟩
theorem tw_647 : q_g (.methodLink RX11 271 yX6_restOfV) := ⟨(List.mem_append_right _ (List.mem_of_getElem? (i := 925) (by decide +kernel))), good_of_word (by decide +kernel)⟩
theorem tw_648 : q_g (.methodLink RX11 268 yX6_wholeV) := ⟨(List.mem_append_right _ (List.mem_of_getElem? (i := 924) (by decide +kernel))), good_of_word (by decide +kernel)⟩
theorem tw_649 : q_g (.code yX11_time cX11_time 2 (some .long)) := ⟨(List.mem_append_right _ (List.mem_of_getElem? (i := 923) (by decide +kernel))), good_of_word (by decide +kernel)⟩
def ow_c_X11_time : List Cond := [.fieldLink RX11 37 "DeadlineShare" "now" "LDeadlineShare$State;", .methodLink RX11 268 yX6_wholeV, .instanceMethod yX6_wholeV, .selects RX6 yX6_wholeV yX6_wholeV, .initialized RX6, .methodLink RX11 271 yX6_restOfV, .instanceMethod yX6_restOfV, .selects RX6 yX6_restOfV yX6_restOfV, .methodLink RX11 155 yX6_weightOfAll, .instanceMethod yX6_weightOfAll, .selects RX6 yX6_weightOfAll yX6_weightOfAll, .fieldLink RX11 223 "DeadlineShare$State" "time" "I", .constantLong RX11 245 (-9223372036854775808)]
def wq_c_X11_time : List Cond := .code yX11_time cX11_time 2 (some .long) :: (ow_c_X11_time ++ (u_ws RX11 TX11 12 ++ (wq_c_X6_wholeV ++ (wq_c_X6_restOfV ++ (wq_c_X6_weightOfAll ++ (u_ws RX6 TX6 10 ++ ([] : List Cond)))))))
theorem tb_c_X11_time : ∀ w ∈ wq_c_X11_time, q_g w := by
  unfold wq_c_X11_time ow_c_X11_time
  exact q_cons tw_649 (q_app (q_cons tw_558 (q_cons tw_648 (q_cons tw_67 (q_cons tw_66 (q_cons tw_47 (q_cons tw_647 (q_cons tw_646 (q_cons tw_645 (q_cons tw_564 (q_cons tw_88 (q_cons tw_87 (q_cons tw_617 (q_cons tw_638 q_nil))))))))))))) (q_app tu_X11 (q_app tb_c_X6_wholeV (q_app tb_c_X6_restOfV (q_app tb_c_X6_weightOfAll (q_app tu_X6 q_nil))))))
set_option maxHeartbeats 4000000 in
set_option maxRecDepth 100000 in
theorem c_X11_time (l : Launch) (dC : Nat → ClassId) (dI : Nat → Nat → Nat) (g : kG) (A : Nat → Prop) (hG : kWf g) (f : Nat → va_E) (h0 : Nat) (p1 : Int32) (i_h0 : ik g 11 h0) : Met l yX11_time wq_c_X11_time ({ frames := 3, cells := 0, slots := 0, locals := 69 } : Room) (va_Pc [.ref h0, .int p1] (fun U => kIn dC dI g A f U)) (va_Ql (fun (r : Int64) (_ : Unit) => True) (fun (_ : Unit) t => ∃ f1 : Nat → va_E, Iv dC dI g A f1 t.heap ∧ Kp g [10] f f1) A) 0 0 A := by
  refine Met.ofW (cc := cX11_time) (maxL := 2) (ret := (some .long)) (by decide) rfl ?_
  intro p e s m args below meth c s₁ B hml hv
  obtain ⟨rfl, hI, hK, hE⟩ := hv
  have hx := B.exec
  have hb := B.bytes
  have hr := B.returns
  have hts := atoms_spec (ws := wq_c_X11_time) B.pre
  have hown : s.vm.findClass RX11 = some m.cls := findClass_of_methodNamed B.named
  have hlocks := B.notSynchronized
  have hS : va_S A s.heap s.heap [] := va_S.rf
  have hk0 : Kp g [10] f f := Kp.rf
  have hl := lv_entry ([.ref h0, .int p1]) (n := 2) (Nat.le_of_ble_eq_true rfl)
  rw [lg_entry_eq]
  generalize (lg_sl ([.ref h0, .int p1]) ++ List.replicate (2 - (lg_sl ([.ref h0, .int p1])).length) Slot.unset).toArray = ls at hl ⊢
  have hl : lv_has ls 2 [(0, .ref h0), (1, .int p1)] := hl
  refine lv_iload_n hx hb dX11_time_0 rfl (lv_at hl 1 rfl) ?_
  by_cases h_1 : p1 = 0
  · refine k_topi (y := 0) h_1 ?_
    refine lv_tableIn (tgt := 32) hx hb dX11_time_1 (by decide) (by decide) rfl (by decide) ?_
    have h_1 := kc_eq rfl (by decide : Int32.toInt 0 = 0) h_1
    refine lv_aload_n hx hb dX11_time_32 rfl (lv_at hl 0 rfl) ?_
    obtain ⟨x_3, k_2⟩ := op_11 hI i_h0
    refine k_get (ci := 11) (v := .ref (gr g h0 3)) (C := RX11) (T := TX11) (N := 12) hx hb hts (fun _ h0_ => List.mem_cons_of_mem _ (List.mem_append_right _ (List.mem_append_left _ h0_))) hown hK hI i_h0.1 k_2 rfl 3 (by decide) (hts (.fieldLink RX11 37 "DeadlineShare" "now" "LDeadlineShare$State;") (List.mem_cons_of_mem _ (List.mem_append_left _ (List.mem_of_getElem? (i := 0) rfl)))) (fun _ h9 => h9) rfl dX11_time_33 ?_
    have i_5 := kw_11_3 hG i_h0
    obtain ⟨x_7, x_8, x_9, x_10, x_11, k_6, b_12, b_13⟩ := op_6 hI i_5
    refine va_calll (va_runV (As := []) (rest := []) ⟨hx, hb, hml, hown, hts⟩ (c_X6_wholeV l dC dI g A hG f (gr g h0 3) i_5) (cwV 0 hts (gi_V (fun w_ h0_ => ⟨List.mem_cons_of_mem _ (List.mem_append_right _ (List.mem_append_right _ (List.mem_append_left _ h0_))), (tb_c_X6_wholeV w_ h0_).2⟩) (List.mem_cons_of_mem _ (List.mem_append_left _ (List.mem_of_getElem? (i := 1) rfl))) (List.mem_cons_of_mem _ (List.mem_append_left _ (List.mem_of_getElem? (i := 2) rfl))) (List.mem_cons_of_mem _ (List.mem_append_left _ (List.mem_of_getElem? (i := 3) rfl))) (List.mem_cons_of_mem _ (List.mem_append_left _ (List.mem_of_getElem? (i := 4) rfl)))) rfl rfl rfl (by decide +kernel) ⟨Nat.le_of_ble_eq_true rfl, Nat.le_of_ble_eq_true rfl⟩) ⟨fun a U g mk q => ⟨q.1, q.2.calling rfl rfl⟩, k_recv hK hI i_5.1 k_6 (ci := 6) rfl, fun U hU hW => ⟨rfl, kIn.of hI hK hE hS hU hW⟩⟩ rfl rfl hl.1 rfl (lv_room (Nat.le_of_ble_eq_true rfl)) dX11_time_36 ⟨Nat.le_of_ble_eq_true rfl, Nat.le_of_ble_eq_true rfl⟩) hS (fun q _ h => h) (fun q h => h) (fun r_16 u t H1 locs ht hvm w_15 hB hz1 hk1 hS => ?_)
    obtain ⟨f_14, hI, kc_17⟩ := hB
    rw [ht] at hI
    have k_18 : f_14 h0 = .inr (11, [.ref (gr g h0 0), .ref (gr g h0 1), .ref (gr g h0 2), .ref (gr g h0 3), .ref (gr g h0 4), .ref (gr g h0 5), .ref (gr g h0 6), .ref (gr g h0 7), .ref (gr g h0 8), .ref (gr g h0 9), .ref (gr g h0 10), .int x_3]) := Kp.at kc_17 i_h0 (by decide) k_2
    have k_19 : f_14 (gr g h0 3) = .inr (6, [.ref (gr g (gr g h0 3) 0), .ref (gr g (gr g h0 3) 1), .ref (gr g (gr g h0 3) 2), .ref (gr g (gr g h0 3) 3), .ref (gr g (gr g h0 3) 4), .int x_7, .int x_8, .long x_9, .int x_10, .int x_11]) := Kp.at kc_17 i_5 (by decide) k_6
    have kp_20 := Kp.call hk0 kc_17 (by decide)
    generalize H1 = H at hI hS ⊢
    refine W.widen (k := 0) (n := 0) (Nat.le_of_ble_eq_true rfl) (Nat.le_of_ble_eq_true rfl) ?_
    exact W.lret (v := r_16) hx hb hr (fun t ht hW => ⟨⟨r_16, (), rfl, trivial, ⟨f_14, k_ret ht hI, kp_20⟩⟩, hS.F ht⟩) hS.2.2 dX11_time_39
  by_cases h_21 : p1 = 1
  · refine k_topi (y := 1) h_21 ?_
    refine lv_tableIn (tgt := 40) hx hb dX11_time_1 (by decide) (by decide) rfl (by decide) ?_
    have h_21 := kc_eq rfl (by decide : Int32.toInt 1 = 1) h_21
    refine lv_aload_n hx hb dX11_time_40 rfl (lv_at hl 0 rfl) ?_
    obtain ⟨x_23, k_22⟩ := op_11 hI i_h0
    refine k_get (ci := 11) (v := .ref (gr g h0 3)) (C := RX11) (T := TX11) (N := 12) hx hb hts (fun _ h0_ => List.mem_cons_of_mem _ (List.mem_append_right _ (List.mem_append_left _ h0_))) hown hK hI i_h0.1 k_22 rfl 3 (by decide) (hts (.fieldLink RX11 37 "DeadlineShare" "now" "LDeadlineShare$State;") (List.mem_cons_of_mem _ (List.mem_append_left _ (List.mem_of_getElem? (i := 0) rfl)))) (fun _ h9 => h9) rfl dX11_time_41 ?_
    have i_25 := kw_11_3 hG i_h0
    obtain ⟨x_27, x_28, x_29, x_30, x_31, k_26, b_32, b_33⟩ := op_6 hI i_25
    refine va_calll (va_runV (As := []) (rest := []) ⟨hx, hb, hml, hown, hts⟩ (c_X6_restOfV l dC dI g A hG f (gr g h0 3) i_25) (cwV 0 hts (gi_V (fun w_ h0_ => ⟨List.mem_cons_of_mem _ (List.mem_append_right _ (List.mem_append_right _ (List.mem_append_right _ (List.mem_append_left _ h0_)))), (tb_c_X6_restOfV w_ h0_).2⟩) (List.mem_cons_of_mem _ (List.mem_append_left _ (List.mem_of_getElem? (i := 5) rfl))) (List.mem_cons_of_mem _ (List.mem_append_left _ (List.mem_of_getElem? (i := 6) rfl))) (List.mem_cons_of_mem _ (List.mem_append_left _ (List.mem_of_getElem? (i := 7) rfl))) (List.mem_cons_of_mem _ (List.mem_append_left _ (List.mem_of_getElem? (i := 4) rfl)))) rfl rfl rfl (by decide +kernel) ⟨Nat.le_of_ble_eq_true rfl, Nat.le_of_ble_eq_true rfl⟩) ⟨fun a U g mk q => ⟨q.1, q.2.calling rfl rfl⟩, k_recv hK hI i_25.1 k_26 (ci := 6) rfl, fun U hU hW => ⟨rfl, kIn.of hI hK hE hS hU hW⟩⟩ rfl rfl hl.1 rfl (lv_room (Nat.le_of_ble_eq_true rfl)) dX11_time_44 ⟨Nat.le_of_ble_eq_true rfl, Nat.le_of_ble_eq_true rfl⟩) hS (fun q _ h => h) (fun q h => h) (fun r_36 u t H1 locs ht hvm w_35 hB hz1 hk1 hS => ?_)
    obtain ⟨f_34, hI, kc_37⟩ := hB
    rw [ht] at hI
    have k_38 : f_34 h0 = .inr (11, [.ref (gr g h0 0), .ref (gr g h0 1), .ref (gr g h0 2), .ref (gr g h0 3), .ref (gr g h0 4), .ref (gr g h0 5), .ref (gr g h0 6), .ref (gr g h0 7), .ref (gr g h0 8), .ref (gr g h0 9), .ref (gr g h0 10), .int x_23]) := Kp.at kc_37 i_h0 (by decide) k_22
    have k_39 : f_34 (gr g h0 3) = .inr (6, [.ref (gr g (gr g h0 3) 0), .ref (gr g (gr g h0 3) 1), .ref (gr g (gr g h0 3) 2), .ref (gr g (gr g h0 3) 3), .ref (gr g (gr g h0 3) 4), .int x_27, .int x_28, .long x_29, .int x_30, .int x_31]) := Kp.at kc_37 i_25 (by decide) k_26
    have kp_40 := Kp.call hk0 kc_37 (by decide)
    generalize H1 = H at hI hS ⊢
    refine W.widen (k := 0) (n := 0) (Nat.le_of_ble_eq_true rfl) (Nat.le_of_ble_eq_true rfl) ?_
    exact W.lret (v := r_36) hx hb hr (fun t ht hW => ⟨⟨r_36, (), rfl, trivial, ⟨f_34, k_ret ht hI, kp_40⟩⟩, hS.F ht⟩) hS.2.2 dX11_time_47
  by_cases h_41 : p1 = 2
  · refine k_topi (y := 2) h_41 ?_
    refine lv_tableIn (tgt := 48) hx hb dX11_time_1 (by decide) (by decide) rfl (by decide) ?_
    have h_41 := kc_eq rfl (by decide : Int32.toInt 2 = 2) h_41
    refine lv_aload_n hx hb dX11_time_48 rfl (lv_at hl 0 rfl) ?_
    obtain ⟨x_43, k_42⟩ := op_11 hI i_h0
    refine k_get (ci := 11) (v := .ref (gr g h0 3)) (C := RX11) (T := TX11) (N := 12) hx hb hts (fun _ h0_ => List.mem_cons_of_mem _ (List.mem_append_right _ (List.mem_append_left _ h0_))) hown hK hI i_h0.1 k_42 rfl 3 (by decide) (hts (.fieldLink RX11 37 "DeadlineShare" "now" "LDeadlineShare$State;") (List.mem_cons_of_mem _ (List.mem_append_left _ (List.mem_of_getElem? (i := 0) rfl)))) (fun _ h9 => h9) rfl dX11_time_49 ?_
    have i_45 := kw_11_3 hG i_h0
    obtain ⟨x_47, x_48, x_49, x_50, x_51, k_46, b_52, b_53⟩ := op_6 hI i_45
    refine va_calli (va_runV (As := []) (rest := []) ⟨hx, hb, hml, hown, hts⟩ (c_X6_weightOfAll l dC dI g A hG f (gr g h0 3) i_45) (cwV 0 hts (gi_V (fun w_ h0_ => ⟨List.mem_cons_of_mem _ (List.mem_append_right _ (List.mem_append_right _ (List.mem_append_right _ (List.mem_append_right _ (List.mem_append_left _ h0_))))), (tb_c_X6_weightOfAll w_ h0_).2⟩) (List.mem_cons_of_mem _ (List.mem_append_left _ (List.mem_of_getElem? (i := 8) rfl))) (List.mem_cons_of_mem _ (List.mem_append_left _ (List.mem_of_getElem? (i := 9) rfl))) (List.mem_cons_of_mem _ (List.mem_append_left _ (List.mem_of_getElem? (i := 10) rfl))) (List.mem_cons_of_mem _ (List.mem_append_left _ (List.mem_of_getElem? (i := 4) rfl)))) rfl rfl rfl (by decide +kernel) ⟨Nat.le_of_ble_eq_true rfl, Nat.le_of_ble_eq_true rfl⟩) ⟨fun a U g mk q => ⟨q.1, q.2.calling rfl rfl⟩, k_recv hK hI i_45.1 k_46 (ci := 6) rfl, fun U hU hW => ⟨rfl, kIn.of hI hK hE hS hU hW⟩⟩ rfl rfl hl.1 rfl (lv_room (Nat.le_of_ble_eq_true rfl)) dX11_time_52 ⟨Nat.le_of_ble_eq_true rfl, Nat.le_of_ble_eq_true rfl⟩) hS (fun q _ h => h) (fun q h => h) (fun r_55 u t H1 locs ht hvm w_54 hB hz1 hk1 hS => ?_)
    have hI : Iv dC dI g A f t.heap := hB
    rw [ht] at hI
    generalize H1 = H at hI hS ⊢
    refine W.widen (k := 0) (n := 0) (Nat.le_of_ble_eq_true rfl) (Nat.le_of_ble_eq_true rfl) ?_
    refine lv_i2l (v := r_55.toInt64) hx hb dX11_time_55 rfl ?_
    have t_56 := Int32.toInt_toInt64 r_55
    exact W.lret (v := r_55.toInt64) hx hb hr (fun t ht hW => ⟨⟨r_55.toInt64, (), rfl, trivial, ⟨f, k_ret ht hI, hk0⟩⟩, hS.F ht⟩) hS.2.2 dX11_time_56
  by_cases h_57 : p1 = 3
  · refine k_topi (y := 3) h_57 ?_
    refine lv_tableIn (tgt := 57) hx hb dX11_time_1 (by decide) (by decide) rfl (by decide) ?_
    have h_57 := kc_eq rfl (by decide : Int32.toInt 3 = 3) h_57
    refine lv_aload_n hx hb dX11_time_57 rfl (lv_at hl 0 rfl) ?_
    obtain ⟨x_59, k_58⟩ := op_11 hI i_h0
    refine k_get (ci := 11) (v := .ref (gr g h0 3)) (C := RX11) (T := TX11) (N := 12) hx hb hts (fun _ h0_ => List.mem_cons_of_mem _ (List.mem_append_right _ (List.mem_append_left _ h0_))) hown hK hI i_h0.1 k_58 rfl 3 (by decide) (hts (.fieldLink RX11 37 "DeadlineShare" "now" "LDeadlineShare$State;") (List.mem_cons_of_mem _ (List.mem_append_left _ (List.mem_of_getElem? (i := 0) rfl)))) (fun _ h9 => h9) rfl dX11_time_58 ?_
    have i_61 := kw_11_3 hG i_h0
    obtain ⟨x_63, x_64, x_65, x_66, x_67, k_62, b_68, b_69⟩ := op_6 hI i_61
    refine k_get (ci := 6) (v := .int x_64) (C := RX6) (T := TX6) (N := 10) hx hb hts (fun _ h0_ => List.mem_cons_of_mem _ (List.mem_append_right _ (List.mem_append_right _ (List.mem_append_right _ (List.mem_append_right _ (List.mem_append_right _ (List.mem_append_left _ h0_))))))) hown hK hI i_61.1 k_62 rfl 6 (by decide) (hts (.fieldLink RX11 223 "DeadlineShare$State" "time" "I") (List.mem_cons_of_mem _ (List.mem_append_left _ (List.mem_of_getElem? (i := 11) rfl)))) (fun _ h9 => h9) rfl dX11_time_61 ?_
    refine lv_i2l (v := x_64.toInt64) hx hb dX11_time_64 rfl ?_
    have t_70 := Int32.toInt_toInt64 x_64
    exact W.lret (v := x_64.toInt64) hx hb hr (fun t ht hW => ⟨⟨x_64.toInt64, (), rfl, trivial, ⟨f, k_ret ht hI, hk0⟩⟩, hS.F ht⟩) hS.2.2 dX11_time_65
  have h_1 := kn_eq rfl (by decide : Int32.toInt 0 = 0) h_1
  have h_21 := kn_eq rfl (by decide : Int32.toInt 1 = 1) h_21
  have h_41 := kn_eq rfl (by decide : Int32.toInt 2 = 2) h_41
  have h_57 := kn_eq rfl (by decide : Int32.toInt 3 = 3) h_57
  refine lv_tableOut (tgt := 66) hx hb dX11_time_1 (by omega) (by decide) ?_
  refine lv_ldc2 hx hb hown (hts (.constantLong RX11 245 (-9223372036854775808)) (List.mem_cons_of_mem _ (List.mem_append_left _ (List.mem_of_getElem? (i := 12) rfl)))) dX11_time_66 ?_
  exact W.lret (v := (-9223372036854775808)) hx hb hr (fun t ht hW => ⟨⟨(-9223372036854775808), (), rfl, trivial, ⟨f, k_ret ht hI, hk0⟩⟩, hS.F ht⟩) hS.2.2 dX11_time_69
theorem tw_650 : q_g (.methodLink RX11 274 yX6_eligibleBits) := ⟨(List.mem_append_right _ (List.mem_of_getElem? (i := 937) (by decide +kernel))), good_of_word (by decide +kernel)⟩
theorem tw_651 : q_g (.code yX11_eligible cX11_eligible 1 (some .int)) := ⟨(List.mem_append_right _ (List.mem_of_getElem? (i := 936) (by decide +kernel))), good_of_word (by decide +kernel)⟩
def ow_c_X11_eligible : List Cond := [.fieldLink RX11 37 "DeadlineShare" "now" "LDeadlineShare$State;", .methodLink RX11 274 yX6_eligibleBits, .instanceMethod yX6_eligibleBits, .selects RX6 yX6_eligibleBits yX6_eligibleBits, .initialized RX6]
def wq_c_X11_eligible : List Cond := .code yX11_eligible cX11_eligible 1 (some .int) :: (ow_c_X11_eligible ++ (u_ws RX11 TX11 12 ++ (wq_c_X6_eligibleBits ++ ([] : List Cond))))
theorem tb_c_X11_eligible : ∀ w ∈ wq_c_X11_eligible, q_g w := by
  unfold wq_c_X11_eligible ow_c_X11_eligible
  exact q_cons tw_651 (q_app (q_cons tw_558 (q_cons tw_650 (q_cons tw_396 (q_cons tw_395 (q_cons tw_47 q_nil))))) (q_app tu_X11 (q_app tb_c_X6_eligibleBits q_nil)))
set_option maxHeartbeats 4000000 in
set_option maxRecDepth 100000 in
theorem c_X11_eligible (l : Launch) (dC : Nat → ClassId) (dI : Nat → Nat → Nat) (g : kG) (A : Nat → Prop) (hG : kWf g) (f : Nat → va_E) (h0 : Nat) (i_h0 : ik g 11 h0) : Met l yX11_eligible wq_c_X11_eligible ({ frames := 4, cells := 0, slots := 0, locals := 93 } : Room) (va_Pc [.ref h0] (fun U => kIn dC dI g A f U)) (va_Qi (fun (r : Int32) (_ : Unit) => True) (fun (_ : Unit) t => ∃ f1 : Nat → va_E, Iv dC dI g A f1 t.heap ∧ Kp g [10] f f1) A) 0 0 A := by
  refine Met.ofW (cc := cX11_eligible) (maxL := 1) (ret := (some .int)) (by decide) rfl ?_
  intro p e s m args below meth c s₁ B hml hv
  obtain ⟨rfl, hI, hK, hE⟩ := hv
  have hx := B.exec
  have hb := B.bytes
  have hr := B.returns
  have hts := atoms_spec (ws := wq_c_X11_eligible) B.pre
  have hown : s.vm.findClass RX11 = some m.cls := findClass_of_methodNamed B.named
  have hlocks := B.notSynchronized
  have hS : va_S A s.heap s.heap [] := va_S.rf
  have hk0 : Kp g [10] f f := Kp.rf
  have hl := lv_entry ([.ref h0]) (n := 1) (Nat.le_of_ble_eq_true rfl)
  rw [lg_entry_eq]
  generalize (lg_sl ([.ref h0]) ++ List.replicate (1 - (lg_sl ([.ref h0])).length) Slot.unset).toArray = ls at hl ⊢
  have hl : lv_has ls 1 [(0, .ref h0)] := hl
  refine lv_aload_n hx hb dX11_eligible_0 rfl (lv_at hl 0 rfl) ?_
  obtain ⟨x_2, k_1⟩ := op_11 hI i_h0
  refine k_get (ci := 11) (v := .ref (gr g h0 3)) (C := RX11) (T := TX11) (N := 12) hx hb hts (fun _ h0_ => List.mem_cons_of_mem _ (List.mem_append_right _ (List.mem_append_left _ h0_))) hown hK hI i_h0.1 k_1 rfl 3 (by decide) (hts (.fieldLink RX11 37 "DeadlineShare" "now" "LDeadlineShare$State;") (List.mem_cons_of_mem _ (List.mem_append_left _ (List.mem_of_getElem? (i := 0) rfl)))) (fun _ h9 => h9) rfl dX11_eligible_1 ?_
  have i_4 := kw_11_3 hG i_h0
  obtain ⟨x_6, x_7, x_8, x_9, x_10, k_5, b_11, b_12⟩ := op_6 hI i_4
  refine va_calli (va_runV (As := []) (rest := []) ⟨hx, hb, hml, hown, hts⟩ (c_X6_eligibleBits l dC dI g A hG f (gr g h0 3) i_4) (cwV 0 hts (gi_V (fun w_ h0_ => ⟨List.mem_cons_of_mem _ (List.mem_append_right _ (List.mem_append_right _ (List.mem_append_left _ h0_))), (tb_c_X6_eligibleBits w_ h0_).2⟩) (List.mem_cons_of_mem _ (List.mem_append_left _ (List.mem_of_getElem? (i := 1) rfl))) (List.mem_cons_of_mem _ (List.mem_append_left _ (List.mem_of_getElem? (i := 2) rfl))) (List.mem_cons_of_mem _ (List.mem_append_left _ (List.mem_of_getElem? (i := 3) rfl))) (List.mem_cons_of_mem _ (List.mem_append_left _ (List.mem_of_getElem? (i := 4) rfl)))) rfl rfl rfl (by decide +kernel) ⟨Nat.le_of_ble_eq_true rfl, Nat.le_of_ble_eq_true rfl⟩) ⟨fun a U g mk q => ⟨q.1, q.2.calling rfl rfl⟩, k_recv hK hI i_4.1 k_5 (ci := 6) rfl, fun U hU hW => ⟨rfl, kIn.of hI hK hE hS hU hW⟩⟩ rfl rfl hl.1 rfl (lv_room (Nat.le_of_ble_eq_true rfl)) dX11_eligible_4 ⟨Nat.le_of_ble_eq_true rfl, Nat.le_of_ble_eq_true rfl⟩) hS (fun q _ h => h) (fun q h => h) (fun r_15 u t H1 locs ht hvm w_14 hB hz1 hk1 hS => ?_)
  obtain ⟨f_13, hI, kc_16⟩ := hB
  rw [ht] at hI
  have k_17 : f_13 h0 = .inr (11, [.ref (gr g h0 0), .ref (gr g h0 1), .ref (gr g h0 2), .ref (gr g h0 3), .ref (gr g h0 4), .ref (gr g h0 5), .ref (gr g h0 6), .ref (gr g h0 7), .ref (gr g h0 8), .ref (gr g h0 9), .ref (gr g h0 10), .int x_2]) := Kp.at kc_16 i_h0 (by decide) k_1
  have k_18 : f_13 (gr g h0 3) = .inr (6, [.ref (gr g (gr g h0 3) 0), .ref (gr g (gr g h0 3) 1), .ref (gr g (gr g h0 3) 2), .ref (gr g (gr g h0 3) 3), .ref (gr g (gr g h0 3) 4), .int x_6, .int x_7, .long x_8, .int x_9, .int x_10]) := Kp.at kc_16 i_4 (by decide) k_5
  have kp_19 := Kp.call hk0 kc_16 (by decide)
  generalize H1 = H at hI hS ⊢
  refine W.widen (k := 0) (n := 0) (Nat.le_of_ble_eq_true rfl) (Nat.le_of_ble_eq_true rfl) ?_
  exact W.iret (v := r_15) hx hb hr (fun t ht hW => ⟨⟨r_15, (), rfl, trivial, ⟨f_13, k_ret ht hI, kp_19⟩⟩, hS.F ht⟩) hS.2.2 dX11_eligible_7
theorem tw_652 : q_g (.selects RX6 yX6_eligibleAt yX6_eligibleAt) := ⟨(List.mem_append_right _ (List.mem_of_getElem? (i := 947) (by decide +kernel))), good_of_word (by decide +kernel)⟩
theorem tw_653 : q_g (.instanceMethod yX6_eligibleAt) := ⟨(List.mem_append_right _ (List.mem_of_getElem? (i := 946) (by decide +kernel))), good_of_word (by decide +kernel)⟩
theorem tw_654 : q_g (.methodLink RX11 277 yX6_eligibleAt) := ⟨(List.mem_append_right _ (List.mem_of_getElem? (i := 945) (by decide +kernel))), good_of_word (by decide +kernel)⟩
theorem tw_655 : q_g (.code yX11_earliest cX11_earliest 2 (some .int)) := ⟨(List.mem_append_right _ (List.mem_of_getElem? (i := 944) (by decide +kernel))), good_of_word (by decide +kernel)⟩
def ow_c_X11_earliest : List Cond := [.fieldLink RX11 37 "DeadlineShare" "now" "LDeadlineShare$State;", .methodLink RX11 277 yX6_eligibleAt, .instanceMethod yX6_eligibleAt, .selects RX6 yX6_eligibleAt yX6_eligibleAt, .initialized RX6]
def wq_c_X11_earliest : List Cond := .code yX11_earliest cX11_earliest 2 (some .int) :: (ow_c_X11_earliest ++ (u_ws RX11 TX11 12 ++ (wq_c_X6_eligibleAt ++ ([] : List Cond))))
theorem tb_c_X11_earliest : ∀ w ∈ wq_c_X11_earliest, q_g w := by
  unfold wq_c_X11_earliest ow_c_X11_earliest
  exact q_cons tw_655 (q_app (q_cons tw_558 (q_cons tw_654 (q_cons tw_653 (q_cons tw_652 (q_cons tw_47 q_nil))))) (q_app tu_X11 (q_app tb_c_X6_eligibleAt q_nil)))
set_option maxHeartbeats 4000000 in
set_option maxRecDepth 100000 in
theorem c_X11_earliest (l : Launch) (dC : Nat → ClassId) (dI : Nat → Nat → Nat) (g : kG) (A : Nat → Prop) (hG : kWf g) (f : Nat → va_E) (h0 : Nat) (p1 : Int32) (i_h0 : ik g 11 h0) : Met l yX11_earliest wq_c_X11_earliest ({ frames := 5, cells := 0, slots := 0, locals := 116 } : Room) (va_Pc [.ref h0, .int p1] (fun U => kIn dC dI g A f U)) (va_Qi (fun (r : Int32) (_ : Unit) => True) (fun (_ : Unit) t => ∃ f1 : Nat → va_E, Iv dC dI g A f1 t.heap ∧ Kp g [10] f f1) A) 0 0 A := by
  refine Met.ofW (cc := cX11_earliest) (maxL := 2) (ret := (some .int)) (by decide) rfl ?_
  intro p e s m args below meth c s₁ B hml hv
  obtain ⟨rfl, hI, hK, hE⟩ := hv
  have hx := B.exec
  have hb := B.bytes
  have hr := B.returns
  have hts := atoms_spec (ws := wq_c_X11_earliest) B.pre
  have hown : s.vm.findClass RX11 = some m.cls := findClass_of_methodNamed B.named
  have hlocks := B.notSynchronized
  have hS : va_S A s.heap s.heap [] := va_S.rf
  have hk0 : Kp g [10] f f := Kp.rf
  have hl := lv_entry ([.ref h0, .int p1]) (n := 2) (Nat.le_of_ble_eq_true rfl)
  rw [lg_entry_eq]
  generalize (lg_sl ([.ref h0, .int p1]) ++ List.replicate (2 - (lg_sl ([.ref h0, .int p1])).length) Slot.unset).toArray = ls at hl ⊢
  have hl : lv_has ls 2 [(0, .ref h0), (1, .int p1)] := hl
  refine lv_aload_n hx hb dX11_earliest_0 rfl (lv_at hl 0 rfl) ?_
  obtain ⟨x_2, k_1⟩ := op_11 hI i_h0
  refine k_get (ci := 11) (v := .ref (gr g h0 3)) (C := RX11) (T := TX11) (N := 12) hx hb hts (fun _ h0_ => List.mem_cons_of_mem _ (List.mem_append_right _ (List.mem_append_left _ h0_))) hown hK hI i_h0.1 k_1 rfl 3 (by decide) (hts (.fieldLink RX11 37 "DeadlineShare" "now" "LDeadlineShare$State;") (List.mem_cons_of_mem _ (List.mem_append_left _ (List.mem_of_getElem? (i := 0) rfl)))) (fun _ h9 => h9) rfl dX11_earliest_1 ?_
  have i_4 := kw_11_3 hG i_h0
  refine lv_iload_n hx hb dX11_earliest_4 rfl (lv_at hl 1 rfl) ?_
  obtain ⟨x_6, x_7, x_8, x_9, x_10, k_5, b_11, b_12⟩ := op_6 hI i_4
  refine va_calli (va_runV (As := [.int p1]) (rest := []) ⟨hx, hb, hml, hown, hts⟩ (c_X6_eligibleAt l dC dI g A hG f (gr g h0 3) p1 i_4) (cwV 1 hts (gi_V (fun w_ h0_ => ⟨List.mem_cons_of_mem _ (List.mem_append_right _ (List.mem_append_right _ (List.mem_append_left _ h0_))), (tb_c_X6_eligibleAt w_ h0_).2⟩) (List.mem_cons_of_mem _ (List.mem_append_left _ (List.mem_of_getElem? (i := 1) rfl))) (List.mem_cons_of_mem _ (List.mem_append_left _ (List.mem_of_getElem? (i := 2) rfl))) (List.mem_cons_of_mem _ (List.mem_append_left _ (List.mem_of_getElem? (i := 3) rfl))) (List.mem_cons_of_mem _ (List.mem_append_left _ (List.mem_of_getElem? (i := 4) rfl)))) rfl rfl rfl (by decide +kernel) ⟨Nat.le_of_ble_eq_true rfl, Nat.le_of_ble_eq_true rfl⟩) ⟨fun a U g mk q => ⟨q.1, q.2.calling rfl rfl⟩, k_recv hK hI i_4.1 k_5 (ci := 6) rfl, fun U hU hW => ⟨rfl, kIn.of hI hK hE hS hU hW⟩⟩ rfl rfl hl.1 rfl (lv_room (Nat.le_of_ble_eq_true rfl)) dX11_earliest_5 ⟨Nat.le_of_ble_eq_true rfl, Nat.le_of_ble_eq_true rfl⟩) hS (fun q _ h => h) (fun q h => h) (fun r_15 u t H1 locs ht hvm w_14 hB hz1 hk1 hS => ?_)
  obtain ⟨f_13, hI, kc_16⟩ := hB
  rw [ht] at hI
  have k_17 : f_13 h0 = .inr (11, [.ref (gr g h0 0), .ref (gr g h0 1), .ref (gr g h0 2), .ref (gr g h0 3), .ref (gr g h0 4), .ref (gr g h0 5), .ref (gr g h0 6), .ref (gr g h0 7), .ref (gr g h0 8), .ref (gr g h0 9), .ref (gr g h0 10), .int x_2]) := Kp.at kc_16 i_h0 (by decide) k_1
  have k_18 : f_13 (gr g h0 3) = .inr (6, [.ref (gr g (gr g h0 3) 0), .ref (gr g (gr g h0 3) 1), .ref (gr g (gr g h0 3) 2), .ref (gr g (gr g h0 3) 3), .ref (gr g (gr g h0 3) 4), .int x_6, .int x_7, .long x_8, .int x_9, .int x_10]) := Kp.at kc_16 i_4 (by decide) k_5
  have kp_19 := Kp.call hk0 kc_16 (by decide)
  generalize H1 = H at hI hS ⊢
  refine W.widen (k := 0) (n := 0) (Nat.le_of_ble_eq_true rfl) (Nat.le_of_ble_eq_true rfl) ?_
  exact W.iret (v := r_15) hx hb hr (fun t ht hW => ⟨⟨r_15, (), rfl, trivial, ⟨f_13, k_ret ht hI, kp_19⟩⟩, hS.F ht⟩) hS.2.2 dX11_earliest_8
theorem tw_656 : q_g (.selects RX6 yX6_howManyBefore yX6_howManyBefore) := ⟨(List.mem_append_right _ (List.mem_of_getElem? (i := 960) (by decide +kernel))), good_of_word (by decide +kernel)⟩
theorem tw_657 : q_g (.instanceMethod yX6_howManyBefore) := ⟨(List.mem_append_right _ (List.mem_of_getElem? (i := 959) (by decide +kernel))), good_of_word (by decide +kernel)⟩
theorem tw_658 : q_g (.methodLink RX11 280 yX6_howManyBefore) := ⟨(List.mem_append_right _ (List.mem_of_getElem? (i := 958) (by decide +kernel))), good_of_word (by decide +kernel)⟩
theorem tw_659 : q_g (.code yX11_rank cX11_rank 2 (some .int)) := ⟨(List.mem_append_right _ (List.mem_of_getElem? (i := 957) (by decide +kernel))), good_of_word (by decide +kernel)⟩
def ow_c_X11_rank : List Cond := [.fieldLink RX11 37 "DeadlineShare" "now" "LDeadlineShare$State;", .methodLink RX11 130 yX6_has, .instanceMethod yX6_has, .selects RX6 yX6_has yX6_has, .initialized RX6, .fieldLink RX11 133 "DeadlineShare$State" "tasks" "[LDeadlineShare$Task;", .methodLink RX11 159 yX8_isOn, .instanceMethod yX8_isOn, .selects RX8 yX8_isOn yX8_isOn, .initialized RX8, .methodLink RX11 280 yX6_howManyBefore, .instanceMethod yX6_howManyBefore, .selects RX6 yX6_howManyBefore yX6_howManyBefore]
def wq_c_X11_rank : List Cond := .code yX11_rank cX11_rank 2 (some .int) :: (ow_c_X11_rank ++ (u_ws RX11 TX11 12 ++ (wq_c_X6_has ++ (u_ws RX6 TX6 10 ++ (wq_c_X8_isOn ++ (wq_c_X6_howManyBefore ++ ([] : List Cond)))))))
theorem tb_c_X11_rank : ∀ w ∈ wq_c_X11_rank, q_g w := by
  unfold wq_c_X11_rank ow_c_X11_rank
  exact q_cons tw_659 (q_app (q_cons tw_558 (q_cons tw_571 (q_cons tw_74 (q_cons tw_73 (q_cons tw_47 (q_cons tw_570 (q_cons tw_576 (q_cons tw_10 (q_cons tw_9 (q_cons tw_8 (q_cons tw_658 (q_cons tw_657 (q_cons tw_656 q_nil))))))))))))) (q_app tu_X11 (q_app tb_c_X6_has (q_app tu_X6 (q_app tb_c_X8_isOn (q_app tb_c_X6_howManyBefore q_nil))))))
set_option maxHeartbeats 4000000 in
set_option maxRecDepth 100000 in
theorem c_X11_rank (l : Launch) (dC : Nat → ClassId) (dI : Nat → Nat → Nat) (g : kG) (A : Nat → Prop) (hG : kWf g) (f : Nat → va_E) (h0 : Nat) (p1 : Int32) (i_h0 : ik g 11 h0) : Met l yX11_rank wq_c_X11_rank ({ frames := 2, cells := 0, slots := 0, locals := 44 } : Room) (va_Pc [.ref h0, .int p1] (fun U => kIn dC dI g A f U)) (va_Qi (fun (r : Int32) (_ : Unit) => True) (fun (_ : Unit) t => Iv dC dI g A f t.heap) A) 0 0 A := by
  refine Met.ofW (cc := cX11_rank) (maxL := 2) (ret := (some .int)) (by decide) rfl ?_
  intro p e s m args below meth c s₁ B hml hv
  obtain ⟨rfl, hI, hK, hE⟩ := hv
  have hx := B.exec
  have hb := B.bytes
  have hr := B.returns
  have hts := atoms_spec (ws := wq_c_X11_rank) B.pre
  have hown : s.vm.findClass RX11 = some m.cls := findClass_of_methodNamed B.named
  have hlocks := B.notSynchronized
  have hS : va_S A s.heap s.heap [] := va_S.rf
  have hl := lv_entry ([.ref h0, .int p1]) (n := 2) (Nat.le_of_ble_eq_true rfl)
  rw [lg_entry_eq]
  generalize (lg_sl ([.ref h0, .int p1]) ++ List.replicate (2 - (lg_sl ([.ref h0, .int p1])).length) Slot.unset).toArray = ls at hl ⊢
  have hl : lv_has ls 2 [(0, .ref h0), (1, .int p1)] := hl
  refine lv_aload_n hx hb dX11_rank_0 rfl (lv_at hl 0 rfl) ?_
  obtain ⟨x_2, k_1⟩ := op_11 hI i_h0
  refine k_get (ci := 11) (v := .ref (gr g h0 3)) (C := RX11) (T := TX11) (N := 12) hx hb hts (fun _ h0_ => List.mem_cons_of_mem _ (List.mem_append_right _ (List.mem_append_left _ h0_))) hown hK hI i_h0.1 k_1 rfl 3 (by decide) (hts (.fieldLink RX11 37 "DeadlineShare" "now" "LDeadlineShare$State;") (List.mem_cons_of_mem _ (List.mem_append_left _ (List.mem_of_getElem? (i := 0) rfl)))) (fun _ h9 => h9) rfl dX11_rank_1 ?_
  have i_4 := kw_11_3 hG i_h0
  refine lv_iload_n hx hb dX11_rank_4 rfl (lv_at hl 1 rfl) ?_
  obtain ⟨x_6, x_7, x_8, x_9, x_10, k_5, b_11, b_12⟩ := op_6 hI i_4
  refine va_calli (va_runV (As := [.int p1]) (rest := []) ⟨hx, hb, hml, hown, hts⟩ (c_X6_has l dC dI g A hG f (gr g h0 3) p1 i_4) (cwV 1 hts (gi_V (fun w_ h0_ => ⟨List.mem_cons_of_mem _ (List.mem_append_right _ (List.mem_append_right _ (List.mem_append_left _ h0_))), (tb_c_X6_has w_ h0_).2⟩) (List.mem_cons_of_mem _ (List.mem_append_left _ (List.mem_of_getElem? (i := 1) rfl))) (List.mem_cons_of_mem _ (List.mem_append_left _ (List.mem_of_getElem? (i := 2) rfl))) (List.mem_cons_of_mem _ (List.mem_append_left _ (List.mem_of_getElem? (i := 3) rfl))) (List.mem_cons_of_mem _ (List.mem_append_left _ (List.mem_of_getElem? (i := 4) rfl)))) rfl rfl rfl (by decide +kernel) ⟨Nat.le_of_ble_eq_true rfl, Nat.le_of_ble_eq_true rfl⟩) ⟨fun a U g mk q => ⟨q.1, q.2.calling rfl rfl⟩, k_recv hK hI i_4.1 k_5 (ci := 6) rfl, fun U hU hW => ⟨rfl, kIn.of hI hK hE hS hU hW⟩⟩ rfl rfl hl.1 rfl (lv_room (Nat.le_of_ble_eq_true rfl)) dX11_rank_5 ⟨Nat.le_of_ble_eq_true rfl, Nat.le_of_ble_eq_true rfl⟩) hS (fun q _ h => h) (fun q h => h) (fun r_14 u t H1 locs ht hvm w_13 hB hz1 hk1 hS => ?_)
  have hI : Iv dC dI g A f t.heap := hB
  rw [ht] at hI
  generalize H1 = H at hI hS ⊢
  refine W.widen (k := 0) (n := 0) (Nat.le_of_ble_eq_true rfl) (Nat.le_of_ble_eq_true rfl) ?_
  have w_13 : r_14.toInt = 0 ∨ (0 ≤ p1.toInt ∧ p1.toInt < 12) := w_13
  refine lv_if_eq (tgt := 45) hx hb dX11_rank_8 (by decide) (fun c_15 => ?_) (fun c_15 => ?_)
  · have c_15 := kc_eq rfl (by decide : Int32.toInt 0 = 0) c_15
    refine lv_iconst (v := (-1)) hx hb dX11_rank_45 (by decide) ?_
    exact W.iret (v := (-1)) hx hb hr (fun t ht hW => ⟨⟨(-1), (), rfl, trivial, k_ret ht hI⟩, hS.F ht⟩) hS.2.2 dX11_rank_46
  · have c_15 := kn_eq rfl (by decide : Int32.toInt 0 = 0) c_15
    refine lv_aload_n hx hb dX11_rank_11 rfl (lv_at hl 0 rfl) ?_
    refine k_get (ci := 11) (v := .ref (gr g h0 3)) (C := RX11) (T := TX11) (N := 12) hx hb hts (fun _ h0_ => List.mem_cons_of_mem _ (List.mem_append_right _ (List.mem_append_left _ h0_))) hown hK hI i_h0.1 k_1 rfl 3 (by decide) (hts (.fieldLink RX11 37 "DeadlineShare" "now" "LDeadlineShare$State;") (List.mem_cons_of_mem _ (List.mem_append_left _ (List.mem_of_getElem? (i := 0) rfl)))) (fun _ h9 => h9) rfl dX11_rank_12 ?_
    refine k_get (ci := 6) (v := .ref (gr g (gr g h0 3) 1)) (C := RX6) (T := TX6) (N := 10) hx hb hts (fun _ h0_ => List.mem_cons_of_mem _ (List.mem_append_right _ (List.mem_append_right _ (List.mem_append_right _ (List.mem_append_left _ h0_))))) hown hK hI i_4.1 k_5 rfl 1 (by decide) (hts (.fieldLink RX11 133 "DeadlineShare$State" "tasks" "[LDeadlineShare$Task;") (List.mem_cons_of_mem _ (List.mem_append_left _ (List.mem_of_getElem? (i := 5) rfl)))) (fun _ h9 => h9) rfl dX11_rank_15 ?_
    have i_19 := kw_6_1 hG i_4
    refine lv_iload_n hx hb dX11_rank_18 rfl (lv_at hl 1 rfl) ?_
    obtain ⟨q_21, k_20, b_22⟩ := op_20 hI i_19
    refine k_aald hx hb hK hI i_19.1 4 k_20 rfl (vp_in_iff.mpr (by omega)) b_22 (fun _ hj => kw_20 hG i_19 hj) dX11_rank_19 (fun a_23 i_24 => ?_)
    obtain ⟨x_26, x_27, x_28, x_29, x_30, x_31, x_32, x_33, x_34, x_35, x_36, x_37, x_38, x_39, x_40, x_41, k_25⟩ := op_8 hI i_24
    refine va_calli (va_runV (As := []) (rest := []) ⟨hx, hb, hml, hown, hts⟩ (c_X8_isOn l dC dI g A hG f a_23 i_24) (cwV 0 hts (gi_V (fun w_ h0_ => ⟨List.mem_cons_of_mem _ (List.mem_append_right _ (List.mem_append_right _ (List.mem_append_right _ (List.mem_append_right _ (List.mem_append_left _ h0_))))), (tb_c_X8_isOn w_ h0_).2⟩) (List.mem_cons_of_mem _ (List.mem_append_left _ (List.mem_of_getElem? (i := 6) rfl))) (List.mem_cons_of_mem _ (List.mem_append_left _ (List.mem_of_getElem? (i := 7) rfl))) (List.mem_cons_of_mem _ (List.mem_append_left _ (List.mem_of_getElem? (i := 8) rfl))) (List.mem_cons_of_mem _ (List.mem_append_left _ (List.mem_of_getElem? (i := 9) rfl)))) rfl rfl rfl (by decide +kernel) ⟨Nat.le_of_ble_eq_true rfl, Nat.le_of_ble_eq_true rfl⟩) ⟨fun a U g mk q => ⟨q.1, q.2.calling rfl rfl⟩, k_recv hK hI i_24.1 k_25 (ci := 8) rfl, fun U hU hW => ⟨rfl, kIn.of hI hK hE hS hU hW⟩⟩ rfl rfl hl.1 rfl (lv_room (Nat.le_of_ble_eq_true rfl)) dX11_rank_20 ⟨Nat.le_of_ble_eq_true rfl, Nat.le_of_ble_eq_true rfl⟩) hS (fun q _ h => h) (fun q h => h) (fun r_43 u t H1 locs ht hvm w_42 hB hz1 hk1 hS => ?_)
    have hI : Iv dC dI g A f t.heap := hB
    rw [ht] at hI
    generalize H1 = H at hI hS ⊢
    refine W.widen (k := 0) (n := 0) (Nat.le_of_ble_eq_true rfl) (Nat.le_of_ble_eq_true rfl) ?_
    refine lv_if_eq (tgt := 45) hx hb dX11_rank_23 (by decide) (fun c_44 => ?_) (fun c_44 => ?_)
    · have c_44 := kc_eq rfl (by decide : Int32.toInt 0 = 0) c_44
      refine lv_iconst (v := (-1)) hx hb dX11_rank_45 (by decide) ?_
      exact W.iret (v := (-1)) hx hb hr (fun t ht hW => ⟨⟨(-1), (), rfl, trivial, k_ret ht hI⟩, hS.F ht⟩) hS.2.2 dX11_rank_46
    · have c_44 := kn_eq rfl (by decide : Int32.toInt 0 = 0) c_44
      refine lv_aload_n hx hb dX11_rank_26 rfl (lv_at hl 0 rfl) ?_
      refine k_get (ci := 11) (v := .ref (gr g h0 3)) (C := RX11) (T := TX11) (N := 12) hx hb hts (fun _ h0_ => List.mem_cons_of_mem _ (List.mem_append_right _ (List.mem_append_left _ h0_))) hown hK hI i_h0.1 k_1 rfl 3 (by decide) (hts (.fieldLink RX11 37 "DeadlineShare" "now" "LDeadlineShare$State;") (List.mem_cons_of_mem _ (List.mem_append_left _ (List.mem_of_getElem? (i := 0) rfl)))) (fun _ h9 => h9) rfl dX11_rank_27 ?_
      refine lv_aload_n hx hb dX11_rank_30 rfl (lv_at hl 0 rfl) ?_
      refine k_get (ci := 11) (v := .ref (gr g h0 3)) (C := RX11) (T := TX11) (N := 12) hx hb hts (fun _ h0_ => List.mem_cons_of_mem _ (List.mem_append_right _ (List.mem_append_left _ h0_))) hown hK hI i_h0.1 k_1 rfl 3 (by decide) (hts (.fieldLink RX11 37 "DeadlineShare" "now" "LDeadlineShare$State;") (List.mem_cons_of_mem _ (List.mem_append_left _ (List.mem_of_getElem? (i := 0) rfl)))) (fun _ h9 => h9) rfl dX11_rank_31 ?_
      refine k_get (ci := 6) (v := .ref (gr g (gr g h0 3) 1)) (C := RX6) (T := TX6) (N := 10) hx hb hts (fun _ h0_ => List.mem_cons_of_mem _ (List.mem_append_right _ (List.mem_append_right _ (List.mem_append_right _ (List.mem_append_left _ h0_))))) hown hK hI i_4.1 k_5 rfl 1 (by decide) (hts (.fieldLink RX11 133 "DeadlineShare$State" "tasks" "[LDeadlineShare$Task;") (List.mem_cons_of_mem _ (List.mem_append_left _ (List.mem_of_getElem? (i := 5) rfl)))) (fun _ h9 => h9) rfl dX11_rank_34 ?_
      refine lv_iload_n hx hb dX11_rank_37 rfl (lv_at hl 1 rfl) ?_
      refine k_aald hx hb hK hI i_19.1 4 k_20 rfl (vp_in_iff.mpr (by omega)) b_22 (fun _ hj => kw_20 hG i_19 hj) dX11_rank_38 (fun a_51 i_52 => ?_)
      refine va_calli (va_runV (As := [.ref a_51]) (rest := []) ⟨hx, hb, hml, hown, hts⟩ (c_X6_howManyBefore l dC dI g A hG f (gr g h0 3) a_51 i_4 i_52) (cwV 1 hts (gi_V (fun w_ h0_ => ⟨List.mem_cons_of_mem _ (List.mem_append_right _ (List.mem_append_right _ (List.mem_append_right _ (List.mem_append_right _ (List.mem_append_right _ (List.mem_append_left _ h0_)))))), (tb_c_X6_howManyBefore w_ h0_).2⟩) (List.mem_cons_of_mem _ (List.mem_append_left _ (List.mem_of_getElem? (i := 10) rfl))) (List.mem_cons_of_mem _ (List.mem_append_left _ (List.mem_of_getElem? (i := 11) rfl))) (List.mem_cons_of_mem _ (List.mem_append_left _ (List.mem_of_getElem? (i := 12) rfl))) (List.mem_cons_of_mem _ (List.mem_append_left _ (List.mem_of_getElem? (i := 4) rfl)))) rfl rfl rfl (by decide +kernel) ⟨Nat.le_of_ble_eq_true rfl, Nat.le_of_ble_eq_true rfl⟩) ⟨fun a U g mk q => ⟨q.1, q.2.calling rfl rfl⟩, k_recv hK hI i_4.1 k_5 (ci := 6) rfl, fun U hU hW => ⟨rfl, kIn.of hI hK hE hS hU hW⟩⟩ rfl rfl hl.1 rfl (lv_room (Nat.le_of_ble_eq_true rfl)) dX11_rank_39 ⟨Nat.le_of_ble_eq_true rfl, Nat.le_of_ble_eq_true rfl⟩) hS (fun q _ h => h) (fun q h => h) (fun r_54 u t H1 locs ht hvm w_53 hB hz1 hk1 hS => ?_)
      have hI : Iv dC dI g A f t.heap := hB
      rw [ht] at hI
      generalize H1 = H at hI hS ⊢
      refine W.widen (k := 0) (n := 0) (Nat.le_of_ble_eq_true rfl) (Nat.le_of_ble_eq_true rfl) ?_
      refine lv_goto (tgt := 46) hx hb dX11_rank_42 (by decide) ?_
      exact W.iret (v := r_54) hx hb hr (fun t ht hW => ⟨⟨r_54, (), rfl, trivial, k_ret ht hI⟩, hS.F ht⟩) hS.2.2 dX11_rank_46
theorem tw_660 : q_g (.methodLink RX11 291 yX2_runner) := ⟨(List.mem_append_right _ (List.mem_of_getElem? (i := 974) (by decide +kernel))), good_of_word (by decide +kernel)⟩
theorem tw_661 : q_g (.fieldLink RX11 287 "DeadlineShare$State" "log" "LDeadlineShare$Log;") := ⟨(List.mem_append_right _ (List.mem_of_getElem? (i := 233) (by decide +kernel))), good_of_word (by decide +kernel)⟩
theorem tw_662 : q_g (.selects RX6 yX6_logHolds yX6_logHolds) := ⟨(List.mem_append_right _ (List.mem_of_getElem? (i := 968) (by decide +kernel))), good_of_word (by decide +kernel)⟩
theorem tw_663 : q_g (.instanceMethod yX6_logHolds) := ⟨(List.mem_append_right _ (List.mem_of_getElem? (i := 967) (by decide +kernel))), good_of_word (by decide +kernel)⟩
theorem tw_664 : q_g (.methodLink RX11 284 yX6_logHolds) := ⟨(List.mem_append_right _ (List.mem_of_getElem? (i := 966) (by decide +kernel))), good_of_word (by decide +kernel)⟩
theorem tw_665 : q_g (.code yX11_ran cX11_ran 2 (some .int)) := ⟨(List.mem_append_right _ (List.mem_of_getElem? (i := 965) (by decide +kernel))), good_of_word (by decide +kernel)⟩
def ow_c_X11_ran : List Cond := [.fieldLink RX11 37 "DeadlineShare" "now" "LDeadlineShare$State;", .methodLink RX11 284 yX6_logHolds, .instanceMethod yX6_logHolds, .selects RX6 yX6_logHolds yX6_logHolds, .initialized RX6, .fieldLink RX11 287 "DeadlineShare$State" "log" "LDeadlineShare$Log;", .methodLink RX11 291 yX2_runner, .instanceMethod yX2_runner, .selects RX2 yX2_runner yX2_runner, .initialized RX2]
def wq_c_X11_ran : List Cond := .code yX11_ran cX11_ran 2 (some .int) :: (ow_c_X11_ran ++ (u_ws RX11 TX11 12 ++ (wq_c_X6_logHolds ++ (u_ws RX6 TX6 10 ++ (wq_c_X2_runner ++ ([] : List Cond))))))
theorem tb_c_X11_ran : ∀ w ∈ wq_c_X11_ran, q_g w := by
  unfold wq_c_X11_ran ow_c_X11_ran
  exact q_cons tw_665 (q_app (q_cons tw_558 (q_cons tw_664 (q_cons tw_663 (q_cons tw_662 (q_cons tw_47 (q_cons tw_661 (q_cons tw_660 (q_cons tw_175 (q_cons tw_174 (q_cons tw_147 q_nil)))))))))) (q_app tu_X11 (q_app tb_c_X6_logHolds (q_app tu_X6 (q_app tb_c_X2_runner q_nil)))))
set_option maxHeartbeats 4000000 in
set_option maxRecDepth 100000 in
theorem c_X11_ran (l : Launch) (dC : Nat → ClassId) (dI : Nat → Nat → Nat) (g : kG) (A : Nat → Prop) (hG : kWf g) (f : Nat → va_E) (h0 : Nat) (p1 : Int32) (i_h0 : ik g 11 h0) : Met l yX11_ran wq_c_X11_ran ({ frames := 3, cells := 0, slots := 0, locals := 56 } : Room) (va_Pc [.ref h0, .int p1] (fun U => kIn dC dI g A f U)) (va_Qi (fun (r : Int32) (_ : Unit) => True) (fun (_ : Unit) t => Iv dC dI g A f t.heap) A) 0 0 A := by
  refine Met.ofW (cc := cX11_ran) (maxL := 2) (ret := (some .int)) (by decide) rfl ?_
  intro p e s m args below meth c s₁ B hml hv
  obtain ⟨rfl, hI, hK, hE⟩ := hv
  have hx := B.exec
  have hb := B.bytes
  have hr := B.returns
  have hts := atoms_spec (ws := wq_c_X11_ran) B.pre
  have hown : s.vm.findClass RX11 = some m.cls := findClass_of_methodNamed B.named
  have hlocks := B.notSynchronized
  have hS : va_S A s.heap s.heap [] := va_S.rf
  have hl := lv_entry ([.ref h0, .int p1]) (n := 2) (Nat.le_of_ble_eq_true rfl)
  rw [lg_entry_eq]
  generalize (lg_sl ([.ref h0, .int p1]) ++ List.replicate (2 - (lg_sl ([.ref h0, .int p1])).length) Slot.unset).toArray = ls at hl ⊢
  have hl : lv_has ls 2 [(0, .ref h0), (1, .int p1)] := hl
  refine lv_aload_n hx hb dX11_ran_0 rfl (lv_at hl 0 rfl) ?_
  obtain ⟨x_2, k_1⟩ := op_11 hI i_h0
  refine k_get (ci := 11) (v := .ref (gr g h0 3)) (C := RX11) (T := TX11) (N := 12) hx hb hts (fun _ h0_ => List.mem_cons_of_mem _ (List.mem_append_right _ (List.mem_append_left _ h0_))) hown hK hI i_h0.1 k_1 rfl 3 (by decide) (hts (.fieldLink RX11 37 "DeadlineShare" "now" "LDeadlineShare$State;") (List.mem_cons_of_mem _ (List.mem_append_left _ (List.mem_of_getElem? (i := 0) rfl)))) (fun _ h9 => h9) rfl dX11_ran_1 ?_
  have i_4 := kw_11_3 hG i_h0
  refine lv_iload_n hx hb dX11_ran_4 rfl (lv_at hl 1 rfl) ?_
  obtain ⟨x_6, x_7, x_8, x_9, x_10, k_5, b_11, b_12⟩ := op_6 hI i_4
  refine va_calli (va_runV (As := [.int p1]) (rest := []) ⟨hx, hb, hml, hown, hts⟩ (c_X6_logHolds l dC dI g A hG f (gr g h0 3) p1 i_4) (cwV 1 hts (gi_V (fun w_ h0_ => ⟨List.mem_cons_of_mem _ (List.mem_append_right _ (List.mem_append_right _ (List.mem_append_left _ h0_))), (tb_c_X6_logHolds w_ h0_).2⟩) (List.mem_cons_of_mem _ (List.mem_append_left _ (List.mem_of_getElem? (i := 1) rfl))) (List.mem_cons_of_mem _ (List.mem_append_left _ (List.mem_of_getElem? (i := 2) rfl))) (List.mem_cons_of_mem _ (List.mem_append_left _ (List.mem_of_getElem? (i := 3) rfl))) (List.mem_cons_of_mem _ (List.mem_append_left _ (List.mem_of_getElem? (i := 4) rfl)))) rfl rfl rfl (by decide +kernel) ⟨Nat.le_of_ble_eq_true rfl, Nat.le_of_ble_eq_true rfl⟩) ⟨fun a U g mk q => ⟨q.1, q.2.calling rfl rfl⟩, k_recv hK hI i_4.1 k_5 (ci := 6) rfl, fun U hU hW => ⟨rfl, kIn.of hI hK hE hS hU hW⟩⟩ rfl rfl hl.1 rfl (lv_room (Nat.le_of_ble_eq_true rfl)) dX11_ran_5 ⟨Nat.le_of_ble_eq_true rfl, Nat.le_of_ble_eq_true rfl⟩) hS (fun q _ h => h) (fun q h => h) (fun r_14 u t H1 locs ht hvm w_13 hB hz1 hk1 hS => ?_)
  have hI : Iv dC dI g A f t.heap := hB
  rw [ht] at hI
  generalize H1 = H at hI hS ⊢
  refine W.widen (k := 0) (n := 0) (Nat.le_of_ble_eq_true rfl) (Nat.le_of_ble_eq_true rfl) ?_
  refine lv_if_eq (tgt := 25) hx hb dX11_ran_8 (by decide) (fun c_15 => ?_) (fun c_15 => ?_)
  · have c_15 := kc_eq rfl (by decide : Int32.toInt 0 = 0) c_15
    refine lv_iconst (v := (-1)) hx hb dX11_ran_25 (by decide) ?_
    exact W.iret (v := (-1)) hx hb hr (fun t ht hW => ⟨⟨(-1), (), rfl, trivial, k_ret ht hI⟩, hS.F ht⟩) hS.2.2 dX11_ran_26
  · have c_15 := kn_eq rfl (by decide : Int32.toInt 0 = 0) c_15
    refine lv_aload_n hx hb dX11_ran_11 rfl (lv_at hl 0 rfl) ?_
    refine k_get (ci := 11) (v := .ref (gr g h0 3)) (C := RX11) (T := TX11) (N := 12) hx hb hts (fun _ h0_ => List.mem_cons_of_mem _ (List.mem_append_right _ (List.mem_append_left _ h0_))) hown hK hI i_h0.1 k_1 rfl 3 (by decide) (hts (.fieldLink RX11 37 "DeadlineShare" "now" "LDeadlineShare$State;") (List.mem_cons_of_mem _ (List.mem_append_left _ (List.mem_of_getElem? (i := 0) rfl)))) (fun _ h9 => h9) rfl dX11_ran_12 ?_
    refine k_get (ci := 6) (v := .ref (gr g (gr g h0 3) 2)) (C := RX6) (T := TX6) (N := 10) hx hb hts (fun _ h0_ => List.mem_cons_of_mem _ (List.mem_append_right _ (List.mem_append_right _ (List.mem_append_right _ (List.mem_append_left _ h0_))))) hown hK hI i_4.1 k_5 rfl 2 (by decide) (hts (.fieldLink RX11 287 "DeadlineShare$State" "log" "LDeadlineShare$Log;") (List.mem_cons_of_mem _ (List.mem_append_left _ (List.mem_of_getElem? (i := 5) rfl)))) (fun _ h9 => h9) rfl dX11_ran_15 ?_
    have i_19 := kw_6_2 hG i_4
    refine lv_iload_n hx hb dX11_ran_18 rfl (lv_at hl 1 rfl) ?_
    have k_20 := op_2 hI i_19
    refine va_calli (va_runV (As := [.int p1]) (rest := []) ⟨hx, hb, hml, hown, hts⟩ (c_X2_runner l dC dI g A hG f (gr g (gr g h0 3) 2) p1 i_19) (cwV 1 hts (gi_V (fun w_ h0_ => ⟨List.mem_cons_of_mem _ (List.mem_append_right _ (List.mem_append_right _ (List.mem_append_right _ (List.mem_append_right _ (List.mem_append_left _ h0_))))), (tb_c_X2_runner w_ h0_).2⟩) (List.mem_cons_of_mem _ (List.mem_append_left _ (List.mem_of_getElem? (i := 6) rfl))) (List.mem_cons_of_mem _ (List.mem_append_left _ (List.mem_of_getElem? (i := 7) rfl))) (List.mem_cons_of_mem _ (List.mem_append_left _ (List.mem_of_getElem? (i := 8) rfl))) (List.mem_cons_of_mem _ (List.mem_append_left _ (List.mem_of_getElem? (i := 9) rfl)))) rfl rfl rfl (by decide +kernel) ⟨Nat.le_of_ble_eq_true rfl, Nat.le_of_ble_eq_true rfl⟩) ⟨fun a U g mk q => ⟨q.1, q.2.calling rfl rfl⟩, k_recv hK hI i_19.1 k_20 (ci := 2) rfl, fun U hU hW => ⟨rfl, kIn.of hI hK hE hS hU hW⟩⟩ rfl rfl hl.1 rfl (lv_room (Nat.le_of_ble_eq_true rfl)) dX11_ran_19 ⟨Nat.le_of_ble_eq_true rfl, Nat.le_of_ble_eq_true rfl⟩) hS (fun q _ h => h) (fun q h => h) (fun r_22 u t H1 locs ht hvm w_21 hB hz1 hk1 hS => ?_)
    have hI : Iv dC dI g A f t.heap := hB
    rw [ht] at hI
    generalize H1 = H at hI hS ⊢
    refine W.widen (k := 0) (n := 0) (Nat.le_of_ble_eq_true rfl) (Nat.le_of_ble_eq_true rfl) ?_
    refine lv_goto (tgt := 26) hx hb dX11_ran_22 (by decide) ?_
    exact W.iret (v := r_22) hx hb hr (fun t ht hW => ⟨⟨r_22, (), rfl, trivial, k_ret ht hI⟩, hS.F ht⟩) hS.2.2 dX11_ran_26
theorem tw_666 : q_g (.selects RX2 yX2_serviceIn yX2_serviceIn) := ⟨(List.mem_append_right _ (List.mem_of_getElem? (i := 988) (by decide +kernel))), good_of_word (by decide +kernel)⟩
theorem tw_667 : q_g (.instanceMethod yX2_serviceIn) := ⟨(List.mem_append_right _ (List.mem_of_getElem? (i := 987) (by decide +kernel))), good_of_word (by decide +kernel)⟩
theorem tw_668 : q_g (.methodLink RX11 299 yX2_serviceIn) := ⟨(List.mem_append_right _ (List.mem_of_getElem? (i := 986) (by decide +kernel))), good_of_word (by decide +kernel)⟩
theorem tw_669 : q_g (.selects RX6 yX6_isWindow yX6_isWindow) := ⟨(List.mem_append_right _ (List.mem_of_getElem? (i := 984) (by decide +kernel))), good_of_word (by decide +kernel)⟩
theorem tw_670 : q_g (.instanceMethod yX6_isWindow) := ⟨(List.mem_append_right _ (List.mem_of_getElem? (i := 983) (by decide +kernel))), good_of_word (by decide +kernel)⟩
theorem tw_671 : q_g (.methodLink RX11 296 yX6_isWindow) := ⟨(List.mem_append_right _ (List.mem_of_getElem? (i := 982) (by decide +kernel))), good_of_word (by decide +kernel)⟩
theorem tw_672 : q_g (.code yX11_service cX11_service 4 (some .int)) := ⟨(List.mem_append_right _ (List.mem_of_getElem? (i := 981) (by decide +kernel))), good_of_word (by decide +kernel)⟩
def ow_c_X11_service : List Cond := [.fieldLink RX11 37 "DeadlineShare" "now" "LDeadlineShare$State;", .methodLink RX11 130 yX6_has, .instanceMethod yX6_has, .selects RX6 yX6_has yX6_has, .initialized RX6, .methodLink RX11 296 yX6_isWindow, .instanceMethod yX6_isWindow, .selects RX6 yX6_isWindow yX6_isWindow, .fieldLink RX11 287 "DeadlineShare$State" "log" "LDeadlineShare$Log;", .methodLink RX11 299 yX2_serviceIn, .instanceMethod yX2_serviceIn, .selects RX2 yX2_serviceIn yX2_serviceIn, .initialized RX2]
def wq_c_X11_service : List Cond := .code yX11_service cX11_service 4 (some .int) :: (ow_c_X11_service ++ (u_ws RX11 TX11 12 ++ (wq_c_X6_has ++ (wq_c_X6_isWindow ++ (u_ws RX6 TX6 10 ++ (wq_c_X2_serviceIn ++ ([] : List Cond)))))))
theorem tb_c_X11_service : ∀ w ∈ wq_c_X11_service, q_g w := by
  unfold wq_c_X11_service ow_c_X11_service
  exact q_cons tw_672 (q_app (q_cons tw_558 (q_cons tw_571 (q_cons tw_74 (q_cons tw_73 (q_cons tw_47 (q_cons tw_671 (q_cons tw_670 (q_cons tw_669 (q_cons tw_661 (q_cons tw_668 (q_cons tw_667 (q_cons tw_666 (q_cons tw_147 q_nil))))))))))))) (q_app tu_X11 (q_app tb_c_X6_has (q_app tb_c_X6_isWindow (q_app tu_X6 (q_app tb_c_X2_serviceIn q_nil))))))
set_option maxHeartbeats 4000000 in
set_option maxRecDepth 100000 in
theorem c_X11_service (l : Launch) (dC : Nat → ClassId) (dI : Nat → Nat → Nat) (g : kG) (A : Nat → Prop) (hG : kWf g) (f : Nat → va_E) (h0 : Nat) (p1 : Int32) (p2 : Int32) (p3 : Int32) (i_h0 : ik g 11 h0) : Met l yX11_service wq_c_X11_service ({ frames := 3, cells := 0, slots := 0, locals := 57 } : Room) (va_Pc [.ref h0, .int p1, .int p2, .int p3] (fun U => kIn dC dI g A f U)) (va_Qi (fun (r : Int32) (_ : Unit) => True) (fun (_ : Unit) t => Iv dC dI g A f t.heap) A) 0 0 A := by
  refine Met.ofW (cc := cX11_service) (maxL := 4) (ret := (some .int)) (by decide) rfl ?_
  intro p e s m args below meth c s₁ B hml hv
  obtain ⟨rfl, hI, hK, hE⟩ := hv
  have hx := B.exec
  have hb := B.bytes
  have hr := B.returns
  have hts := atoms_spec (ws := wq_c_X11_service) B.pre
  have hown : s.vm.findClass RX11 = some m.cls := findClass_of_methodNamed B.named
  have hlocks := B.notSynchronized
  have hS : va_S A s.heap s.heap [] := va_S.rf
  have hl := lv_entry ([.ref h0, .int p1, .int p2, .int p3]) (n := 4) (Nat.le_of_ble_eq_true rfl)
  rw [lg_entry_eq]
  generalize (lg_sl ([.ref h0, .int p1, .int p2, .int p3]) ++ List.replicate (4 - (lg_sl ([.ref h0, .int p1, .int p2, .int p3])).length) Slot.unset).toArray = ls at hl ⊢
  have hl : lv_has ls 4 [(0, .ref h0), (1, .int p1), (2, .int p2), (3, .int p3)] := hl
  refine lv_aload_n hx hb dX11_service_0 rfl (lv_at hl 0 rfl) ?_
  obtain ⟨x_2, k_1⟩ := op_11 hI i_h0
  refine k_get (ci := 11) (v := .ref (gr g h0 3)) (C := RX11) (T := TX11) (N := 12) hx hb hts (fun _ h0_ => List.mem_cons_of_mem _ (List.mem_append_right _ (List.mem_append_left _ h0_))) hown hK hI i_h0.1 k_1 rfl 3 (by decide) (hts (.fieldLink RX11 37 "DeadlineShare" "now" "LDeadlineShare$State;") (List.mem_cons_of_mem _ (List.mem_append_left _ (List.mem_of_getElem? (i := 0) rfl)))) (fun _ h9 => h9) rfl dX11_service_1 ?_
  have i_4 := kw_11_3 hG i_h0
  refine lv_iload_n hx hb dX11_service_4 rfl (lv_at hl 1 rfl) ?_
  obtain ⟨x_6, x_7, x_8, x_9, x_10, k_5, b_11, b_12⟩ := op_6 hI i_4
  refine va_calli (va_runV (As := [.int p1]) (rest := []) ⟨hx, hb, hml, hown, hts⟩ (c_X6_has l dC dI g A hG f (gr g h0 3) p1 i_4) (cwV 1 hts (gi_V (fun w_ h0_ => ⟨List.mem_cons_of_mem _ (List.mem_append_right _ (List.mem_append_right _ (List.mem_append_left _ h0_))), (tb_c_X6_has w_ h0_).2⟩) (List.mem_cons_of_mem _ (List.mem_append_left _ (List.mem_of_getElem? (i := 1) rfl))) (List.mem_cons_of_mem _ (List.mem_append_left _ (List.mem_of_getElem? (i := 2) rfl))) (List.mem_cons_of_mem _ (List.mem_append_left _ (List.mem_of_getElem? (i := 3) rfl))) (List.mem_cons_of_mem _ (List.mem_append_left _ (List.mem_of_getElem? (i := 4) rfl)))) rfl rfl rfl (by decide +kernel) ⟨Nat.le_of_ble_eq_true rfl, Nat.le_of_ble_eq_true rfl⟩) ⟨fun a U g mk q => ⟨q.1, q.2.calling rfl rfl⟩, k_recv hK hI i_4.1 k_5 (ci := 6) rfl, fun U hU hW => ⟨rfl, kIn.of hI hK hE hS hU hW⟩⟩ rfl rfl hl.1 rfl (lv_room (Nat.le_of_ble_eq_true rfl)) dX11_service_5 ⟨Nat.le_of_ble_eq_true rfl, Nat.le_of_ble_eq_true rfl⟩) hS (fun q _ h => h) (fun q h => h) (fun r_14 u t H1 locs ht hvm w_13 hB hz1 hk1 hS => ?_)
  have hI : Iv dC dI g A f t.heap := hB
  rw [ht] at hI
  generalize H1 = H at hI hS ⊢
  refine W.widen (k := 0) (n := 0) (Nat.le_of_ble_eq_true rfl) (Nat.le_of_ble_eq_true rfl) ?_
  have w_13 : r_14.toInt = 0 ∨ (0 ≤ p1.toInt ∧ p1.toInt < 12) := w_13
  refine lv_if_eq (tgt := 23) hx hb dX11_service_8 (by decide) (fun c_15 => ?_) (fun c_15 => ?_)
  · have c_15 := kc_eq rfl (by decide : Int32.toInt 0 = 0) c_15
    refine lv_iconst (v := (-1)) hx hb dX11_service_23 (by decide) ?_
    exact W.iret (v := (-1)) hx hb hr (fun t ht hW => ⟨⟨(-1), (), rfl, trivial, k_ret ht hI⟩, hS.F ht⟩) hS.2.2 dX11_service_24
  · have c_15 := kn_eq rfl (by decide : Int32.toInt 0 = 0) c_15
    refine lv_aload_n hx hb dX11_service_11 rfl (lv_at hl 0 rfl) ?_
    refine k_get (ci := 11) (v := .ref (gr g h0 3)) (C := RX11) (T := TX11) (N := 12) hx hb hts (fun _ h0_ => List.mem_cons_of_mem _ (List.mem_append_right _ (List.mem_append_left _ h0_))) hown hK hI i_h0.1 k_1 rfl 3 (by decide) (hts (.fieldLink RX11 37 "DeadlineShare" "now" "LDeadlineShare$State;") (List.mem_cons_of_mem _ (List.mem_append_left _ (List.mem_of_getElem? (i := 0) rfl)))) (fun _ h9 => h9) rfl dX11_service_12 ?_
    refine lv_iload_n hx hb dX11_service_15 rfl (lv_at hl 2 rfl) ?_
    refine lv_iload_n hx hb dX11_service_16 rfl (lv_at hl 3 rfl) ?_
    refine va_calli (va_runV (As := [.int p2, .int p3]) (rest := []) ⟨hx, hb, hml, hown, hts⟩ (c_X6_isWindow l dC dI g A hG f (gr g h0 3) p2 p3 i_4) (cwV 2 hts (gi_V (fun w_ h0_ => ⟨List.mem_cons_of_mem _ (List.mem_append_right _ (List.mem_append_right _ (List.mem_append_right _ (List.mem_append_left _ h0_)))), (tb_c_X6_isWindow w_ h0_).2⟩) (List.mem_cons_of_mem _ (List.mem_append_left _ (List.mem_of_getElem? (i := 5) rfl))) (List.mem_cons_of_mem _ (List.mem_append_left _ (List.mem_of_getElem? (i := 6) rfl))) (List.mem_cons_of_mem _ (List.mem_append_left _ (List.mem_of_getElem? (i := 7) rfl))) (List.mem_cons_of_mem _ (List.mem_append_left _ (List.mem_of_getElem? (i := 4) rfl)))) rfl rfl rfl (by decide +kernel) ⟨Nat.le_of_ble_eq_true rfl, Nat.le_of_ble_eq_true rfl⟩) ⟨fun a U g mk q => ⟨q.1, q.2.calling rfl rfl⟩, k_recv hK hI i_4.1 k_5 (ci := 6) rfl, fun U hU hW => ⟨rfl, kIn.of hI hK hE hS hU hW⟩⟩ rfl rfl hl.1 rfl (lv_room (Nat.le_of_ble_eq_true rfl)) dX11_service_17 ⟨Nat.le_of_ble_eq_true rfl, Nat.le_of_ble_eq_true rfl⟩) hS (fun q _ h => h) (fun q h => h) (fun r_19 u t H1 locs ht hvm w_18 hB hz1 hk1 hS => ?_)
    have hI : Iv dC dI g A f t.heap := hB
    rw [ht] at hI
    generalize H1 = H at hI hS ⊢
    refine W.widen (k := 0) (n := 0) (Nat.le_of_ble_eq_true rfl) (Nat.le_of_ble_eq_true rfl) ?_
    refine lv_if_ne (tgt := 25) hx hb dX11_service_20 (by decide) (fun c_20 => ?_) (fun c_20 => ?_)
    · have c_20 := kn_eq rfl (by decide : Int32.toInt 0 = 0) c_20
      refine lv_iload_n hx hb dX11_service_25 rfl (lv_at hl 2 rfl) ?_
      refine lv_iload_n hx hb dX11_service_26 rfl (lv_at hl 3 rfl) ?_
      refine lv_icmp_ne (tgt := 34) hx hb dX11_service_27 (by decide) (fun c_21 => ?_) (fun c_21 => ?_)
      · have c_21 := kn_eq rfl rfl c_21
        refine lv_aload_n hx hb dX11_service_34 rfl (lv_at hl 0 rfl) ?_
        refine k_get (ci := 11) (v := .ref (gr g h0 3)) (C := RX11) (T := TX11) (N := 12) hx hb hts (fun _ h0_ => List.mem_cons_of_mem _ (List.mem_append_right _ (List.mem_append_left _ h0_))) hown hK hI i_h0.1 k_1 rfl 3 (by decide) (hts (.fieldLink RX11 37 "DeadlineShare" "now" "LDeadlineShare$State;") (List.mem_cons_of_mem _ (List.mem_append_left _ (List.mem_of_getElem? (i := 0) rfl)))) (fun _ h9 => h9) rfl dX11_service_35 ?_
        refine k_get (ci := 6) (v := .ref (gr g (gr g h0 3) 2)) (C := RX6) (T := TX6) (N := 10) hx hb hts (fun _ h0_ => List.mem_cons_of_mem _ (List.mem_append_right _ (List.mem_append_right _ (List.mem_append_right _ (List.mem_append_right _ (List.mem_append_left _ h0_)))))) hown hK hI i_4.1 k_5 rfl 2 (by decide) (hts (.fieldLink RX11 287 "DeadlineShare$State" "log" "LDeadlineShare$Log;") (List.mem_cons_of_mem _ (List.mem_append_left _ (List.mem_of_getElem? (i := 8) rfl)))) (fun _ h9 => h9) rfl dX11_service_38 ?_
        have i_25 := kw_6_2 hG i_4
        refine lv_iload_n hx hb dX11_service_41 rfl (lv_at hl 1 rfl) ?_
        refine lv_iload_n hx hb dX11_service_42 rfl (lv_at hl 2 rfl) ?_
        refine lv_iload_n hx hb dX11_service_43 rfl (lv_at hl 3 rfl) ?_
        have k_26 := op_2 hI i_25
        refine va_calli (va_runV (As := [.int p1, .int p2, .int p3]) (rest := []) ⟨hx, hb, hml, hown, hts⟩ (c_X2_serviceIn l dC dI g A hG f (gr g (gr g h0 3) 2) p1 p2 p3 i_25) (cwV 3 hts (gi_V (fun w_ h0_ => ⟨List.mem_cons_of_mem _ (List.mem_append_right _ (List.mem_append_right _ (List.mem_append_right _ (List.mem_append_right _ (List.mem_append_right _ (List.mem_append_left _ h0_)))))), (tb_c_X2_serviceIn w_ h0_).2⟩) (List.mem_cons_of_mem _ (List.mem_append_left _ (List.mem_of_getElem? (i := 9) rfl))) (List.mem_cons_of_mem _ (List.mem_append_left _ (List.mem_of_getElem? (i := 10) rfl))) (List.mem_cons_of_mem _ (List.mem_append_left _ (List.mem_of_getElem? (i := 11) rfl))) (List.mem_cons_of_mem _ (List.mem_append_left _ (List.mem_of_getElem? (i := 12) rfl)))) rfl rfl rfl (by decide +kernel) ⟨Nat.le_of_ble_eq_true rfl, Nat.le_of_ble_eq_true rfl⟩) ⟨fun a U g mk q => ⟨q.1, q.2.calling rfl rfl⟩, k_recv hK hI i_25.1 k_26 (ci := 2) rfl, fun U hU hW => ⟨rfl, kIn.of hI hK hE hS hU hW⟩⟩ rfl rfl hl.1 rfl (lv_room (Nat.le_of_ble_eq_true rfl)) dX11_service_44 ⟨Nat.le_of_ble_eq_true rfl, Nat.le_of_ble_eq_true rfl⟩) hS (fun q _ h => h) (fun q h => h) (fun r_28 u t H1 locs ht hvm w_27 hB hz1 hk1 hS => ?_)
        have hI : Iv dC dI g A f t.heap := hB
        rw [ht] at hI
        generalize H1 = H at hI hS ⊢
        refine W.widen (k := 0) (n := 0) (Nat.le_of_ble_eq_true rfl) (Nat.le_of_ble_eq_true rfl) ?_
        exact W.iret (v := r_28) hx hb hr (fun t ht hW => ⟨⟨r_28, (), rfl, trivial, k_ret ht hI⟩, hS.F ht⟩) hS.2.2 dX11_service_47
      · have c_21 := kc_eq rfl rfl c_21
        refine lv_iconst (v := 0) hx hb dX11_service_30 (by decide) ?_
        refine lv_goto (tgt := 47) hx hb dX11_service_31 (by decide) ?_
        exact W.iret (v := 0) hx hb hr (fun t ht hW => ⟨⟨0, (), rfl, trivial, k_ret ht hI⟩, hS.F ht⟩) hS.2.2 dX11_service_47
    · have c_20 := kc_eq rfl (by decide : Int32.toInt 0 = 0) c_20
      refine lv_iconst (v := (-1)) hx hb dX11_service_23 (by decide) ?_
      exact W.iret (v := (-1)) hx hb hr (fun t ht hW => ⟨⟨(-1), (), rfl, trivial, k_ret ht hI⟩, hS.F ht⟩) hS.2.2 dX11_service_24
theorem tw_673 : q_g (.selects RX2 yX2_shareIn yX2_shareIn) := ⟨(List.mem_append_right _ (List.mem_of_getElem? (i := 997) (by decide +kernel))), good_of_word (by decide +kernel)⟩
theorem tw_674 : q_g (.instanceMethod yX2_shareIn) := ⟨(List.mem_append_right _ (List.mem_of_getElem? (i := 996) (by decide +kernel))), good_of_word (by decide +kernel)⟩
theorem tw_675 : q_g (.methodLink RX11 303 yX2_shareIn) := ⟨(List.mem_append_right _ (List.mem_of_getElem? (i := 995) (by decide +kernel))), good_of_word (by decide +kernel)⟩
theorem tw_676 : q_g (.code yX11_share cX11_share 4 (some .long)) := ⟨(List.mem_append_right _ (List.mem_of_getElem? (i := 994) (by decide +kernel))), good_of_word (by decide +kernel)⟩
def ow_c_X11_share : List Cond := [.fieldLink RX11 37 "DeadlineShare" "now" "LDeadlineShare$State;", .methodLink RX11 130 yX6_has, .instanceMethod yX6_has, .selects RX6 yX6_has yX6_has, .initialized RX6, .constantLong RX11 245 (-9223372036854775808), .methodLink RX11 296 yX6_isWindow, .instanceMethod yX6_isWindow, .selects RX6 yX6_isWindow yX6_isWindow, .fieldLink RX11 287 "DeadlineShare$State" "log" "LDeadlineShare$Log;", .methodLink RX11 303 yX2_shareIn, .instanceMethod yX2_shareIn, .selects RX2 yX2_shareIn yX2_shareIn, .initialized RX2]
def wq_c_X11_share : List Cond := .code yX11_share cX11_share 4 (some .long) :: (ow_c_X11_share ++ (u_ws RX11 TX11 12 ++ (wq_c_X6_has ++ (wq_c_X6_isWindow ++ (u_ws RX6 TX6 10 ++ (wq_c_X2_shareIn ++ ([] : List Cond)))))))
theorem tb_c_X11_share : ∀ w ∈ wq_c_X11_share, q_g w := by
  unfold wq_c_X11_share ow_c_X11_share
  exact q_cons tw_676 (q_app (q_cons tw_558 (q_cons tw_571 (q_cons tw_74 (q_cons tw_73 (q_cons tw_47 (q_cons tw_638 (q_cons tw_671 (q_cons tw_670 (q_cons tw_669 (q_cons tw_661 (q_cons tw_675 (q_cons tw_674 (q_cons tw_673 (q_cons tw_147 q_nil)))))))))))))) (q_app tu_X11 (q_app tb_c_X6_has (q_app tb_c_X6_isWindow (q_app tu_X6 (q_app tb_c_X2_shareIn q_nil))))))
set_option maxHeartbeats 4000000 in
set_option maxRecDepth 100000 in
theorem c_X11_share (l : Launch) (dC : Nat → ClassId) (dI : Nat → Nat → Nat) (g : kG) (A : Nat → Prop) (hG : kWf g) (f : Nat → va_E) (h0 : Nat) (p1 : Int32) (p2 : Int32) (p3 : Int32) (i_h0 : ik g 11 h0) : Met l yX11_share wq_c_X11_share ({ frames := 3, cells := 0, slots := 0, locals := 71 } : Room) (va_Pc [.ref h0, .int p1, .int p2, .int p3] (fun U => kIn dC dI g A f U)) (va_Ql (fun (r : Int64) (_ : Unit) => True) (fun (_ : Unit) t => Iv dC dI g A f t.heap) A) 0 0 A := by
  refine Met.ofW (cc := cX11_share) (maxL := 4) (ret := (some .long)) (by decide) rfl ?_
  intro p e s m args below meth c s₁ B hml hv
  obtain ⟨rfl, hI, hK, hE⟩ := hv
  have hx := B.exec
  have hb := B.bytes
  have hr := B.returns
  have hts := atoms_spec (ws := wq_c_X11_share) B.pre
  have hown : s.vm.findClass RX11 = some m.cls := findClass_of_methodNamed B.named
  have hlocks := B.notSynchronized
  have hS : va_S A s.heap s.heap [] := va_S.rf
  have hl := lv_entry ([.ref h0, .int p1, .int p2, .int p3]) (n := 4) (Nat.le_of_ble_eq_true rfl)
  rw [lg_entry_eq]
  generalize (lg_sl ([.ref h0, .int p1, .int p2, .int p3]) ++ List.replicate (4 - (lg_sl ([.ref h0, .int p1, .int p2, .int p3])).length) Slot.unset).toArray = ls at hl ⊢
  have hl : lv_has ls 4 [(0, .ref h0), (1, .int p1), (2, .int p2), (3, .int p3)] := hl
  refine lv_aload_n hx hb dX11_share_0 rfl (lv_at hl 0 rfl) ?_
  obtain ⟨x_2, k_1⟩ := op_11 hI i_h0
  refine k_get (ci := 11) (v := .ref (gr g h0 3)) (C := RX11) (T := TX11) (N := 12) hx hb hts (fun _ h0_ => List.mem_cons_of_mem _ (List.mem_append_right _ (List.mem_append_left _ h0_))) hown hK hI i_h0.1 k_1 rfl 3 (by decide) (hts (.fieldLink RX11 37 "DeadlineShare" "now" "LDeadlineShare$State;") (List.mem_cons_of_mem _ (List.mem_append_left _ (List.mem_of_getElem? (i := 0) rfl)))) (fun _ h9 => h9) rfl dX11_share_1 ?_
  have i_4 := kw_11_3 hG i_h0
  refine lv_iload_n hx hb dX11_share_4 rfl (lv_at hl 1 rfl) ?_
  obtain ⟨x_6, x_7, x_8, x_9, x_10, k_5, b_11, b_12⟩ := op_6 hI i_4
  refine va_calli (va_runV (As := [.int p1]) (rest := []) ⟨hx, hb, hml, hown, hts⟩ (c_X6_has l dC dI g A hG f (gr g h0 3) p1 i_4) (cwV 1 hts (gi_V (fun w_ h0_ => ⟨List.mem_cons_of_mem _ (List.mem_append_right _ (List.mem_append_right _ (List.mem_append_left _ h0_))), (tb_c_X6_has w_ h0_).2⟩) (List.mem_cons_of_mem _ (List.mem_append_left _ (List.mem_of_getElem? (i := 1) rfl))) (List.mem_cons_of_mem _ (List.mem_append_left _ (List.mem_of_getElem? (i := 2) rfl))) (List.mem_cons_of_mem _ (List.mem_append_left _ (List.mem_of_getElem? (i := 3) rfl))) (List.mem_cons_of_mem _ (List.mem_append_left _ (List.mem_of_getElem? (i := 4) rfl)))) rfl rfl rfl (by decide +kernel) ⟨Nat.le_of_ble_eq_true rfl, Nat.le_of_ble_eq_true rfl⟩) ⟨fun a U g mk q => ⟨q.1, q.2.calling rfl rfl⟩, k_recv hK hI i_4.1 k_5 (ci := 6) rfl, fun U hU hW => ⟨rfl, kIn.of hI hK hE hS hU hW⟩⟩ rfl rfl hl.1 rfl (lv_room (Nat.le_of_ble_eq_true rfl)) dX11_share_5 ⟨Nat.le_of_ble_eq_true rfl, Nat.le_of_ble_eq_true rfl⟩) hS (fun q _ h => h) (fun q h => h) (fun r_14 u t H1 locs ht hvm w_13 hB hz1 hk1 hS => ?_)
  have hI : Iv dC dI g A f t.heap := hB
  rw [ht] at hI
  generalize H1 = H at hI hS ⊢
  refine W.widen (k := 0) (n := 0) (Nat.le_of_ble_eq_true rfl) (Nat.le_of_ble_eq_true rfl) ?_
  have w_13 : r_14.toInt = 0 ∨ (0 ≤ p1.toInt ∧ p1.toInt < 12) := w_13
  refine lv_if_eq (tgt := 23) hx hb dX11_share_8 (by decide) (fun c_15 => ?_) (fun c_15 => ?_)
  · have c_15 := kc_eq rfl (by decide : Int32.toInt 0 = 0) c_15
    refine lv_ldc2 hx hb hown (hts (.constantLong RX11 245 (-9223372036854775808)) (List.mem_cons_of_mem _ (List.mem_append_left _ (List.mem_of_getElem? (i := 5) rfl)))) dX11_share_23 ?_
    exact W.lret (v := (-9223372036854775808)) hx hb hr (fun t ht hW => ⟨⟨(-9223372036854775808), (), rfl, trivial, k_ret ht hI⟩, hS.F ht⟩) hS.2.2 dX11_share_26
  · have c_15 := kn_eq rfl (by decide : Int32.toInt 0 = 0) c_15
    refine lv_aload_n hx hb dX11_share_11 rfl (lv_at hl 0 rfl) ?_
    refine k_get (ci := 11) (v := .ref (gr g h0 3)) (C := RX11) (T := TX11) (N := 12) hx hb hts (fun _ h0_ => List.mem_cons_of_mem _ (List.mem_append_right _ (List.mem_append_left _ h0_))) hown hK hI i_h0.1 k_1 rfl 3 (by decide) (hts (.fieldLink RX11 37 "DeadlineShare" "now" "LDeadlineShare$State;") (List.mem_cons_of_mem _ (List.mem_append_left _ (List.mem_of_getElem? (i := 0) rfl)))) (fun _ h9 => h9) rfl dX11_share_12 ?_
    refine lv_iload_n hx hb dX11_share_15 rfl (lv_at hl 2 rfl) ?_
    refine lv_iload_n hx hb dX11_share_16 rfl (lv_at hl 3 rfl) ?_
    refine va_calli (va_runV (As := [.int p2, .int p3]) (rest := []) ⟨hx, hb, hml, hown, hts⟩ (c_X6_isWindow l dC dI g A hG f (gr g h0 3) p2 p3 i_4) (cwV 2 hts (gi_V (fun w_ h0_ => ⟨List.mem_cons_of_mem _ (List.mem_append_right _ (List.mem_append_right _ (List.mem_append_right _ (List.mem_append_left _ h0_)))), (tb_c_X6_isWindow w_ h0_).2⟩) (List.mem_cons_of_mem _ (List.mem_append_left _ (List.mem_of_getElem? (i := 6) rfl))) (List.mem_cons_of_mem _ (List.mem_append_left _ (List.mem_of_getElem? (i := 7) rfl))) (List.mem_cons_of_mem _ (List.mem_append_left _ (List.mem_of_getElem? (i := 8) rfl))) (List.mem_cons_of_mem _ (List.mem_append_left _ (List.mem_of_getElem? (i := 4) rfl)))) rfl rfl rfl (by decide +kernel) ⟨Nat.le_of_ble_eq_true rfl, Nat.le_of_ble_eq_true rfl⟩) ⟨fun a U g mk q => ⟨q.1, q.2.calling rfl rfl⟩, k_recv hK hI i_4.1 k_5 (ci := 6) rfl, fun U hU hW => ⟨rfl, kIn.of hI hK hE hS hU hW⟩⟩ rfl rfl hl.1 rfl (lv_room (Nat.le_of_ble_eq_true rfl)) dX11_share_17 ⟨Nat.le_of_ble_eq_true rfl, Nat.le_of_ble_eq_true rfl⟩) hS (fun q _ h => h) (fun q h => h) (fun r_19 u t H1 locs ht hvm w_18 hB hz1 hk1 hS => ?_)
    have hI : Iv dC dI g A f t.heap := hB
    rw [ht] at hI
    generalize H1 = H at hI hS ⊢
    refine W.widen (k := 0) (n := 0) (Nat.le_of_ble_eq_true rfl) (Nat.le_of_ble_eq_true rfl) ?_
    refine lv_if_ne (tgt := 27) hx hb dX11_share_20 (by decide) (fun c_20 => ?_) (fun c_20 => ?_)
    · have c_20 := kn_eq rfl (by decide : Int32.toInt 0 = 0) c_20
      refine lv_iload_n hx hb dX11_share_27 rfl (lv_at hl 2 rfl) ?_
      refine lv_iload_n hx hb dX11_share_28 rfl (lv_at hl 3 rfl) ?_
      refine lv_icmp_ne (tgt := 36) hx hb dX11_share_29 (by decide) (fun c_21 => ?_) (fun c_21 => ?_)
      · have c_21 := kn_eq rfl rfl c_21
        refine lv_aload_n hx hb dX11_share_36 rfl (lv_at hl 0 rfl) ?_
        refine k_get (ci := 11) (v := .ref (gr g h0 3)) (C := RX11) (T := TX11) (N := 12) hx hb hts (fun _ h0_ => List.mem_cons_of_mem _ (List.mem_append_right _ (List.mem_append_left _ h0_))) hown hK hI i_h0.1 k_1 rfl 3 (by decide) (hts (.fieldLink RX11 37 "DeadlineShare" "now" "LDeadlineShare$State;") (List.mem_cons_of_mem _ (List.mem_append_left _ (List.mem_of_getElem? (i := 0) rfl)))) (fun _ h9 => h9) rfl dX11_share_37 ?_
        refine k_get (ci := 6) (v := .ref (gr g (gr g h0 3) 2)) (C := RX6) (T := TX6) (N := 10) hx hb hts (fun _ h0_ => List.mem_cons_of_mem _ (List.mem_append_right _ (List.mem_append_right _ (List.mem_append_right _ (List.mem_append_right _ (List.mem_append_left _ h0_)))))) hown hK hI i_4.1 k_5 rfl 2 (by decide) (hts (.fieldLink RX11 287 "DeadlineShare$State" "log" "LDeadlineShare$Log;") (List.mem_cons_of_mem _ (List.mem_append_left _ (List.mem_of_getElem? (i := 9) rfl)))) (fun _ h9 => h9) rfl dX11_share_40 ?_
        have i_25 := kw_6_2 hG i_4
        refine lv_iload_n hx hb dX11_share_43 rfl (lv_at hl 1 rfl) ?_
        refine lv_iload_n hx hb dX11_share_44 rfl (lv_at hl 2 rfl) ?_
        refine lv_iload_n hx hb dX11_share_45 rfl (lv_at hl 3 rfl) ?_
        have k_26 := op_2 hI i_25
        refine va_calll (va_runV (As := [.int p1, .int p2, .int p3]) (rest := []) ⟨hx, hb, hml, hown, hts⟩ (c_X2_shareIn l dC dI g A hG f (gr g (gr g h0 3) 2) p1 p2 p3 i_25) (cwV 3 hts (gi_V (fun w_ h0_ => ⟨List.mem_cons_of_mem _ (List.mem_append_right _ (List.mem_append_right _ (List.mem_append_right _ (List.mem_append_right _ (List.mem_append_right _ (List.mem_append_left _ h0_)))))), (tb_c_X2_shareIn w_ h0_).2⟩) (List.mem_cons_of_mem _ (List.mem_append_left _ (List.mem_of_getElem? (i := 10) rfl))) (List.mem_cons_of_mem _ (List.mem_append_left _ (List.mem_of_getElem? (i := 11) rfl))) (List.mem_cons_of_mem _ (List.mem_append_left _ (List.mem_of_getElem? (i := 12) rfl))) (List.mem_cons_of_mem _ (List.mem_append_left _ (List.mem_of_getElem? (i := 13) rfl)))) rfl rfl rfl (by decide +kernel) ⟨Nat.le_of_ble_eq_true rfl, Nat.le_of_ble_eq_true rfl⟩) ⟨fun a U g mk q => ⟨q.1, q.2.calling rfl rfl⟩, k_recv hK hI i_25.1 k_26 (ci := 2) rfl, fun U hU hW => ⟨rfl, kIn.of hI hK hE hS hU hW⟩⟩ rfl rfl hl.1 rfl (lv_room (Nat.le_of_ble_eq_true rfl)) dX11_share_46 ⟨Nat.le_of_ble_eq_true rfl, Nat.le_of_ble_eq_true rfl⟩) hS (fun q _ h => h) (fun q h => h) (fun r_28 u t H1 locs ht hvm w_27 hB hz1 hk1 hS => ?_)
        have hI : Iv dC dI g A f t.heap := hB
        rw [ht] at hI
        generalize H1 = H at hI hS ⊢
        refine W.widen (k := 0) (n := 0) (Nat.le_of_ble_eq_true rfl) (Nat.le_of_ble_eq_true rfl) ?_
        exact W.lret (v := r_28) hx hb hr (fun t ht hW => ⟨⟨r_28, (), rfl, trivial, k_ret ht hI⟩, hS.F ht⟩) hS.2.2 dX11_share_49
      · have c_21 := kc_eq rfl rfl c_21
        refine lv_lconst (v := 0) hx hb dX11_share_32 (by decide) ?_
        refine lv_goto (tgt := 49) hx hb dX11_share_33 (by decide) ?_
        exact W.lret (v := 0) hx hb hr (fun t ht hW => ⟨⟨0, (), rfl, trivial, k_ret ht hI⟩, hS.F ht⟩) hS.2.2 dX11_share_49
    · have c_20 := kc_eq rfl (by decide : Int32.toInt 0 = 0) c_20
      refine lv_ldc2 hx hb hown (hts (.constantLong RX11 245 (-9223372036854775808)) (List.mem_cons_of_mem _ (List.mem_append_left _ (List.mem_of_getElem? (i := 5) rfl)))) dX11_share_23 ?_
      exact W.lret (v := (-9223372036854775808)) hx hb hr (fun t ht hW => ⟨⟨(-9223372036854775808), (), rfl, trivial, k_ret ht hI⟩, hS.F ht⟩) hS.2.2 dX11_share_26
theorem tw_677 : q_g (.selects RX2 yX2_edge yX2_edge) := ⟨(List.mem_append_right _ (List.mem_of_getElem? (i := 1015) (by decide +kernel))), good_of_word (by decide +kernel)⟩
theorem tw_678 : q_g (.instanceMethod yX2_edge) := ⟨(List.mem_append_right _ (List.mem_of_getElem? (i := 1014) (by decide +kernel))), good_of_word (by decide +kernel)⟩
theorem tw_679 : q_g (.methodLink RX11 310 yX2_edge) := ⟨(List.mem_append_right _ (List.mem_of_getElem? (i := 1013) (by decide +kernel))), good_of_word (by decide +kernel)⟩
theorem tw_680 : q_g (.methodLink RX11 307 yX6_firstInLog) := ⟨(List.mem_append_right _ (List.mem_of_getElem? (i := 1012) (by decide +kernel))), good_of_word (by decide +kernel)⟩
theorem tw_681 : q_g (.code yX11_worst cX11_worst 3 (some .long)) := ⟨(List.mem_append_right _ (List.mem_of_getElem? (i := 1011) (by decide +kernel))), good_of_word (by decide +kernel)⟩
def ow_c_X11_worst : List Cond := [.fieldLink RX11 37 "DeadlineShare" "now" "LDeadlineShare$State;", .methodLink RX11 130 yX6_has, .instanceMethod yX6_has, .selects RX6 yX6_has yX6_has, .initialized RX6, .constantLong RX11 245 (-9223372036854775808), .fieldLink RX11 287 "DeadlineShare$State" "log" "LDeadlineShare$Log;", .methodLink RX11 307 yX6_firstInLog, .instanceMethod yX6_firstInLog, .selects RX6 yX6_firstInLog yX6_firstInLog, .fieldLink RX11 223 "DeadlineShare$State" "time" "I", .methodLink RX11 310 yX2_edge, .instanceMethod yX2_edge, .selects RX2 yX2_edge yX2_edge, .initialized RX2]
def wq_c_X11_worst : List Cond := .code yX11_worst cX11_worst 3 (some .long) :: (ow_c_X11_worst ++ (u_ws RX11 TX11 12 ++ (wq_c_X6_has ++ (u_ws RX6 TX6 10 ++ (wq_c_X6_firstInLog ++ (wq_c_X2_edge ++ ([] : List Cond)))))))
theorem tb_c_X11_worst : ∀ w ∈ wq_c_X11_worst, q_g w := by
  unfold wq_c_X11_worst ow_c_X11_worst
  exact q_cons tw_681 (q_app (q_cons tw_558 (q_cons tw_571 (q_cons tw_74 (q_cons tw_73 (q_cons tw_47 (q_cons tw_638 (q_cons tw_661 (q_cons tw_680 (q_cons tw_495 (q_cons tw_494 (q_cons tw_617 (q_cons tw_679 (q_cons tw_678 (q_cons tw_677 (q_cons tw_147 q_nil))))))))))))))) (q_app tu_X11 (q_app tb_c_X6_has (q_app tu_X6 (q_app tb_c_X6_firstInLog (q_app tb_c_X2_edge q_nil))))))
set_option maxHeartbeats 4000000 in
set_option maxRecDepth 100000 in
theorem c_X11_worst (l : Launch) (dC : Nat → ClassId) (dI : Nat → Nat → Nat) (g : kG) (A : Nat → Prop) (hG : kWf g) (f : Nat → va_E) (h0 : Nat) (p1 : Int32) (p2 : Int32) (i_h0 : ik g 11 h0) : Met l yX11_worst wq_c_X11_worst ({ frames := 3, cells := 0, slots := 0, locals := 80 } : Room) (va_Pc [.ref h0, .int p1, .int p2] (fun U => kIn dC dI g A f U)) (va_Ql (fun (r : Int64) (_ : Unit) => True) (fun (_ : Unit) t => Iv dC dI g A f t.heap) A) 0 0 A := by
  refine Met.ofW (cc := cX11_worst) (maxL := 3) (ret := (some .long)) (by decide) rfl ?_
  intro p e s m args below meth c s₁ B hml hv
  obtain ⟨rfl, hI, hK, hE⟩ := hv
  have hx := B.exec
  have hb := B.bytes
  have hr := B.returns
  have hts := atoms_spec (ws := wq_c_X11_worst) B.pre
  have hown : s.vm.findClass RX11 = some m.cls := findClass_of_methodNamed B.named
  have hlocks := B.notSynchronized
  have hS : va_S A s.heap s.heap [] := va_S.rf
  have hl := lv_entry ([.ref h0, .int p1, .int p2]) (n := 3) (Nat.le_of_ble_eq_true rfl)
  rw [lg_entry_eq]
  generalize (lg_sl ([.ref h0, .int p1, .int p2]) ++ List.replicate (3 - (lg_sl ([.ref h0, .int p1, .int p2])).length) Slot.unset).toArray = ls at hl ⊢
  have hl : lv_has ls 3 [(0, .ref h0), (1, .int p1), (2, .int p2)] := hl
  refine lv_aload_n hx hb dX11_worst_0 rfl (lv_at hl 0 rfl) ?_
  obtain ⟨x_2, k_1⟩ := op_11 hI i_h0
  refine k_get (ci := 11) (v := .ref (gr g h0 3)) (C := RX11) (T := TX11) (N := 12) hx hb hts (fun _ h0_ => List.mem_cons_of_mem _ (List.mem_append_right _ (List.mem_append_left _ h0_))) hown hK hI i_h0.1 k_1 rfl 3 (by decide) (hts (.fieldLink RX11 37 "DeadlineShare" "now" "LDeadlineShare$State;") (List.mem_cons_of_mem _ (List.mem_append_left _ (List.mem_of_getElem? (i := 0) rfl)))) (fun _ h9 => h9) rfl dX11_worst_1 ?_
  have i_4 := kw_11_3 hG i_h0
  refine lv_iload_n hx hb dX11_worst_4 rfl (lv_at hl 1 rfl) ?_
  obtain ⟨x_6, x_7, x_8, x_9, x_10, k_5, b_11, b_12⟩ := op_6 hI i_4
  refine va_calli (va_runV (As := [.int p1]) (rest := []) ⟨hx, hb, hml, hown, hts⟩ (c_X6_has l dC dI g A hG f (gr g h0 3) p1 i_4) (cwV 1 hts (gi_V (fun w_ h0_ => ⟨List.mem_cons_of_mem _ (List.mem_append_right _ (List.mem_append_right _ (List.mem_append_left _ h0_))), (tb_c_X6_has w_ h0_).2⟩) (List.mem_cons_of_mem _ (List.mem_append_left _ (List.mem_of_getElem? (i := 1) rfl))) (List.mem_cons_of_mem _ (List.mem_append_left _ (List.mem_of_getElem? (i := 2) rfl))) (List.mem_cons_of_mem _ (List.mem_append_left _ (List.mem_of_getElem? (i := 3) rfl))) (List.mem_cons_of_mem _ (List.mem_append_left _ (List.mem_of_getElem? (i := 4) rfl)))) rfl rfl rfl (by decide +kernel) ⟨Nat.le_of_ble_eq_true rfl, Nat.le_of_ble_eq_true rfl⟩) ⟨fun a U g mk q => ⟨q.1, q.2.calling rfl rfl⟩, k_recv hK hI i_4.1 k_5 (ci := 6) rfl, fun U hU hW => ⟨rfl, kIn.of hI hK hE hS hU hW⟩⟩ rfl rfl hl.1 rfl (lv_room (Nat.le_of_ble_eq_true rfl)) dX11_worst_5 ⟨Nat.le_of_ble_eq_true rfl, Nat.le_of_ble_eq_true rfl⟩) hS (fun q _ h => h) (fun q h => h) (fun r_14 u t H1 locs ht hvm w_13 hB hz1 hk1 hS => ?_)
  have hI : Iv dC dI g A f t.heap := hB
  rw [ht] at hI
  generalize H1 = H at hI hS ⊢
  refine W.widen (k := 0) (n := 0) (Nat.le_of_ble_eq_true rfl) (Nat.le_of_ble_eq_true rfl) ?_
  have w_13 : r_14.toInt = 0 ∨ (0 ≤ p1.toInt ∧ p1.toInt < 12) := w_13
  refine lv_if_eq (tgt := 20) hx hb dX11_worst_8 (by decide) (fun c_15 => ?_) (fun c_15 => ?_)
  · have c_15 := kc_eq rfl (by decide : Int32.toInt 0 = 0) c_15
    refine lv_ldc2 hx hb hown (hts (.constantLong RX11 245 (-9223372036854775808)) (List.mem_cons_of_mem _ (List.mem_append_left _ (List.mem_of_getElem? (i := 5) rfl)))) dX11_worst_20 ?_
    exact W.lret (v := (-9223372036854775808)) hx hb hr (fun t ht hW => ⟨⟨(-9223372036854775808), (), rfl, trivial, k_ret ht hI⟩, hS.F ht⟩) hS.2.2 dX11_worst_23
  · have c_15 := kn_eq rfl (by decide : Int32.toInt 0 = 0) c_15
    refine lv_iload_n hx hb dX11_worst_11 rfl (lv_at hl 2 rfl) ?_
    refine lv_if_lt (tgt := 20) hx hb dX11_worst_12 (by decide) (fun c_16 => ?_) (fun c_16 => ?_)
    · have c_16 := kc_lt rfl (by decide : Int32.toInt 0 = 0) c_16
      refine lv_ldc2 hx hb hown (hts (.constantLong RX11 245 (-9223372036854775808)) (List.mem_cons_of_mem _ (List.mem_append_left _ (List.mem_of_getElem? (i := 5) rfl)))) dX11_worst_20 ?_
      exact W.lret (v := (-9223372036854775808)) hx hb hr (fun t ht hW => ⟨⟨(-9223372036854775808), (), rfl, trivial, k_ret ht hI⟩, hS.F ht⟩) hS.2.2 dX11_worst_23
    · have c_16 := kn_lt rfl (by decide : Int32.toInt 0 = 0) c_16
      refine lv_iload_n hx hb dX11_worst_15 rfl (lv_at hl 2 rfl) ?_
      refine lv_iconst (v := 1) hx hb dX11_worst_16 (by decide) ?_
      refine lv_icmp_le (tgt := 24) hx hb dX11_worst_17 (by decide) (fun c_17 => ?_) (fun c_17 => ?_)
      · have c_17 := kc_le rfl (by decide : Int32.toInt 1 = 1) c_17
        refine lv_aload_n hx hb dX11_worst_24 rfl (lv_at hl 0 rfl) ?_
        refine k_get (ci := 11) (v := .ref (gr g h0 3)) (C := RX11) (T := TX11) (N := 12) hx hb hts (fun _ h0_ => List.mem_cons_of_mem _ (List.mem_append_right _ (List.mem_append_left _ h0_))) hown hK hI i_h0.1 k_1 rfl 3 (by decide) (hts (.fieldLink RX11 37 "DeadlineShare" "now" "LDeadlineShare$State;") (List.mem_cons_of_mem _ (List.mem_append_left _ (List.mem_of_getElem? (i := 0) rfl)))) (fun _ h9 => h9) rfl dX11_worst_25 ?_
        refine k_get (ci := 6) (v := .ref (gr g (gr g h0 3) 2)) (C := RX6) (T := TX6) (N := 10) hx hb hts (fun _ h0_ => List.mem_cons_of_mem _ (List.mem_append_right _ (List.mem_append_right _ (List.mem_append_right _ (List.mem_append_left _ h0_))))) hown hK hI i_4.1 k_5 rfl 2 (by decide) (hts (.fieldLink RX11 287 "DeadlineShare$State" "log" "LDeadlineShare$Log;") (List.mem_cons_of_mem _ (List.mem_append_left _ (List.mem_of_getElem? (i := 6) rfl)))) (fun _ h9 => h9) rfl dX11_worst_28 ?_
        have i_21 := kw_6_2 hG i_4
        refine lv_iload_n hx hb dX11_worst_31 rfl (lv_at hl 1 rfl) ?_
        refine lv_aload_n hx hb dX11_worst_32 rfl (lv_at hl 0 rfl) ?_
        refine k_get (ci := 11) (v := .ref (gr g h0 3)) (C := RX11) (T := TX11) (N := 12) hx hb hts (fun _ h0_ => List.mem_cons_of_mem _ (List.mem_append_right _ (List.mem_append_left _ h0_))) hown hK hI i_h0.1 k_1 rfl 3 (by decide) (hts (.fieldLink RX11 37 "DeadlineShare" "now" "LDeadlineShare$State;") (List.mem_cons_of_mem _ (List.mem_append_left _ (List.mem_of_getElem? (i := 0) rfl)))) (fun _ h9 => h9) rfl dX11_worst_33 ?_
        refine va_calli (va_runV (As := []) (rest := [.int p1, .ref (gr g (gr g h0 3) 2)]) ⟨hx, hb, hml, hown, hts⟩ (c_X6_firstInLog l dC dI g A hG f (gr g h0 3) i_4) (cwV 0 hts (gi_V (fun w_ h0_ => ⟨List.mem_cons_of_mem _ (List.mem_append_right _ (List.mem_append_right _ (List.mem_append_right _ (List.mem_append_right _ (List.mem_append_left _ h0_))))), (tb_c_X6_firstInLog w_ h0_).2⟩) (List.mem_cons_of_mem _ (List.mem_append_left _ (List.mem_of_getElem? (i := 7) rfl))) (List.mem_cons_of_mem _ (List.mem_append_left _ (List.mem_of_getElem? (i := 8) rfl))) (List.mem_cons_of_mem _ (List.mem_append_left _ (List.mem_of_getElem? (i := 9) rfl))) (List.mem_cons_of_mem _ (List.mem_append_left _ (List.mem_of_getElem? (i := 4) rfl)))) rfl rfl rfl (by decide +kernel) ⟨Nat.le_of_ble_eq_true rfl, Nat.le_of_ble_eq_true rfl⟩) ⟨fun a U g mk q => ⟨q.1, q.2.calling rfl rfl⟩, k_recv hK hI i_4.1 k_5 (ci := 6) rfl, fun U hU hW => ⟨rfl, kIn.of hI hK hE hS hU hW⟩⟩ rfl rfl hl.1 rfl (lv_room (Nat.le_of_ble_eq_true rfl)) dX11_worst_36 ⟨Nat.le_of_ble_eq_true rfl, Nat.le_of_ble_eq_true rfl⟩) hS (fun q _ h => h) (fun q h => h) (fun r_25 u t H1 locs ht hvm w_24 hB hz1 hk1 hS => ?_)
        have hI : Iv dC dI g A f t.heap := hB
        rw [ht] at hI
        generalize H1 = H at hI hS ⊢
        refine W.widen (k := 0) (n := 0) (Nat.le_of_ble_eq_true rfl) (Nat.le_of_ble_eq_true rfl) ?_
        refine lv_aload_n hx hb dX11_worst_39 rfl (lv_at hl 0 rfl) ?_
        refine k_get (ci := 11) (v := .ref (gr g h0 3)) (C := RX11) (T := TX11) (N := 12) hx hb hts (fun _ h0_ => List.mem_cons_of_mem _ (List.mem_append_right _ (List.mem_append_left _ h0_))) hown hK hI i_h0.1 k_1 rfl 3 (by decide) (hts (.fieldLink RX11 37 "DeadlineShare" "now" "LDeadlineShare$State;") (List.mem_cons_of_mem _ (List.mem_append_left _ (List.mem_of_getElem? (i := 0) rfl)))) (fun _ h9 => h9) rfl dX11_worst_40 ?_
        refine k_get (ci := 6) (v := .int x_7) (C := RX6) (T := TX6) (N := 10) hx hb hts (fun _ h0_ => List.mem_cons_of_mem _ (List.mem_append_right _ (List.mem_append_right _ (List.mem_append_right _ (List.mem_append_left _ h0_))))) hown hK hI i_4.1 k_5 rfl 6 (by decide) (hts (.fieldLink RX11 223 "DeadlineShare$State" "time" "I") (List.mem_cons_of_mem _ (List.mem_append_left _ (List.mem_of_getElem? (i := 10) rfl)))) (fun _ h9 => h9) rfl dX11_worst_43 ?_
        refine lv_iload_n hx hb dX11_worst_46 rfl (lv_at hl 2 rfl) ?_
        have J_55 : ∀ (y_28 : Int32) (H : Heap) (locs : List Loc) (ls : Array Slot), Iv dC dI g A f H → va_S A s.heap H locs → lv_has ls 3 [(0, .ref h0), (1, .int p1), (2, .int p2)] → W p l e (headSpec wq_c_X11_worst ({ frames := 3, cells := 0, slots := 0, locals := 80 } : Room)).room s m ([.ref h0, .int p1, .int p2].toArray) below meth c H locs 0 0 (MQ below (va_Ql (fun (r : Int64) (_ : Unit) => True) (fun (_ : Unit) t => Iv dC dI g A f t.heap) A) ([.ref h0, .int p1, .int p2].toArray) s 0 0 A) (F0 m 55 ls [.int y_28, .int x_7, .int r_25, .int p1, .ref (gr g (gr g h0 3) 2)]) := by
          intro y_28 H locs ls hI hS  hl
          have k_29 := op_2 hI i_21
          refine va_calll (va_runV (As := [.int p1, .int r_25, .int x_7, .int y_28]) (rest := []) ⟨hx, hb, hml, hown, hts⟩ (c_X2_edge l dC dI g A hG f (gr g (gr g h0 3) 2) p1 r_25 x_7 y_28 i_21) (cwV 4 hts (gi_V (fun w_ h0_ => ⟨List.mem_cons_of_mem _ (List.mem_append_right _ (List.mem_append_right _ (List.mem_append_right _ (List.mem_append_right _ (List.mem_append_right _ (List.mem_append_left _ h0_)))))), (tb_c_X2_edge w_ h0_).2⟩) (List.mem_cons_of_mem _ (List.mem_append_left _ (List.mem_of_getElem? (i := 11) rfl))) (List.mem_cons_of_mem _ (List.mem_append_left _ (List.mem_of_getElem? (i := 12) rfl))) (List.mem_cons_of_mem _ (List.mem_append_left _ (List.mem_of_getElem? (i := 13) rfl))) (List.mem_cons_of_mem _ (List.mem_append_left _ (List.mem_of_getElem? (i := 14) rfl)))) rfl rfl rfl (by decide +kernel) ⟨Nat.le_of_ble_eq_true rfl, Nat.le_of_ble_eq_true rfl⟩) ⟨fun a U g mk q => ⟨q.1, q.2.calling rfl rfl⟩, k_recv hK hI i_21.1 k_29 (ci := 2) rfl, fun U hU hW => ⟨rfl, kIn.of hI hK hE hS hU hW⟩⟩ rfl rfl hl.1 rfl (lv_room (Nat.le_of_ble_eq_true rfl)) dX11_worst_55 ⟨Nat.le_of_ble_eq_true rfl, Nat.le_of_ble_eq_true rfl⟩) hS (fun q _ h => h) (fun q h => h) (fun r_31 u t H1 locs ht hvm w_30 hB hz1 hk1 hS => ?_)
          have hI : Iv dC dI g A f t.heap := hB
          rw [ht] at hI
          generalize H1 = H at hI hS ⊢
          refine W.widen (k := 0) (n := 0) (Nat.le_of_ble_eq_true rfl) (Nat.le_of_ble_eq_true rfl) ?_
          exact W.lret (v := r_31) hx hb hr (fun t ht hW => ⟨⟨r_31, (), rfl, trivial, k_ret ht hI⟩, hS.F ht⟩) hS.2.2 dX11_worst_58
        refine lv_if_ne (tgt := 54) hx hb dX11_worst_47 (by decide) (fun c_32 => ?_) (fun c_32 => ?_)
        · have c_32 := kn_eq rfl (by decide : Int32.toInt 0 = 0) c_32
          refine lv_iconst (v := 0) hx hb dX11_worst_54 (by decide) ?_
          exact J_55 0 _ _ _ hI hS  (lv_sub hl [0, 1, 2] rfl)
        · have c_32 := kc_eq rfl (by decide : Int32.toInt 0 = 0) c_32
          refine lv_iconst (v := 1) hx hb dX11_worst_50 (by decide) ?_
          refine lv_goto (tgt := 55) hx hb dX11_worst_51 (by decide) ?_
          exact J_55 1 _ _ _ hI hS  (lv_sub hl [0, 1, 2] rfl)
      · have c_17 := kn_le rfl (by decide : Int32.toInt 1 = 1) c_17
        refine lv_ldc2 hx hb hown (hts (.constantLong RX11 245 (-9223372036854775808)) (List.mem_cons_of_mem _ (List.mem_append_left _ (List.mem_of_getElem? (i := 5) rfl)))) dX11_worst_20 ?_
        exact W.lret (v := (-9223372036854775808)) hx hb hr (fun t ht hW => ⟨⟨(-9223372036854775808), (), rfl, trivial, k_ret ht hI⟩, hS.F ht⟩) hS.2.2 dX11_worst_23
