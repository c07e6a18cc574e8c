theorem tw_429 : q_g (.selects RX6 yX6_goOn yX6_goOn) := ⟨(List.mem_append_left _ (List.mem_of_getElem? (i := 8) (by decide +kernel))), good_of_word (by decide +kernel)⟩
theorem tw_430 : q_g (.instanceMethod yX6_goOn) := ⟨(List.mem_append_right _ (List.mem_of_getElem? (i := 726) (by decide +kernel))), good_of_word (by decide +kernel)⟩
theorem tw_431 : q_g (.methodLink RX6 238 yX6_goOn) := ⟨(List.mem_append_right _ (List.mem_of_getElem? (i := 724) (by decide +kernel))), good_of_word (by decide +kernel)⟩
theorem tw_432 : q_g (.selects RX6 yX6_enter yX6_enter) := ⟨(List.mem_append_right _ (List.mem_of_getElem? (i := 497) (by decide +kernel))), good_of_word (by decide +kernel)⟩
theorem tw_433 : q_g (.instanceMethod yX6_enter) := ⟨(List.mem_append_right _ (List.mem_of_getElem? (i := 496) (by decide +kernel))), good_of_word (by decide +kernel)⟩
theorem tw_434 : q_g (.methodLink RX6 229 yX6_enter) := ⟨(List.mem_append_right _ (List.mem_of_getElem? (i := 722) (by decide +kernel))), good_of_word (by decide +kernel)⟩
theorem tw_435 : q_g (.selects RX6 yX6_hasRoomFor yX6_hasRoomFor) := ⟨(List.mem_append_right _ (List.mem_of_getElem? (i := 489) (by decide +kernel))), good_of_word (by decide +kernel)⟩
theorem tw_436 : q_g (.instanceMethod yX6_hasRoomFor) := ⟨(List.mem_append_right _ (List.mem_of_getElem? (i := 488) (by decide +kernel))), good_of_word (by decide +kernel)⟩
theorem tw_437 : q_g (.methodLink RX6 226 yX6_hasRoomFor) := ⟨(List.mem_append_right _ (List.mem_of_getElem? (i := 796) (by decide +kernel))), good_of_word (by decide +kernel)⟩
theorem tw_438 : q_g (.selects RX8 yX8_isSpent yX8_isSpent) := ⟨(List.mem_append_right _ (List.mem_of_getElem? (i := 485) (by decide +kernel))), good_of_word (by decide +kernel)⟩
theorem tw_439 : q_g (.instanceMethod yX8_isSpent) := ⟨(List.mem_append_right _ (List.mem_of_getElem? (i := 484) (by decide +kernel))), good_of_word (by decide +kernel)⟩
theorem tw_440 : q_g (.methodLink RX6 223 yX8_isSpent) := ⟨(List.mem_append_right _ (List.mem_of_getElem? (i := 795) (by decide +kernel))), good_of_word (by decide +kernel)⟩
theorem tw_441 : q_g (.code yX6_wake cX6_wake 2 none) := ⟨(List.mem_append_right _ (List.mem_of_getElem? (i := 794) (by decide +kernel))), good_of_word (by decide +kernel)⟩
def ow_c_X6_wake : List Cond := [.fieldLink RX6 69 "DeadlineShare$Task" "state" "I", .fieldLink RX6 232 "DeadlineShare$Task" "napTill" "I", .fieldLink RX6 58 "DeadlineShare$State" "time" "I", .methodLink RX6 223 yX8_isSpent, .instanceMethod yX8_isSpent, .selects RX8 yX8_isSpent yX8_isSpent, .initialized RX8, .fieldLink RX6 72 "DeadlineShare$Task" "weight" "I", .methodLink RX6 226 yX6_hasRoomFor, .instanceMethod yX6_hasRoomFor, .selects RX6 yX6_hasRoomFor yX6_hasRoomFor, .initialized RX6, .methodLink RX6 229 yX6_enter, .instanceMethod yX6_enter, .selects RX6 yX6_enter yX6_enter, .fieldLink RX6 128 "DeadlineShare$Task" "script" "LDeadlineShare$Script;", .fieldLink RX6 235 "DeadlineShare$Script" "at" "I", .methodLink RX6 238 yX6_goOn, .instanceMethod yX6_goOn, .selects RX6 yX6_goOn yX6_goOn]
def wq_c_X6_wake : List Cond := .code yX6_wake cX6_wake 2 none :: (ow_c_X6_wake ++ (u_ws RX8 TX8 18 ++ (u_ws RX6 TX6 10 ++ (wq_c_X8_isSpent ++ (wq_c_X6_hasRoomFor ++ (wq_c_X6_enter ++ (u_ws RX5 TX5 5 ++ (wq_c_X6_goOn ++ ([] : List Cond)))))))))
theorem tb_c_X6_wake : ∀ w ∈ wq_c_X6_wake, q_g w := by
  unfold wq_c_X6_wake ow_c_X6_wake
  exact q_cons tw_441 (q_app (q_cons tw_24 (q_cons tw_416 (q_cons tw_146 (q_cons tw_440 (q_cons tw_439 (q_cons tw_438 (q_cons tw_8 (q_cons tw_23 (q_cons tw_437 (q_cons tw_436 (q_cons tw_435 (q_cons tw_47 (q_cons tw_434 (q_cons tw_433 (q_cons tw_432 (q_cons tw_349 (q_cons tw_420 (q_cons tw_431 (q_cons tw_430 (q_cons tw_429 q_nil)))))))))))))))))))) (q_app tu_X8 (q_app tu_X6 (q_app tb_c_X8_isSpent (q_app tb_c_X6_hasRoomFor (q_app tb_c_X6_enter (q_app tu_X5 (q_app tb_c_X6_goOn q_nil))))))))
set_option maxHeartbeats 4000000 in
set_option maxRecDepth 100000 in
theorem c_X6_wake (l : Launch) (dC : Nat → ClassId) (dI : Nat → Nat → Nat) (g : kG) (A : Nat → Prop) (hG : kWf g) (f : Nat → va_E) (h0 : Nat) (p1 : Nat) (i_h0 : ik g 6 h0) (i_p1 : ik g 8 p1) : Met l yX6_wake wq_c_X6_wake ({ frames := 4, cells := 0, slots := 0, locals := 96 } : Room) (va_Pc [.ref h0, .ref p1] (fun U => kIn dC dI g A f U)) (va_Qv (fun (_ : Unit) => True) (fun (_ : Unit) t => ∃ f1 : Nat → va_E, Iv dC dI g A f1 t.heap ∧ Kp g [5, 6, 8, 10] f f1) A) 0 0 A := by
  refine Met.ofW (cc := cX6_wake) (maxL := 2) (ret := none) (by decide) rfl ?_
  intro p e s m args below meth c s₁ B hml hv
  obtain ⟨rfl, hI, hK, hE⟩ := hv
  have hx := B.exec
  have hb := B.bytes
  have hr := B.returns
  have hts := atoms_spec (ws := wq_c_X6_wake) B.pre
  have hown : s.vm.findClass RX6 = some m.cls := findClass_of_methodNamed B.named
  have hlocks := B.notSynchronized
  have hS : va_S A s.heap s.heap [] := va_S.rf
  have hk0 : Kp g [5, 6, 8, 10] f f := Kp.rf
  have hl := lv_entry ([.ref h0, .ref p1]) (n := 2) (Nat.le_of_ble_eq_true rfl)
  rw [lg_entry_eq]
  generalize (lg_sl ([.ref h0, .ref p1]) ++ List.replicate (2 - (lg_sl ([.ref h0, .ref p1])).length) Slot.unset).toArray = ls at hl ⊢
  have hl : lv_has ls 2 [(0, .ref h0), (1, .ref p1)] := hl
  refine lv_aload_n hx hb dX6_wake_0 rfl (lv_at hl 1 rfl) ?_
  obtain ⟨x_2, x_3, x_4, x_5, x_6, x_7, x_8, x_9, x_10, x_11, x_12, x_13, x_14, x_15, x_16, x_17, k_1⟩ := op_8 hI i_p1
  refine k_get (ci := 8) (v := .int x_5) (C := RX8) (T := TX8) (N := 18) hx hb hts (fun _ h0_ => List.mem_cons_of_mem _ (List.mem_append_right _ (List.mem_append_left _ h0_))) hown hK hI i_p1.1 k_1 rfl 4 (by decide) (hts (.fieldLink RX6 69 "DeadlineShare$Task" "state" "I") (List.mem_cons_of_mem _ (List.mem_append_left _ (List.mem_of_getElem? (i := 0) rfl)))) (fun _ h9 => h9) rfl dX6_wake_1 ?_
  refine lv_iconst (v := 3) hx hb dX6_wake_4 (by decide) ?_
  refine lv_icmp_ne (tgt := 34) hx hb dX6_wake_5 (by decide) (fun c_18 => ?_) (fun c_18 => ?_)
  · have c_18 := kn_eq rfl (by decide : Int32.toInt 3 = 3) c_18
    refine lv_aload_n hx hb dX6_wake_34 rfl (lv_at hl 1 rfl) ?_
    refine k_get (ci := 8) (v := .int x_5) (C := RX8) (T := TX8) (N := 18) hx hb hts (fun _ h0_ => List.mem_cons_of_mem _ (List.mem_append_right _ (List.mem_append_left _ h0_))) hown hK hI i_p1.1 k_1 rfl 4 (by decide) (hts (.fieldLink RX6 69 "DeadlineShare$Task" "state" "I") (List.mem_cons_of_mem _ (List.mem_append_left _ (List.mem_of_getElem? (i := 0) rfl)))) (fun _ h9 => h9) rfl dX6_wake_35 ?_
    refine lv_iconst (v := 2) hx hb dX6_wake_38 (by decide) ?_
    refine lv_icmp_ne (tgt := 109) hx hb dX6_wake_39 (by decide) (fun c_19 => ?_) (fun c_19 => ?_)
    · have c_19 := kn_eq rfl (by decide : Int32.toInt 2 = 2) c_19
      exact W.vret hx hb hr (fun t ht hW => ⟨⟨(), rfl, trivial, ⟨f, k_ret ht hI, hk0⟩⟩, hS.F ht⟩) hS.2.2 dX6_wake_109
    · have c_19 := kc_eq rfl (by decide : Int32.toInt 2 = 2) c_19
      refine lv_aload_n hx hb dX6_wake_42 rfl (lv_at hl 1 rfl) ?_
      refine k_get (ci := 8) (v := .int x_14) (C := RX8) (T := TX8) (N := 18) hx hb hts (fun _ h0_ => List.mem_cons_of_mem _ (List.mem_append_right _ (List.mem_append_left _ h0_))) hown hK hI i_p1.1 k_1 rfl 14 (by decide) (hts (.fieldLink RX6 232 "DeadlineShare$Task" "napTill" "I") (List.mem_cons_of_mem _ (List.mem_append_left _ (List.mem_of_getElem? (i := 1) rfl)))) (fun _ h9 => h9) rfl dX6_wake_43 ?_
      refine lv_aload_n hx hb dX6_wake_46 rfl (lv_at hl 0 rfl) ?_
      obtain ⟨x_21, x_22, x_23, x_24, x_25, k_20, b_26, b_27⟩ := op_6 hI i_h0
      refine k_get (ci := 6) (v := .int x_22) (C := RX6) (T := TX6) (N := 10) hx hb hts (fun _ h0_ => List.mem_cons_of_mem _ (List.mem_append_right _ (List.mem_append_right _ (List.mem_append_left _ h0_)))) hown hK hI i_h0.1 k_20 rfl 6 (by decide) (hts (.fieldLink RX6 58 "DeadlineShare$State" "time" "I") (List.mem_cons_of_mem _ (List.mem_append_left _ (List.mem_of_getElem? (i := 2) rfl)))) (fun _ h9 => h9) rfl dX6_wake_47 ?_
      refine lv_icmp_gt (tgt := 109) hx hb dX6_wake_50 (by decide) (fun c_28 => ?_) (fun c_28 => ?_)
      · have c_28 := kc_lt rfl rfl c_28
        exact W.vret hx hb hr (fun t ht hW => ⟨⟨(), rfl, trivial, ⟨f, k_ret ht hI, hk0⟩⟩, hS.F ht⟩) hS.2.2 dX6_wake_109
      · have c_28 := kn_lt rfl rfl c_28
        refine lv_aload_n hx hb dX6_wake_53 rfl (lv_at hl 1 rfl) ?_
        refine va_calli (va_runV (As := []) (rest := []) ⟨hx, hb, hml, hown, hts⟩ (c_X8_isSpent l dC dI g A hG f p1 i_p1) (cwV 0 hts (gi_V (fun w_ h0_ => ⟨List.mem_cons_of_mem _ (List.mem_append_right _ (List.mem_append_right _ (List.mem_append_right _ (List.mem_append_left _ h0_)))), (tb_c_X8_isSpent w_ h0_).2⟩) (List.mem_cons_of_mem _ (List.mem_append_left _ (List.mem_of_getElem? (i := 3) rfl))) (List.mem_cons_of_mem _ (List.mem_append_left _ (List.mem_of_getElem? (i := 4) rfl))) (List.mem_cons_of_mem _ (List.mem_append_left _ (List.mem_of_getElem? (i := 5) rfl))) (List.mem_cons_of_mem _ (List.mem_append_left _ (List.mem_of_getElem? (i := 6) rfl)))) rfl rfl rfl (by decide +kernel) ⟨Nat.le_of_ble_eq_true rfl, Nat.le_of_ble_eq_true rfl⟩) ⟨fun a U g mk q => ⟨q.1, q.2.calling rfl rfl⟩, k_recv hK hI i_p1.1 k_1 (ci := 8) rfl, fun U hU hW => ⟨rfl, kIn.of hI hK hE hS hU hW⟩⟩ rfl rfl hl.1 rfl (lv_room (Nat.le_of_ble_eq_true rfl)) dX6_wake_54 ⟨Nat.le_of_ble_eq_true rfl, Nat.le_of_ble_eq_true rfl⟩) hS (fun q _ h => h) (fun q h => h) (fun r_30 u t H1 locs ht hvm w_29 hB hz1 hk1 hS => ?_)
        have hI : Iv dC dI g A f t.heap := hB
        rw [ht] at hI
        generalize H1 = H at hI hS ⊢
        refine W.widen (k := 0) (n := 0) (Nat.le_of_ble_eq_true rfl) (Nat.le_of_ble_eq_true rfl) ?_
        refine lv_if_ne (tgt := 71) hx hb dX6_wake_57 (by decide) (fun c_31 => ?_) (fun c_31 => ?_)
        · have c_31 := kn_eq rfl (by decide : Int32.toInt 0 = 0) c_31
          refine lv_aload_n hx hb dX6_wake_71 rfl (lv_at hl 1 rfl) ?_
          refine lv_aload_n hx hb dX6_wake_72 rfl (lv_at hl 0 rfl) ?_
          refine k_get (ci := 6) (v := .int x_22) (C := RX6) (T := TX6) (N := 10) hx hb hts (fun _ h0_ => List.mem_cons_of_mem _ (List.mem_append_right _ (List.mem_append_right _ (List.mem_append_left _ h0_)))) hown hK hI i_h0.1 k_20 rfl 6 (by decide) (hts (.fieldLink RX6 58 "DeadlineShare$State" "time" "I") (List.mem_cons_of_mem _ (List.mem_append_left _ (List.mem_of_getElem? (i := 2) rfl)))) (fun _ h9 => h9) rfl dX6_wake_73 ?_
          refine lv_iconst (v := 1) hx hb dX6_wake_76 (by decide) ?_
          refine lv_iadd hx hb dX6_wake_77 ?_
          refine lv_topi (fun v_32 ev_32 => ?_)
          have tv_32 := k_ad x_22 1
          rw [← ev_32, show Int32.toInt 1 = 1 from by decide] at tv_32
          refine k_put (ci := 8) (v := .int v_32) (ty := .int) (C := RX8) (T := TX8) (N := 18) hx hb hts (fun _ h0_ => List.mem_cons_of_mem _ (List.mem_append_right _ (List.mem_append_left _ h0_))) tyX8 tyX8_ok nmX8 hown hK hI hS i_p1.1 k_1 rfl 14 (by decide) (hts (.fieldLink RX6 232 "DeadlineShare$Task" "napTill" "I") (List.mem_cons_of_mem _ (List.mem_append_left _ (List.mem_of_getElem? (i := 1) rfl)))) (fun _ h9 => h9) rfl (by decide +kernel) rfl rfl (Nat.le_of_ble_eq_true rfl) rfl (cl_8 i_p1) dX6_wake_78 (fun f_33 H locs e_34 hI hS => ?_)
          have k_36 : f_33 p1 = .inr (8, [.int x_2, .ref (gr g p1 1), .int x_3, .int x_4, .int x_5, .long x_6, .int x_7, .ref (gr g p1 7), .int x_8, .int x_9, .int x_10, .int x_11, .int x_12, .int x_13, .int v_32, .int x_15, .int x_16, .int x_17]) := by rw [e_34]; exact va_up_self _ _ _
          have k_37 : f_33 h0 = .inr (6, [.ref (gr g h0 0), .ref (gr g h0 1), .ref (gr g h0 2), .ref (gr g h0 3), .ref (gr g h0 4), .int x_21, .int x_22, .long x_23, .int x_24, .int x_25]) := by rw [e_34, va_up_ne _ _ (ik_ne i_h0 i_p1 (by decide))]; exact k_20
          have kp_35 := Kp.put hk0 i_p1 (by decide) e_34
          exact W.vret hx hb hr (fun t ht hW => ⟨⟨(), rfl, trivial, ⟨f_33, k_ret ht hI, kp_35⟩⟩, hS.F ht⟩) hS.2.2 dX6_wake_81
        · have c_31 := kc_eq rfl (by decide : Int32.toInt 0 = 0) c_31
          refine lv_aload_n hx hb dX6_wake_60 rfl (lv_at hl 0 rfl) ?_
          refine lv_aload_n hx hb dX6_wake_61 rfl (lv_at hl 1 rfl) ?_
          refine k_get (ci := 8) (v := .int x_3) (C := RX8) (T := TX8) (N := 18) hx hb hts (fun _ h0_ => List.mem_cons_of_mem _ (List.mem_append_right _ (List.mem_append_left _ h0_))) hown hK hI i_p1.1 k_1 rfl 2 (by decide) (hts (.fieldLink RX6 72 "DeadlineShare$Task" "weight" "I") (List.mem_cons_of_mem _ (List.mem_append_left _ (List.mem_of_getElem? (i := 7) rfl)))) (fun _ h9 => h9) rfl dX6_wake_62 ?_
          refine va_calli (va_runV (As := [.int x_3]) (rest := []) ⟨hx, hb, hml, hown, hts⟩ (c_X6_hasRoomFor l dC dI g A hG f h0 x_3 i_h0) (cwV 1 hts (gi_V (fun w_ h0_ => ⟨List.mem_cons_of_mem _ (List.mem_append_right _ (List.mem_append_right _ (List.mem_append_right _ (List.mem_append_right _ (List.mem_append_left _ h0_))))), (tb_c_X6_hasRoomFor w_ h0_).2⟩) (List.mem_cons_of_mem _ (List.mem_append_left _ (List.mem_of_getElem? (i := 8) rfl))) (List.mem_cons_of_mem _ (List.mem_append_left _ (List.mem_of_getElem? (i := 9) rfl))) (List.mem_cons_of_mem _ (List.mem_append_left _ (List.mem_of_getElem? (i := 10) rfl))) (List.mem_cons_of_mem _ (List.mem_append_left _ (List.mem_of_getElem? (i := 11) rfl)))) rfl rfl rfl (by decide +kernel) ⟨Nat.le_of_ble_eq_true rfl, Nat.le_of_ble_eq_true rfl⟩) ⟨fun a U g mk q => ⟨q.1, q.2.calling rfl rfl⟩, k_recv hK hI i_h0.1 k_20 (ci := 6) rfl, fun U hU hW => ⟨rfl, kIn.of hI hK hE hS hU hW⟩⟩ rfl rfl hl.1 rfl (lv_room (Nat.le_of_ble_eq_true rfl)) dX6_wake_65 ⟨Nat.le_of_ble_eq_true rfl, Nat.le_of_ble_eq_true rfl⟩) hS (fun q _ h => h) (fun q h => h) (fun r_39 u t H1 locs ht hvm w_38 hB hz1 hk1 hS => ?_)
          have hI : Iv dC dI g A f t.heap := hB
          rw [ht] at hI
          generalize H1 = H at hI hS ⊢
          refine W.widen (k := 0) (n := 0) (Nat.le_of_ble_eq_true rfl) (Nat.le_of_ble_eq_true rfl) ?_
          refine lv_if_ne (tgt := 82) hx hb dX6_wake_68 (by decide) (fun c_40 => ?_) (fun c_40 => ?_)
          · have c_40 := kn_eq rfl (by decide : Int32.toInt 0 = 0) c_40
            refine lv_aload_n hx hb dX6_wake_82 rfl (lv_at hl 0 rfl) ?_
            refine lv_aload_n hx hb dX6_wake_83 rfl (lv_at hl 1 rfl) ?_
            refine va_callv (va_runV (As := [.ref p1]) (rest := []) ⟨hx, hb, hml, hown, hts⟩ (c_X6_enter l dC dI g A hG f h0 p1 i_h0 i_p1) (cwV 1 hts (gi_V (fun w_ h0_ => ⟨List.mem_cons_of_mem _ (List.mem_append_right _ (List.mem_append_right _ (List.mem_append_right _ (List.mem_append_right _ (List.mem_append_right _ (List.mem_append_left _ h0_)))))), (tb_c_X6_enter w_ h0_).2⟩) (List.mem_cons_of_mem _ (List.mem_append_left _ (List.mem_of_getElem? (i := 12) rfl))) (List.mem_cons_of_mem _ (List.mem_append_left _ (List.mem_of_getElem? (i := 13) rfl))) (List.mem_cons_of_mem _ (List.mem_append_left _ (List.mem_of_getElem? (i := 14) rfl))) (List.mem_cons_of_mem _ (List.mem_append_left _ (List.mem_of_getElem? (i := 11) rfl)))) rfl rfl rfl (by decide +kernel) ⟨Nat.le_of_ble_eq_true rfl, Nat.le_of_ble_eq_true rfl⟩) ⟨fun a U g mk q => ⟨q.1, q.2.calling rfl rfl⟩, k_recv hK hI i_h0.1 k_20 (ci := 6) rfl, fun U hU hW => ⟨rfl, kIn.of hI hK hE hS hU hW⟩⟩ rfl rfl hl.1 rfl (lv_room (Nat.le_of_ble_eq_true rfl)) dX6_wake_84 ⟨Nat.le_of_ble_eq_true rfl, Nat.le_of_ble_eq_true rfl⟩) hS (fun q _ h => h) (fun q h => h) (fun u t H1 locs ht hvm _ hB hz1 hk1 hS => ?_)
            obtain ⟨f_41, hI, kc_43⟩ := hB
            rw [ht] at hI
            have k_44 : f_41 h0 = .inr (6, [.ref (gr g h0 0), .ref (gr g h0 1), .ref (gr g h0 2), .ref (gr g h0 3), .ref (gr g h0 4), .int x_21, .int x_22, .long x_23, .int x_24, .int x_25]) := Kp.at kc_43 i_h0 (by decide) k_20
            have kp_45 := Kp.call hk0 kc_43 (by decide)
            generalize H1 = H at hI hS ⊢
            refine W.widen (k := 0) (n := 0) (Nat.le_of_ble_eq_true rfl) (Nat.le_of_ble_eq_true rfl) ?_
            refine lv_aload_n hx hb dX6_wake_87 rfl (lv_at hl 1 rfl) ?_
            obtain ⟨x_47, x_48, x_49, x_50, x_51, x_52, x_53, x_54, x_55, x_56, x_57, x_58, x_59, x_60, x_61, x_62, k_46⟩ := op_8 hI i_p1
            refine k_get (ci := 8) (v := .ref (gr g p1 1)) (C := RX8) (T := TX8) (N := 18) hx hb hts (fun _ h0_ => List.mem_cons_of_mem _ (List.mem_append_right _ (List.mem_append_left _ h0_))) hown hK hI i_p1.1 k_46 rfl 1 (by decide) (hts (.fieldLink RX6 128 "DeadlineShare$Task" "script" "LDeadlineShare$Script;") (List.mem_cons_of_mem _ (List.mem_append_left _ (List.mem_of_getElem? (i := 15) rfl)))) (fun _ h9 => h9) rfl dX6_wake_88 ?_
            have i_64 := kw_8_1 hG i_p1
            refine lv_dup hx hb dX6_wake_91 rfl ?_
            obtain ⟨x_66, x_67, x_68, x_69, k_65, b_70, b_71⟩ := op_5 hI i_64
            refine k_get (ci := 5) (v := .int x_67) (C := RX5) (T := TX5) (N := 5) hx hb hts (fun _ h0_ => List.mem_cons_of_mem _ (List.mem_append_right _ (List.mem_append_right _ (List.mem_append_right _ (List.mem_append_right _ (List.mem_append_right _ (List.mem_append_right _ (List.mem_append_left _ h0_)))))))) hown hK hI i_64.1 k_65 rfl 2 (by decide) (hts (.fieldLink RX6 235 "DeadlineShare$Script" "at" "I") (List.mem_cons_of_mem _ (List.mem_append_left _ (List.mem_of_getElem? (i := 16) rfl)))) (fun _ h9 => h9) rfl dX6_wake_92 ?_
            refine lv_iconst (v := 1) hx hb dX6_wake_95 (by decide) ?_
            refine lv_iadd hx hb dX6_wake_96 ?_
            refine lv_topi (fun v_72 ev_72 => ?_)
            have tv_72 := k_ad x_67 1
            rw [← ev_72, show Int32.toInt 1 = 1 from by decide] at tv_72
            refine k_put (ci := 5) (v := .int v_72) (ty := .int) (C := RX5) (T := TX5) (N := 5) hx hb hts (fun _ h0_ => List.mem_cons_of_mem _ (List.mem_append_right _ (List.mem_append_right _ (List.mem_append_right _ (List.mem_append_right _ (List.mem_append_right _ (List.mem_append_right _ (List.mem_append_left _ h0_)))))))) tyX5 tyX5_ok nmX5 hown hK hI hS i_64.1 k_65 rfl 2 (by decide) (hts (.fieldLink RX6 235 "DeadlineShare$Script" "at" "I") (List.mem_cons_of_mem _ (List.mem_append_left _ (List.mem_of_getElem? (i := 16) rfl)))) (fun _ h9 => h9) rfl (by decide +kernel) rfl rfl (Nat.le_of_ble_eq_true rfl) rfl (cl_5 i_64 (by omega)) dX6_wake_97 (fun f_73 H locs e_74 hI hS => ?_)
            have k_76 : f_73 h0 = .inr (6, [.ref (gr g h0 0), .ref (gr g h0 1), .ref (gr g h0 2), .ref (gr g h0 3), .ref (gr g h0 4), .int x_21, .int x_22, .long x_23, .int x_24, .int x_25]) := by rw [e_74, va_up_ne _ _ (ik_ne i_h0 i_64 (by decide))]; exact k_44
            have k_77 : f_73 p1 = .inr (8, [.int x_47, .ref (gr g p1 1), .int x_48, .int x_49, .int x_50, .long x_51, .int x_52, .ref (gr g p1 7), .int x_53, .int x_54, .int x_55, .int x_56, .int x_57, .int x_58, .int x_59, .int x_60, .int x_61, .int x_62]) := by rw [e_74, va_up_ne _ _ (ik_ne i_p1 i_64 (by decide))]; exact k_46
            have k_78 : f_73 (gr g p1 1) = .inr (5, [.ref (gr g (gr g p1 1) 0), .int x_66, .int v_72, .int x_68, .int x_69]) := by rw [e_74]; exact va_up_self _ _ _
            have kp_75 := Kp.put kp_45 i_64 (by decide) e_74
            refine lv_aload_n hx hb dX6_wake_100 rfl (lv_at hl 0 rfl) ?_
            refine lv_aload_n hx hb dX6_wake_101 rfl (lv_at hl 1 rfl) ?_
            refine lv_aload_n hx hb dX6_wake_102 rfl (lv_at hl 0 rfl) ?_
            refine k_get (ci := 6) (v := .int x_22) (C := RX6) (T := TX6) (N := 10) hx hb hts (fun _ h0_ => List.mem_cons_of_mem _ (List.mem_append_right _ (List.mem_append_right _ (List.mem_append_left _ h0_)))) hown hK hI i_h0.1 k_76 rfl 6 (by decide) (hts (.fieldLink RX6 58 "DeadlineShare$State" "time" "I") (List.mem_cons_of_mem _ (List.mem_append_left _ (List.mem_of_getElem? (i := 2) rfl)))) (fun _ h9 => h9) rfl dX6_wake_103 ?_
            refine va_callv (va_runV (As := [.ref p1, .int x_22]) (rest := []) ⟨hx, hb, hml, hown, hts⟩ (c_X6_goOn l dC dI g A hG f_73 h0 p1 x_22 i_h0 i_p1) (cwV 2 hts (gi_V (fun w_ h0_ => ⟨List.mem_cons_of_mem _ (List.mem_append_right _ (List.mem_append_right _ (List.mem_append_right _ (List.mem_append_right _ (List.mem_append_right _ (List.mem_append_right _ (List.mem_append_right _ (List.mem_append_left _ h0_)))))))), (tb_c_X6_goOn w_ h0_).2⟩) (List.mem_cons_of_mem _ (List.mem_append_left _ (List.mem_of_getElem? (i := 17) rfl))) (List.mem_cons_of_mem _ (List.mem_append_left _ (List.mem_of_getElem? (i := 18) rfl))) (List.mem_cons_of_mem _ (List.mem_append_left _ (List.mem_of_getElem? (i := 19) rfl))) (List.mem_cons_of_mem _ (List.mem_append_left _ (List.mem_of_getElem? (i := 11) rfl)))) rfl rfl rfl (by decide +kernel) ⟨Nat.le_of_ble_eq_true rfl, Nat.le_of_ble_eq_true rfl⟩) ⟨fun a U g mk q => ⟨q.1, q.2.calling rfl rfl⟩, k_recv hK hI i_h0.1 k_76 (ci := 6) rfl, fun U hU hW => ⟨rfl, kIn.of hI hK hE hS hU hW⟩⟩ rfl rfl hl.1 rfl (lv_room (Nat.le_of_ble_eq_true rfl)) dX6_wake_106 ⟨Nat.le_of_ble_eq_true rfl, Nat.le_of_ble_eq_true rfl⟩) hS (fun q _ h => h) (fun q h => h) (fun u t H1 locs ht hvm _ hB hz1 hk1 hS => ?_)
            obtain ⟨f_79, hI, kc_81⟩ := hB
            rw [ht] at hI
            have kp_82 := Kp.call kp_75 kc_81 (by decide)
            generalize H1 = H at hI hS ⊢
            refine W.widen (k := 0) (n := 0) (Nat.le_of_ble_eq_true rfl) (Nat.le_of_ble_eq_true rfl) ?_
            exact W.vret hx hb hr (fun t ht hW => ⟨⟨(), rfl, trivial, ⟨f_79, k_ret ht hI, kp_82⟩⟩, hS.F ht⟩) hS.2.2 dX6_wake_109
          · have c_40 := kc_eq rfl (by decide : Int32.toInt 0 = 0) c_40
            refine lv_aload_n hx hb dX6_wake_71 rfl (lv_at hl 1 rfl) ?_
            refine lv_aload_n hx hb dX6_wake_72 rfl (lv_at hl 0 rfl) ?_
            refine k_get (ci := 6) (v := .int x_22) (C := RX6) (T := TX6) (N := 10) hx hb hts (fun _ h0_ => List.mem_cons_of_mem _ (List.mem_append_right _ (List.mem_append_right _ (List.mem_append_left _ h0_)))) hown hK hI i_h0.1 k_20 rfl 6 (by decide) (hts (.fieldLink RX6 58 "DeadlineShare$State" "time" "I") (List.mem_cons_of_mem _ (List.mem_append_left _ (List.mem_of_getElem? (i := 2) rfl)))) (fun _ h9 => h9) rfl dX6_wake_73 ?_
            refine lv_iconst (v := 1) hx hb dX6_wake_76 (by decide) ?_
            refine lv_iadd hx hb dX6_wake_77 ?_
            refine lv_topi (fun v_83 ev_83 => ?_)
            have tv_83 := k_ad x_22 1
            rw [← ev_83, show Int32.toInt 1 = 1 from by decide] at tv_83
            refine k_put (ci := 8) (v := .int v_83) (ty := .int) (C := RX8) (T := TX8) (N := 18) hx hb hts (fun _ h0_ => List.mem_cons_of_mem _ (List.mem_append_right _ (List.mem_append_left _ h0_))) tyX8 tyX8_ok nmX8 hown hK hI hS i_p1.1 k_1 rfl 14 (by decide) (hts (.fieldLink RX6 232 "DeadlineShare$Task" "napTill" "I") (List.mem_cons_of_mem _ (List.mem_append_left _ (List.mem_of_getElem? (i := 1) rfl)))) (fun _ h9 => h9) rfl (by decide +kernel) rfl rfl (Nat.le_of_ble_eq_true rfl) rfl (cl_8 i_p1) dX6_wake_78 (fun f_84 H locs e_85 hI hS => ?_)
            have k_87 : f_84 p1 = .inr (8, [.int x_2, .ref (gr g p1 1), .int x_3, .int x_4, .int x_5, .long x_6, .int x_7, .ref (gr g p1 7), .int x_8, .int x_9, .int x_10, .int x_11, .int x_12, .int x_13, .int v_83, .int x_15, .int x_16, .int x_17]) := by rw [e_85]; exact va_up_self _ _ _
            have k_88 : f_84 h0 = .inr (6, [.ref (gr g h0 0), .ref (gr g h0 1), .ref (gr g h0 2), .ref (gr g h0 3), .ref (gr g h0 4), .int x_21, .int x_22, .long x_23, .int x_24, .int x_25]) := by rw [e_85, va_up_ne _ _ (ik_ne i_h0 i_p1 (by decide))]; exact k_20
            have kp_86 := Kp.put hk0 i_p1 (by decide) e_85
            exact W.vret hx hb hr (fun t ht hW => ⟨⟨(), rfl, trivial, ⟨f_84, k_ret ht hI, kp_86⟩⟩, hS.F ht⟩) hS.2.2 dX6_wake_81
  · have c_18 := kc_eq rfl (by decide : Int32.toInt 3 = 3) c_18
    refine lv_aload_n hx hb dX6_wake_8 rfl (lv_at hl 1 rfl) ?_
    refine va_calli (va_runV (As := []) (rest := []) ⟨hx, hb, hml, hown, hts⟩ (c_X8_isSpent l dC dI g A hG f p1 i_p1) (cwV 0 hts (gi_V (fun w_ h0_ => ⟨List.mem_cons_of_mem _ (List.mem_append_right _ (List.mem_append_right _ (List.mem_append_right _ (List.mem_append_left _ h0_)))), (tb_c_X8_isSpent w_ h0_).2⟩) (List.mem_cons_of_mem _ (List.mem_append_left _ (List.mem_of_getElem? (i := 3) rfl))) (List.mem_cons_of_mem _ (List.mem_append_left _ (List.mem_of_getElem? (i := 4) rfl))) (List.mem_cons_of_mem _ (List.mem_append_left _ (List.mem_of_getElem? (i := 5) rfl))) (List.mem_cons_of_mem _ (List.mem_append_left _ (List.mem_of_getElem? (i := 6) rfl)))) rfl rfl rfl (by decide +kernel) ⟨Nat.le_of_ble_eq_true rfl, Nat.le_of_ble_eq_true rfl⟩) ⟨fun a U g mk q => ⟨q.1, q.2.calling rfl rfl⟩, k_recv hK hI i_p1.1 k_1 (ci := 8) rfl, fun U hU hW => ⟨rfl, kIn.of hI hK hE hS hU hW⟩⟩ rfl rfl hl.1 rfl (lv_room (Nat.le_of_ble_eq_true rfl)) dX6_wake_9 ⟨Nat.le_of_ble_eq_true rfl, Nat.le_of_ble_eq_true rfl⟩) hS (fun q _ h => h) (fun q h => h) (fun r_90 u t H1 locs ht hvm w_89 hB hz1 hk1 hS => ?_)
    have hI : Iv dC dI g A f t.heap := hB
    rw [ht] at hI
    generalize H1 = H at hI hS ⊢
    refine W.widen (k := 0) (n := 0) (Nat.le_of_ble_eq_true rfl) (Nat.le_of_ble_eq_true rfl) ?_
    refine lv_if_ne (tgt := 109) hx hb dX6_wake_12 (by decide) (fun c_91 => ?_) (fun c_91 => ?_)
    · have c_91 := kn_eq rfl (by decide : Int32.toInt 0 = 0) c_91
      exact W.vret hx hb hr (fun t ht hW => ⟨⟨(), rfl, trivial, ⟨f, k_ret ht hI, hk0⟩⟩, hS.F ht⟩) hS.2.2 dX6_wake_109
    · have c_91 := kc_eq rfl (by decide : Int32.toInt 0 = 0) c_91
      refine lv_aload_n hx hb dX6_wake_15 rfl (lv_at hl 0 rfl) ?_
      refine lv_aload_n hx hb dX6_wake_16 rfl (lv_at hl 1 rfl) ?_
      refine k_get (ci := 8) (v := .int x_3) (C := RX8) (T := TX8) (N := 18) hx hb hts (fun _ h0_ => List.mem_cons_of_mem _ (List.mem_append_right _ (List.mem_append_left _ h0_))) hown hK hI i_p1.1 k_1 rfl 2 (by decide) (hts (.fieldLink RX6 72 "DeadlineShare$Task" "weight" "I") (List.mem_cons_of_mem _ (List.mem_append_left _ (List.mem_of_getElem? (i := 7) rfl)))) (fun _ h9 => h9) rfl dX6_wake_17 ?_
      obtain ⟨x_93, x_94, x_95, x_96, x_97, k_92, b_98, b_99⟩ := op_6 hI i_h0
      refine va_calli (va_runV (As := [.int x_3]) (rest := []) ⟨hx, hb, hml, hown, hts⟩ (c_X6_hasRoomFor l dC dI g A hG f h0 x_3 i_h0) (cwV 1 hts (gi_V (fun w_ h0_ => ⟨List.mem_cons_of_mem _ (List.mem_append_right _ (List.mem_append_right _ (List.mem_append_right _ (List.mem_append_right _ (List.mem_append_left _ h0_))))), (tb_c_X6_hasRoomFor w_ h0_).2⟩) (List.mem_cons_of_mem _ (List.mem_append_left _ (List.mem_of_getElem? (i := 8) rfl))) (List.mem_cons_of_mem _ (List.mem_append_left _ (List.mem_of_getElem? (i := 9) rfl))) (List.mem_cons_of_mem _ (List.mem_append_left _ (List.mem_of_getElem? (i := 10) rfl))) (List.mem_cons_of_mem _ (List.mem_append_left _ (List.mem_of_getElem? (i := 11) rfl)))) rfl rfl rfl (by decide +kernel) ⟨Nat.le_of_ble_eq_true rfl, Nat.le_of_ble_eq_true rfl⟩) ⟨fun a U g mk q => ⟨q.1, q.2.calling rfl rfl⟩, k_recv hK hI i_h0.1 k_92 (ci := 6) rfl, fun U hU hW => ⟨rfl, kIn.of hI hK hE hS hU hW⟩⟩ rfl rfl hl.1 rfl (lv_room (Nat.le_of_ble_eq_true rfl)) dX6_wake_20 ⟨Nat.le_of_ble_eq_true rfl, Nat.le_of_ble_eq_true rfl⟩) hS (fun q _ h => h) (fun q h => h) (fun r_101 u t H1 locs ht hvm w_100 hB hz1 hk1 hS => ?_)
      have hI : Iv dC dI g A f t.heap := hB
      rw [ht] at hI
      generalize H1 = H at hI hS ⊢
      refine W.widen (k := 0) (n := 0) (Nat.le_of_ble_eq_true rfl) (Nat.le_of_ble_eq_true rfl) ?_
      refine lv_if_eq (tgt := 109) hx hb dX6_wake_23 (by decide) (fun c_102 => ?_) (fun c_102 => ?_)
      · have c_102 := kc_eq rfl (by decide : Int32.toInt 0 = 0) c_102
        exact W.vret hx hb hr (fun t ht hW => ⟨⟨(), rfl, trivial, ⟨f, k_ret ht hI, hk0⟩⟩, hS.F ht⟩) hS.2.2 dX6_wake_109
      · have c_102 := kn_eq rfl (by decide : Int32.toInt 0 = 0) c_102
        refine lv_aload_n hx hb dX6_wake_26 rfl (lv_at hl 0 rfl) ?_
        refine lv_aload_n hx hb dX6_wake_27 rfl (lv_at hl 1 rfl) ?_
        refine va_callv (va_runV (As := [.ref p1]) (rest := []) ⟨hx, hb, hml, hown, hts⟩ (c_X6_enter l dC dI g A hG f h0 p1 i_h0 i_p1) (cwV 1 hts (gi_V (fun w_ h0_ => ⟨List.mem_cons_of_mem _ (List.mem_append_right _ (List.mem_append_right _ (List.mem_append_right _ (List.mem_append_right _ (List.mem_append_right _ (List.mem_append_left _ h0_)))))), (tb_c_X6_enter w_ h0_).2⟩) (List.mem_cons_of_mem _ (List.mem_append_left _ (List.mem_of_getElem? (i := 12) rfl))) (List.mem_cons_of_mem _ (List.mem_append_left _ (List.mem_of_getElem? (i := 13) rfl))) (List.mem_cons_of_mem _ (List.mem_append_left _ (List.mem_of_getElem? (i := 14) rfl))) (List.mem_cons_of_mem _ (List.mem_append_left _ (List.mem_of_getElem? (i := 11) rfl)))) rfl rfl rfl (by decide +kernel) ⟨Nat.le_of_ble_eq_true rfl, Nat.le_of_ble_eq_true rfl⟩) ⟨fun a U g mk q => ⟨q.1, q.2.calling rfl rfl⟩, k_recv hK hI i_h0.1 k_92 (ci := 6) rfl, fun U hU hW => ⟨rfl, kIn.of hI hK hE hS hU hW⟩⟩ rfl rfl hl.1 rfl (lv_room (Nat.le_of_ble_eq_true rfl)) dX6_wake_28 ⟨Nat.le_of_ble_eq_true rfl, Nat.le_of_ble_eq_true rfl⟩) hS (fun q _ h => h) (fun q h => h) (fun u t H1 locs ht hvm _ hB hz1 hk1 hS => ?_)
        obtain ⟨f_103, hI, kc_105⟩ := hB
        rw [ht] at hI
        have k_106 : f_103 h0 = .inr (6, [.ref (gr g h0 0), .ref (gr g h0 1), .ref (gr g h0 2), .ref (gr g h0 3), .ref (gr g h0 4), .int x_93, .int x_94, .long x_95, .int x_96, .int x_97]) := Kp.at kc_105 i_h0 (by decide) k_92
        have kp_107 := Kp.call hk0 kc_105 (by decide)
        generalize H1 = H at hI hS ⊢
        refine W.widen (k := 0) (n := 0) (Nat.le_of_ble_eq_true rfl) (Nat.le_of_ble_eq_true rfl) ?_
        refine lv_goto (tgt := 109) hx hb dX6_wake_31 (by decide) ?_
        exact W.vret hx hb hr (fun t ht hW => ⟨⟨(), rfl, trivial, ⟨f_103, k_ret ht hI, kp_107⟩⟩, hS.F ht⟩) hS.2.2 dX6_wake_109
theorem tw_442 : q_g (.static yX2_weightAsBits) := ⟨(List.mem_append_right _ (List.mem_of_getElem? (i := 841) (by decide +kernel))), good_of_word (by decide +kernel)⟩
theorem tw_443 : q_g (.methodLink RX6 242 yX2_weightAsBits) := ⟨(List.mem_append_right _ (List.mem_of_getElem? (i := 840) (by decide +kernel))), good_of_word (by decide +kernel)⟩
theorem tw_444 : q_g (.code yX6_weightsAsBits cX6_weightsAsBits 4 (some .long)) := ⟨(List.mem_append_right _ (List.mem_of_getElem? (i := 839) (by decide +kernel))), good_of_word (by decide +kernel)⟩
def ow_c_X6_weightsAsBits : List Cond := [.fieldLink RX6 48 "DeadlineShare$State" "count" "I", .fieldLink RX6 11 "DeadlineShare$State" "tasks" "[LDeadlineShare$Task;", .methodLink RX6 111 yX8_isOn, .instanceMethod yX8_isOn, .selects RX8 yX8_isOn yX8_isOn, .initialized RX8, .fieldLink RX6 72 "DeadlineShare$Task" "weight" "I", .methodLink RX6 242 yX2_weightAsBits, .static yX2_weightAsBits, .initialized RX2]
def wq_c_X6_weightsAsBits : List Cond := .code yX6_weightsAsBits cX6_weightsAsBits 4 (some .long) :: (ow_c_X6_weightsAsBits ++ (u_ws RX6 TX6 10 ++ (wq_c_X8_isOn ++ (u_ws RX8 TX8 18 ++ (wq_c_X2_weightAsBits ++ ([] : List Cond))))))
theorem tb_c_X6_weightsAsBits : ∀ w ∈ wq_c_X6_weightsAsBits, q_g w := by
  unfold wq_c_X6_weightsAsBits ow_c_X6_weightsAsBits
  exact q_cons tw_444 (q_app (q_cons tw_13 (q_cons tw_12 (q_cons tw_11 (q_cons tw_10 (q_cons tw_9 (q_cons tw_8 (q_cons tw_23 (q_cons tw_443 (q_cons tw_442 (q_cons tw_147 q_nil)))))))))) (q_app tu_X6 (q_app tb_c_X8_isOn (q_app tu_X8 (q_app tb_c_X2_weightAsBits q_nil)))))
set_option maxHeartbeats 4000000 in
set_option maxRecDepth 100000 in
theorem c_X6_weightsAsBits (l : Launch) (dC : Nat → ClassId) (dI : Nat → Nat → Nat) (g : kG) (A : Nat → Prop) (hG : kWf g) (f : Nat → va_E) (h0 : Nat) (i_h0 : ik g 6 h0) : Met l yX6_weightsAsBits wq_c_X6_weightsAsBits ({ frames := 1, cells := 0, slots := 0, locals := 21 } : Room) (va_Pc [.ref h0] (fun U => kIn dC dI g A f U)) (va_Ql (fun (r : Int64) (_ : Unit) => True) (fun (_ : Unit) t => Iv dC dI g A f t.heap) A) 0 0 A := by
  refine Met.ofW (cc := cX6_weightsAsBits) (maxL := 4) (ret := (some .long)) (by decide) rfl ?_
  intro p e s m args below meth c s₁ B hml hv
  obtain ⟨rfl, hI, hK, hE⟩ := hv
  have hx := B.exec
  have hb := B.bytes
  have hr := B.returns
  have hts := atoms_spec (ws := wq_c_X6_weightsAsBits) B.pre
  have hown : s.vm.findClass RX6 = some m.cls := findClass_of_methodNamed B.named
  have hlocks := B.notSynchronized
  have hS : va_S A s.heap s.heap [] := va_S.rf
  have hl := lv_entry ([.ref h0]) (n := 4) (Nat.le_of_ble_eq_true rfl)
  rw [lg_entry_eq]
  generalize (lg_sl ([.ref h0]) ++ List.replicate (4 - (lg_sl ([.ref h0])).length) Slot.unset).toArray = ls at hl ⊢
  have hl : lv_has ls 4 [(0, .ref h0)] := hl
  refine lv_lconst (v := 0) hx hb dX6_weightsAsBits_0 (by decide) ?_
  refine lv_lstore_n (lv' := [(1, .long 0), (0, .ref h0)]) hx hb dX6_weightsAsBits_1 rfl hl (by decide) rfl (fun ls hl => ?_)
  refine lv_iconst (v := 0) hx hb dX6_weightsAsBits_2 (by decide) ?_
  refine lv_istore_n (lv' := [(3, .int 0), (1, .long 0), (0, .ref h0)]) hx hb dX6_weightsAsBits_3 rfl hl (by decide) rfl (fun ls hl => ?_)
  have K_4 : ∀ (nn : Nat) (y_1 : Int32) (y_2 : Int64) (H : Heap) (locs : List Loc) (ls : Array Slot), (12 - y_1.toInt).toNat < nn → Iv dC dI g A f H → va_S A s.heap H locs → (0 ≤ y_1.toInt) → lv_has ls 4 [(3, .int y_1), (1, .long y_2), (0, .ref h0)] → W p l e (headSpec wq_c_X6_weightsAsBits ({ frames := 1, cells := 0, slots := 0, locals := 21 } : Room)).room s m ([.ref h0].toArray) below meth c H locs 0 0 (MQ below (va_Ql (fun (r : Int64) (_ : Unit) => True) (fun (_ : Unit) t => Iv dC dI g A f t.heap) A) ([.ref h0].toArray) s 0 0 A) (F0 m 4 ls []) := by
    intro nn
    induction nn with
    | zero => intro y_1 y_2 H locs ls m_4; exact absurd m_4 (Nat.not_lt_zero _)
    | succ nn ih =>
      intro y_1 y_2 H locs ls m_4 hI hS t_3 hl
      have g_5 := Int32.toInt_lt y_1
      have g_6 := Int32.le_toInt y_1
      refine lv_iload_n hx hb dX6_weightsAsBits_4 rfl (lv_at hl 0 rfl) ?_
      refine lv_aload_n hx hb dX6_weightsAsBits_5 rfl (lv_at hl 2 rfl) ?_
      obtain ⟨x_8, x_9, x_10, x_11, x_12, k_7, b_13, b_14⟩ := op_6 hI i_h0
      refine k_get (ci := 6) (v := .int x_8) (C := RX6) (T := TX6) (N := 10) hx hb hts (fun _ h0_ => List.mem_cons_of_mem _ (List.mem_append_right _ (List.mem_append_left _ h0_))) hown hK hI i_h0.1 k_7 rfl 5 (by decide) (hts (.fieldLink RX6 48 "DeadlineShare$State" "count" "I") (List.mem_cons_of_mem _ (List.mem_append_left _ (List.mem_of_getElem? (i := 0) rfl)))) (fun _ h9 => h9) rfl dX6_weightsAsBits_6 ?_
      refine lv_icmp_ge (tgt := 46) hx hb dX6_weightsAsBits_9 (by decide) (fun c_15 => ?_) (fun c_15 => ?_)
      · have c_15 := kc_le rfl rfl c_15
        refine lv_lload_n hx hb dX6_weightsAsBits_46 rfl (lv_at hl 1 rfl) ?_
        exact W.lret (v := y_2) hx hb hr (fun t ht hW => ⟨⟨y_2, (), rfl, trivial, k_ret ht hI⟩, hS.F ht⟩) hS.2.2 dX6_weightsAsBits_47
      · have c_15 := kn_le rfl rfl c_15
        refine lv_aload_n hx hb dX6_weightsAsBits_12 rfl (lv_at hl 2 rfl) ?_
        refine k_get (ci := 6) (v := .ref (gr g h0 1)) (C := RX6) (T := TX6) (N := 10) hx hb hts (fun _ h0_ => List.mem_cons_of_mem _ (List.mem_append_right _ (List.mem_append_left _ h0_))) hown hK hI i_h0.1 k_7 rfl 1 (by decide) (hts (.fieldLink RX6 11 "DeadlineShare$State" "tasks" "[LDeadlineShare$Task;") (List.mem_cons_of_mem _ (List.mem_append_left _ (List.mem_of_getElem? (i := 1) rfl)))) (fun _ h9 => h9) rfl dX6_weightsAsBits_13 ?_
        have i_17 := kw_6_1 hG i_h0
        refine lv_iload_n hx hb dX6_weightsAsBits_16 rfl (lv_at hl 0 rfl) ?_
        obtain ⟨q_19, k_18, b_20⟩ := op_20 hI i_17
        refine k_aald hx hb hK hI i_17.1 4 k_18 rfl (vp_in_iff.mpr (by omega)) b_20 (fun _ hj => kw_20 hG i_17 hj) dX6_weightsAsBits_17 (fun a_21 i_22 => ?_)
        obtain ⟨x_24, x_25, x_26, x_27, x_28, x_29, x_30, x_31, x_32, x_33, x_34, x_35, x_36, x_37, x_38, x_39, k_23⟩ := op_8 hI i_22
        refine va_calli (va_runV (As := []) (rest := []) ⟨hx, hb, hml, hown, hts⟩ (c_X8_isOn l dC dI g A hG f a_21 i_22) (cwV 0 hts (gi_V (fun w_ h0_ => ⟨List.mem_cons_of_mem _ (List.mem_append_right _ (List.mem_append_right _ (List.mem_append_left _ h0_))), (tb_c_X8_isOn w_ h0_).2⟩) (List.mem_cons_of_mem _ (List.mem_append_left _ (List.mem_of_getElem? (i := 2) rfl))) (List.mem_cons_of_mem _ (List.mem_append_left _ (List.mem_of_getElem? (i := 3) rfl))) (List.mem_cons_of_mem _ (List.mem_append_left _ (List.mem_of_getElem? (i := 4) rfl))) (List.mem_cons_of_mem _ (List.mem_append_left _ (List.mem_of_getElem? (i := 5) rfl)))) rfl rfl rfl (by decide +kernel) ⟨Nat.le_of_ble_eq_true rfl, Nat.le_of_ble_eq_true rfl⟩) ⟨fun a U g mk q => ⟨q.1, q.2.calling rfl rfl⟩, k_recv hK hI i_22.1 k_23 (ci := 8) rfl, fun U hU hW => ⟨rfl, kIn.of hI hK hE hS hU hW⟩⟩ rfl rfl hl.1 rfl (lv_room (Nat.le_of_ble_eq_true rfl)) dX6_weightsAsBits_18 ⟨Nat.le_of_ble_eq_true rfl, Nat.le_of_ble_eq_true rfl⟩) hS (fun q _ h => h) (fun q h => h) (fun r_41 u t H1 locs ht hvm w_40 hB hz1 hk1 hS => ?_)
        have hI : Iv dC dI g A f t.heap := hB
        rw [ht] at hI
        generalize H1 = H at hI hS ⊢
        refine W.widen (k := 0) (n := 0) (Nat.le_of_ble_eq_true rfl) (Nat.le_of_ble_eq_true rfl) ?_
        have J_40 : ∀ (y_42 : Int64) (H : Heap) (locs : List Loc) (ls : Array Slot), Iv dC dI g A f H → va_S A s.heap H locs → lv_has ls 4 [(3, .int y_1), (1, .long y_42), (0, .ref h0)] → W p l e (headSpec wq_c_X6_weightsAsBits ({ frames := 1, cells := 0, slots := 0, locals := 21 } : Room)).room s m ([.ref h0].toArray) below meth c H locs 0 0 (MQ below (va_Ql (fun (r : Int64) (_ : Unit) => True) (fun (_ : Unit) t => Iv dC dI g A f t.heap) A) ([.ref h0].toArray) s 0 0 A) (F0 m 40 ls []) := by
          intro y_42 H locs ls hI hS  hl
          obtain ⟨v_43, ev_43⟩ : ∃ y : Int32, y = y_1 + Int32.ofInt 1 := ⟨_, rfl⟩
          refine lv_iinc (v := v_43) (lv' := [(3, .int v_43), (1, .long y_42), (0, .ref h0)]) hx hb dX6_weightsAsBits_40 hl (k := 0) rfl ev_43.symm (by decide) rfl (fun ls hl => ?_)
          have tv_43 := k_inc y_1
          rw [← ev_43] at tv_43
          refine lv_goto (tgt := 4) hx hb dX6_weightsAsBits_43 (by decide) ?_
          exact ih v_43 y_42 _ _ _ (by omega) hI hS (by first | omega | decide) (lv_sub hl [0, 1, 2] rfl)
        refine lv_if_eq (tgt := 40) hx hb dX6_weightsAsBits_21 (by decide) (fun c_44 => ?_) (fun c_44 => ?_)
        · have c_44 := kc_eq rfl (by decide : Int32.toInt 0 = 0) c_44
          exact J_40 y_2 _ _ _ hI hS  (lv_sub hl [0, 1, 2] rfl)
        · have c_44 := kn_eq rfl (by decide : Int32.toInt 0 = 0) c_44
          refine lv_lload_n hx hb dX6_weightsAsBits_24 rfl (lv_at hl 1 rfl) ?_
          refine lv_iload_n hx hb dX6_weightsAsBits_25 rfl (lv_at hl 0 rfl) ?_
          refine lv_aload_n hx hb dX6_weightsAsBits_26 rfl (lv_at hl 2 rfl) ?_
          refine k_get (ci := 6) (v := .ref (gr g h0 1)) (C := RX6) (T := TX6) (N := 10) hx hb hts (fun _ h0_ => List.mem_cons_of_mem _ (List.mem_append_right _ (List.mem_append_left _ h0_))) hown hK hI i_h0.1 k_7 rfl 1 (by decide) (hts (.fieldLink RX6 11 "DeadlineShare$State" "tasks" "[LDeadlineShare$Task;") (List.mem_cons_of_mem _ (List.mem_append_left _ (List.mem_of_getElem? (i := 1) rfl)))) (fun _ h9 => h9) rfl dX6_weightsAsBits_27 ?_
          refine lv_iload_n hx hb dX6_weightsAsBits_30 rfl (lv_at hl 0 rfl) ?_
          refine k_aald hx hb hK hI i_17.1 4 k_18 rfl (vp_in_iff.mpr (by omega)) b_20 (fun _ hj => kw_20 hG i_17 hj) dX6_weightsAsBits_31 (fun a_47 i_48 => ?_)
          obtain ⟨x_50, x_51, x_52, x_53, x_54, x_55, x_56, x_57, x_58, x_59, x_60, x_61, x_62, x_63, x_64, x_65, k_49⟩ := op_8 hI i_48
          refine k_get (ci := 8) (v := .int x_51) (C := RX8) (T := TX8) (N := 18) hx hb hts (fun _ h0_ => List.mem_cons_of_mem _ (List.mem_append_right _ (List.mem_append_right _ (List.mem_append_right _ (List.mem_append_left _ h0_))))) hown hK hI i_48.1 k_49 rfl 2 (by decide) (hts (.fieldLink RX6 72 "DeadlineShare$Task" "weight" "I") (List.mem_cons_of_mem _ (List.mem_append_left _ (List.mem_of_getElem? (i := 6) rfl)))) (fun _ h9 => h9) rfl dX6_weightsAsBits_32 ?_
          refine va_calll (va_runS (As := [.int y_1, .int x_51]) (rest := [.long y_2]) ⟨hx, hb, hml, hown, hts⟩ (c_X2_weightAsBits l dC dI g A hG f y_1 x_51) (va_cwS 2 hts (gi_S (fun w_ h0_ => ⟨List.mem_cons_of_mem _ (List.mem_append_right _ (List.mem_append_right _ (List.mem_append_right _ (List.mem_append_right _ (List.mem_append_left _ h0_))))), (tb_c_X2_weightAsBits w_ h0_).2⟩) (List.mem_cons_of_mem _ (List.mem_append_left _ (List.mem_of_getElem? (i := 7) rfl))) (List.mem_cons_of_mem _ (List.mem_append_left _ (List.mem_of_getElem? (i := 8) rfl))) (List.mem_cons_of_mem _ (List.mem_append_left _ (List.mem_of_getElem? (i := 9) rfl)))) rfl rfl rfl (by decide +kernel) ⟨Nat.le_of_ble_eq_true rfl, Nat.le_of_ble_eq_true rfl⟩) ⟨fun a U g mk q => ⟨q.1, q.2.calling rfl rfl⟩, fun U hU hW => ⟨rfl, kIn.of hI hK hE hS hU hW⟩⟩ rfl rfl hl.1 rfl (lv_room (Nat.le_of_ble_eq_true rfl)) dX6_weightsAsBits_35 ⟨Nat.le_of_ble_eq_true rfl, Nat.le_of_ble_eq_true rfl⟩) hS (fun q _ h => h) (fun q h => h) (fun r_67 u t H1 locs ht hvm w_66 hB hz1 hk1 hS => ?_)
          have hI : Iv dC dI g A f t.heap := hB
          rw [ht] at hI
          generalize H1 = H at hI hS ⊢
          refine W.widen (k := 0) (n := 0) (Nat.le_of_ble_eq_true rfl) (Nat.le_of_ble_eq_true rfl) ?_
          refine lv_lor hx hb dX6_weightsAsBits_38 ?_
          refine lv_topl (fun v_68 ev_68 => ?_)
          refine lv_lstore_n (lv' := [(1, .long v_68), (3, .int y_1), (0, .ref h0)]) hx hb dX6_weightsAsBits_39 rfl hl (by decide) rfl (fun ls hl => ?_)
          exact J_40 v_68 _ _ _ hI hS  (lv_sub hl [1, 0, 2] rfl)
  exact K_4 _ 0 0 _ _ _ (Nat.lt_succ_self _) hI hS (by first | omega | decide | (simp only [show Int32.toInt 0 = 0 from by decide, show Int64.toInt 0 = 0 from by decide]; omega)) (lv_sub hl [0, 1, 2] rfl)
theorem tw_445 : q_g (.methodLink RX8 103 Lib.Math.max.name) := ⟨(List.mem_append_right _ (List.mem_of_getElem? (i := 860) (by decide +kernel))), good_of_word (by decide +kernel)⟩
theorem tw_446 : q_g (.code yX8_waitOneMore cX8_waitOneMore 1 none) := ⟨(List.mem_append_right _ (List.mem_of_getElem? (i := 859) (by decide +kernel))), good_of_word (by decide +kernel)⟩
def ow_c_X8_waitOneMore : List Cond := [.fieldLink RX8 64 "DeadlineShare$Task" "wait" "I", .methodLink RX8 97 Lib.Math.min.name, .static Lib.Math.min.name, .initialized "java/lang/Math", .code Lib.Math.min.name Lib.Math.min.code 2 (some .int), .fieldLink RX8 67 "DeadlineShare$Task" "longest" "I", .methodLink RX8 103 Lib.Math.max.name, .static Lib.Math.max.name, .code Lib.Math.max.name Lib.Math.max.code 2 (some .int)]
def wq_c_X8_waitOneMore : List Cond := .code yX8_waitOneMore cX8_waitOneMore 1 none :: (ow_c_X8_waitOneMore ++ (u_ws RX8 TX8 18 ++ ([] : List Cond)))
theorem tb_c_X8_waitOneMore : ∀ w ∈ wq_c_X8_waitOneMore, q_g w := by
  unfold wq_c_X8_waitOneMore ow_c_X8_waitOneMore
  exact q_cons tw_446 (q_app (q_cons tw_123 (q_cons tw_402 (q_cons tw_155 (q_cons tw_154 (q_cons tw_153 (q_cons tw_122 (q_cons tw_445 (q_cons tw_386 (q_cons tw_385 q_nil))))))))) (q_app tu_X8 q_nil))
set_option maxHeartbeats 4000000 in
set_option maxRecDepth 100000 in
theorem c_X8_waitOneMore (l : Launch) (dC : Nat → ClassId) (dI : Nat → Nat → Nat) (g : kG) (A : Nat → Prop) (hG : kWf g) (f : Nat → va_E) (h0 : Nat) (i_h0 : ik g 8 h0) : Met l yX8_waitOneMore wq_c_X8_waitOneMore ({ frames := 1, cells := 0, slots := 0, locals := 16 } : Room) (va_Pc [.ref h0] (fun U => kIn dC dI g A f U)) (va_Qv (fun (_ : Unit) => True) (fun (_ : Unit) t => ∃ f1 : Nat → va_E, Iv dC dI g A f1 t.heap ∧ Kp g [8] f f1) A) 0 0 A := by
  refine Met.ofW (cc := cX8_waitOneMore) (maxL := 1) (ret := none) (by decide) rfl ?_
  intro p e s m args below meth c s₁ B hml hv
  obtain ⟨rfl, hI, hK, hE⟩ := hv
  have hx := B.exec
  have hb := B.bytes
  have hr := B.returns
  have hts := atoms_spec (ws := wq_c_X8_waitOneMore) B.pre
  have hown : s.vm.findClass RX8 = some m.cls := findClass_of_methodNamed B.named
  have hlocks := B.notSynchronized
  have hS : va_S A s.heap s.heap [] := va_S.rf
  have hk0 : Kp g [8] f f := Kp.rf
  have hl := lv_entry ([.ref h0]) (n := 1) (Nat.le_of_ble_eq_true rfl)
  rw [lg_entry_eq]
  generalize (lg_sl ([.ref h0]) ++ List.replicate (1 - (lg_sl ([.ref h0])).length) Slot.unset).toArray = ls at hl ⊢
  have hl : lv_has ls 1 [(0, .ref h0)] := hl
  refine lv_aload_n hx hb dX8_waitOneMore_0 rfl (lv_at hl 0 rfl) ?_
  refine lv_sipush (v := 999) hx hb dX8_waitOneMore_1 (by decide) ?_
  refine lv_aload_n hx hb dX8_waitOneMore_4 rfl (lv_at hl 0 rfl) ?_
  obtain ⟨x_2, x_3, x_4, x_5, x_6, x_7, x_8, x_9, x_10, x_11, x_12, x_13, x_14, x_15, x_16, x_17, k_1⟩ := op_8 hI i_h0
  refine k_get (ci := 8) (v := .int x_12) (C := RX8) (T := TX8) (N := 18) hx hb hts (fun _ h0_ => List.mem_cons_of_mem _ (List.mem_append_right _ (List.mem_append_left _ h0_))) hown hK hI i_h0.1 k_1 rfl 12 (by decide) (hts (.fieldLink RX8 64 "DeadlineShare$Task" "wait" "I") (List.mem_cons_of_mem _ (List.mem_append_left _ (List.mem_of_getElem? (i := 0) rfl)))) (fun _ h9 => h9) rfl dX8_waitOneMore_5 ?_
  refine lv_iconst (v := 1) hx hb dX8_waitOneMore_8 (by decide) ?_
  refine lv_iadd hx hb dX8_waitOneMore_9 ?_
  refine lv_topi (fun v_18 ev_18 => ?_)
  have tv_18 := k_ad x_12 1
  rw [← ev_18, show Int32.toInt 1 = 1 from by decide] at tv_18
  refine va_mmin hx hb (by rw [hml]; exact hl.1.symm) hown (hts (.methodLink RX8 97 Lib.Math.min.name) (List.mem_cons_of_mem _ (List.mem_append_left _ (List.mem_of_getElem? (i := 1) rfl)))) (hts (.static Lib.Math.min.name) (List.mem_cons_of_mem _ (List.mem_append_left _ (List.mem_of_getElem? (i := 2) rfl)))) (hts (.initialized "java/lang/Math") (List.mem_cons_of_mem _ (List.mem_append_left _ (List.mem_of_getElem? (i := 3) rfl)))) (hts (.code Lib.Math.min.name Lib.Math.min.code 2 (some .int)) (List.mem_cons_of_mem _ (List.mem_append_left _ (List.mem_of_getElem? (i := 4) rfl)))) (Nat.le_of_ble_eq_true rfl) (Nat.le_of_ble_eq_true rfl) (Nat.le_of_ble_eq_true rfl) (Nat.le_of_ble_eq_true rfl) dX8_waitOneMore_10 ?_
  refine lv_topi (fun v_19 ev_19 => ?_)
  refine k_put (ci := 8) (v := .int v_19) (ty := .int) (C := RX8) (T := TX8) (N := 18) hx hb hts (fun _ h0_ => List.mem_cons_of_mem _ (List.mem_append_right _ (List.mem_append_left _ h0_))) tyX8 tyX8_ok nmX8 hown hK hI hS i_h0.1 k_1 rfl 12 (by decide) (hts (.fieldLink RX8 64 "DeadlineShare$Task" "wait" "I") (List.mem_cons_of_mem _ (List.mem_append_left _ (List.mem_of_getElem? (i := 0) rfl)))) (fun _ h9 => h9) rfl (by decide +kernel) rfl rfl (Nat.le_of_ble_eq_true rfl) rfl (cl_8 i_h0) dX8_waitOneMore_13 (fun f_20 H locs e_21 hI hS => ?_)
  have k_23 : f_20 h0 = .inr (8, [.int x_2, .ref (gr g h0 1), .int x_3, .int x_4, .int x_5, .long x_6, .int x_7, .ref (gr g h0 7), .int x_8, .int x_9, .int x_10, .int x_11, .int v_19, .int x_13, .int x_14, .int x_15, .int x_16, .int x_17]) := by rw [e_21]; exact va_up_self _ _ _
  have kp_22 := Kp.put hk0 i_h0 (by decide) e_21
  refine lv_aload_n hx hb dX8_waitOneMore_16 rfl (lv_at hl 0 rfl) ?_
  refine lv_aload_n hx hb dX8_waitOneMore_17 rfl (lv_at hl 0 rfl) ?_
  refine k_get (ci := 8) (v := .int x_13) (C := RX8) (T := TX8) (N := 18) hx hb hts (fun _ h0_ => List.mem_cons_of_mem _ (List.mem_append_right _ (List.mem_append_left _ h0_))) hown hK hI i_h0.1 k_23 rfl 13 (by decide) (hts (.fieldLink RX8 67 "DeadlineShare$Task" "longest" "I") (List.mem_cons_of_mem _ (List.mem_append_left _ (List.mem_of_getElem? (i := 5) rfl)))) (fun _ h9 => h9) rfl dX8_waitOneMore_18 ?_
  refine lv_aload_n hx hb dX8_waitOneMore_21 rfl (lv_at hl 0 rfl) ?_
  refine k_get (ci := 8) (v := .int v_19) (C := RX8) (T := TX8) (N := 18) hx hb hts (fun _ h0_ => List.mem_cons_of_mem _ (List.mem_append_right _ (List.mem_append_left _ h0_))) hown hK hI i_h0.1 k_23 rfl 12 (by decide) (hts (.fieldLink RX8 64 "DeadlineShare$Task" "wait" "I") (List.mem_cons_of_mem _ (List.mem_append_left _ (List.mem_of_getElem? (i := 0) rfl)))) (fun _ h9 => h9) rfl dX8_waitOneMore_22 ?_
  refine va_mmax hx hb (by rw [hml]; exact hl.1.symm) hown (hts (.methodLink RX8 103 Lib.Math.max.name) (List.mem_cons_of_mem _ (List.mem_append_left _ (List.mem_of_getElem? (i := 6) rfl)))) (hts (.static Lib.Math.max.name) (List.mem_cons_of_mem _ (List.mem_append_left _ (List.mem_of_getElem? (i := 7) rfl)))) (hts (.initialized "java/lang/Math") (List.mem_cons_of_mem _ (List.mem_append_left _ (List.mem_of_getElem? (i := 3) rfl)))) (hts (.code Lib.Math.max.name Lib.Math.max.code 2 (some .int)) (List.mem_cons_of_mem _ (List.mem_append_left _ (List.mem_of_getElem? (i := 8) rfl)))) (Nat.le_of_ble_eq_true rfl) (Nat.le_of_ble_eq_true rfl) (Nat.le_of_ble_eq_true rfl) (Nat.le_of_ble_eq_true rfl) dX8_waitOneMore_25 ?_
  refine lv_topi (fun v_24 ev_24 => ?_)
  refine k_put (ci := 8) (v := .int v_24) (ty := .int) (C := RX8) (T := TX8) (N := 18) hx hb hts (fun _ h0_ => List.mem_cons_of_mem _ (List.mem_append_right _ (List.mem_append_left _ h0_))) tyX8 tyX8_ok nmX8 hown hK hI hS i_h0.1 k_23 rfl 13 (by decide) (hts (.fieldLink RX8 67 "DeadlineShare$Task" "longest" "I") (List.mem_cons_of_mem _ (List.mem_append_left _ (List.mem_of_getElem? (i := 5) rfl)))) (fun _ h9 => h9) rfl (by decide +kernel) rfl rfl (Nat.le_of_ble_eq_true rfl) rfl (cl_8 i_h0) dX8_waitOneMore_28 (fun f_25 H locs e_26 hI hS => ?_)
  have k_28 : f_25 h0 = .inr (8, [.int x_2, .ref (gr g h0 1), .int x_3, .int x_4, .int x_5, .long x_6, .int x_7, .ref (gr g h0 7), .int x_8, .int x_9, .int x_10, .int x_11, .int v_19, .int v_24, .int x_14, .int x_15, .int x_16, .int x_17]) := by rw [e_26]; exact va_up_self _ _ _
  have kp_27 := Kp.put kp_22 i_h0 (by decide) e_26
  exact W.vret hx hb hr (fun t ht hW => ⟨⟨(), rfl, trivial, ⟨f_25, k_ret ht hI, kp_27⟩⟩, hS.F ht⟩) hS.2.2 dX8_waitOneMore_31
theorem tw_447 : q_g (.selects RX8 yX8_waitOneMore yX8_waitOneMore) := ⟨(List.mem_append_right _ (List.mem_of_getElem? (i := 858) (by decide +kernel))), good_of_word (by decide +kernel)⟩
theorem tw_448 : q_g (.instanceMethod yX8_waitOneMore) := ⟨(List.mem_append_right _ (List.mem_of_getElem? (i := 857) (by decide +kernel))), good_of_word (by decide +kernel)⟩
theorem tw_449 : q_g (.methodLink RX6 265 yX8_waitOneMore) := ⟨(List.mem_append_right _ (List.mem_of_getElem? (i := 856) (by decide +kernel))), good_of_word (by decide +kernel)⟩
theorem tw_450 : q_g (.code yX6_countWaits cX6_countWaits 3 none) := ⟨(List.mem_append_right _ (List.mem_of_getElem? (i := 855) (by decide +kernel))), good_of_word (by decide +kernel)⟩
def ow_c_X6_countWaits : List Cond := [.fieldLink RX6 48 "DeadlineShare$State" "count" "I", .fieldLink RX6 159 "DeadlineShare$Task" "wait" "I", .fieldLink RX6 11 "DeadlineShare$State" "tasks" "[LDeadlineShare$Task;", .methodLink RX6 111 yX8_isOn, .instanceMethod yX8_isOn, .selects RX8 yX8_isOn yX8_isOn, .initialized RX8, .fieldLink RX6 165 "DeadlineShare$Task" "number" "I", .methodLink RX6 265 yX8_waitOneMore, .instanceMethod yX8_waitOneMore, .selects RX8 yX8_waitOneMore yX8_waitOneMore]
def wq_c_X6_countWaits : List Cond := .code yX6_countWaits cX6_countWaits 3 none :: (ow_c_X6_countWaits ++ (u_ws RX6 TX6 10 ++ (u_ws RX8 TX8 18 ++ (wq_c_X8_isOn ++ (wq_c_X8_waitOneMore ++ ([] : List Cond))))))
theorem tb_c_X6_countWaits : ∀ w ∈ wq_c_X6_countWaits, q_g w := by
  unfold wq_c_X6_countWaits ow_c_X6_countWaits
  exact q_cons tw_450 (q_app (q_cons tw_13 (q_cons tw_366 (q_cons tw_12 (q_cons tw_11 (q_cons tw_10 (q_cons tw_9 (q_cons tw_8 (q_cons tw_379 (q_cons tw_449 (q_cons tw_448 (q_cons tw_447 q_nil))))))))))) (q_app tu_X6 (q_app tu_X8 (q_app tb_c_X8_isOn (q_app tb_c_X8_waitOneMore q_nil)))))
set_option maxHeartbeats 4000000 in
set_option maxRecDepth 100000 in
theorem c_X6_countWaits (l : Launch) (dC : Nat → ClassId) (dI : Nat → Nat → Nat) (g : kG) (A : Nat → Prop) (hG : kWf g) (f : Nat → va_E) (h0 : Nat) (p1 : Nat) (i_h0 : ik g 6 h0) (i_p1 : ik g 8 p1) : Met l yX6_countWaits wq_c_X6_countWaits ({ frames := 2, cells := 0, slots := 0, locals := 36 } : Room) (va_Pc [.ref h0, .ref p1] (fun U => kIn dC dI g A f U)) (va_Qv (fun (_ : Unit) => True) (fun (_ : Unit) t => ∃ f1 : Nat → va_E, Iv dC dI g A f1 t.heap ∧ Kp g [8] f f1) A) 0 0 A := by
  refine Met.ofW (cc := cX6_countWaits) (maxL := 3) (ret := none) (by decide) rfl ?_
  intro p e s m args below meth c s₁ B hml hv
  obtain ⟨rfl, hI, hK, hE⟩ := hv
  have hx := B.exec
  have hb := B.bytes
  have hr := B.returns
  have hts := atoms_spec (ws := wq_c_X6_countWaits) B.pre
  have hown : s.vm.findClass RX6 = some m.cls := findClass_of_methodNamed B.named
  have hlocks := B.notSynchronized
  have hS : va_S A s.heap s.heap [] := va_S.rf
  have hk0 : Kp g [8] f f := Kp.rf
  have hl := lv_entry ([.ref h0, .ref p1]) (n := 3) (Nat.le_of_ble_eq_true rfl)
  rw [lg_entry_eq]
  generalize (lg_sl ([.ref h0, .ref p1]) ++ List.replicate (3 - (lg_sl ([.ref h0, .ref p1])).length) Slot.unset).toArray = ls at hl ⊢
  have hl : lv_has ls 3 [(0, .ref h0), (1, .ref p1)] := hl
  refine lv_iconst (v := 0) hx hb dX6_countWaits_0 (by decide) ?_
  refine lv_istore_n (lv' := [(2, .int 0), (0, .ref h0), (1, .ref p1)]) hx hb dX6_countWaits_1 rfl hl (by decide) rfl (fun ls hl => ?_)
  have K_2 : ∀ (nn : Nat) (y_1 : Int32) (f_2 : Nat → va_E) (H : Heap) (locs : List Loc) (ls : Array Slot), (12 - y_1.toInt).toNat < nn → Iv dC dI g A f_2 H → va_S A s.heap H locs → Kp g [8] f f_2 → (0 ≤ y_1.toInt) → lv_has ls 3 [(2, .int y_1), (0, .ref h0), (1, .ref p1)] → W p l e (headSpec wq_c_X6_countWaits ({ frames := 2, cells := 0, slots := 0, locals := 36 } : Room)).room s m ([.ref h0, .ref p1].toArray) below meth c H locs 0 0 (MQ below (va_Qv (fun (_ : Unit) => True) (fun (_ : Unit) t => ∃ f1 : Nat → va_E, Iv dC dI g A f1 t.heap ∧ Kp g [8] f f1) A) ([.ref h0, .ref p1].toArray) s 0 0 A) (F0 m 2 ls []) := by
    intro nn
    induction nn with
    | zero => intro y_1 f_2 H locs ls m_5; exact absurd m_5 (Nat.not_lt_zero _)
    | succ nn ih =>
      intro y_1 f_2 H locs ls m_5 hI hS kp_3 t_4 hl
      have g_6 := Int32.toInt_lt y_1
      have g_7 := Int32.le_toInt y_1
      refine lv_iload_n hx hb dX6_countWaits_2 rfl (lv_at hl 0 rfl) ?_
      refine lv_aload_n hx hb dX6_countWaits_3 rfl (lv_at hl 1 rfl) ?_
      obtain ⟨x_9, x_10, x_11, x_12, x_13, k_8, b_14, b_15⟩ := op_6 hI i_h0
      refine k_get (ci := 6) (v := .int x_9) (C := RX6) (T := TX6) (N := 10) hx hb hts (fun _ h0_ => List.mem_cons_of_mem _ (List.mem_append_right _ (List.mem_append_left _ h0_))) hown hK hI i_h0.1 k_8 rfl 5 (by decide) (hts (.fieldLink RX6 48 "DeadlineShare$State" "count" "I") (List.mem_cons_of_mem _ (List.mem_append_left _ (List.mem_of_getElem? (i := 0) rfl)))) (fun _ h9 => h9) rfl dX6_countWaits_4 ?_
      refine lv_icmp_ge (tgt := 45) hx hb dX6_countWaits_7 (by decide) (fun c_16 => ?_) (fun c_16 => ?_)
      · have c_16 := kc_le rfl rfl c_16
        refine lv_aload_n hx hb dX6_countWaits_45 rfl (lv_at hl 2 rfl) ?_
        refine lv_iconst (v := 0) hx hb dX6_countWaits_46 (by decide) ?_
        obtain ⟨x_18, x_19, x_20, x_21, x_22, x_23, x_24, x_25, x_26, x_27, x_28, x_29, x_30, x_31, x_32, x_33, k_17⟩ := op_8 hI i_p1
        refine k_put (ci := 8) (v := .int 0) (ty := .int) (C := RX8) (T := TX8) (N := 18) hx hb hts (fun _ h0_ => List.mem_cons_of_mem _ (List.mem_append_right _ (List.mem_append_right _ (List.mem_append_left _ h0_)))) tyX8 tyX8_ok nmX8 hown hK hI hS i_p1.1 k_17 rfl 12 (by decide) (hts (.fieldLink RX6 159 "DeadlineShare$Task" "wait" "I") (List.mem_cons_of_mem _ (List.mem_append_left _ (List.mem_of_getElem? (i := 1) rfl)))) (fun _ h9 => h9) rfl (by decide +kernel) rfl rfl (Nat.le_of_ble_eq_true rfl) rfl (cl_8 i_p1) dX6_countWaits_47 (fun f_34 H locs e_35 hI hS => ?_)
        have k_37 : f_34 h0 = .inr (6, [.ref (gr g h0 0), .ref (gr g h0 1), .ref (gr g h0 2), .ref (gr g h0 3), .ref (gr g h0 4), .int x_9, .int x_10, .long x_11, .int x_12, .int x_13]) := by rw [e_35, va_up_ne _ _ (ik_ne i_h0 i_p1 (by decide))]; exact k_8
        have k_38 : f_34 p1 = .inr (8, [.int x_18, .ref (gr g p1 1), .int x_19, .int x_20, .int x_21, .long x_22, .int x_23, .ref (gr g p1 7), .int x_24, .int x_25, .int x_26, .int x_27, .int 0, .int x_29, .int x_30, .int x_31, .int x_32, .int x_33]) := by rw [e_35]; exact va_up_self _ _ _
        have kp_36 := Kp.put kp_3 i_p1 (by decide) e_35
        exact W.vret hx hb hr (fun t ht hW => ⟨⟨(), rfl, trivial, ⟨f_34, k_ret ht hI, kp_36⟩⟩, hS.F ht⟩) hS.2.2 dX6_countWaits_50
      · have c_16 := kn_le rfl rfl c_16
        refine lv_aload_n hx hb dX6_countWaits_10 rfl (lv_at hl 1 rfl) ?_
        refine k_get (ci := 6) (v := .ref (gr g h0 1)) (C := RX6) (T := TX6) (N := 10) hx hb hts (fun _ h0_ => List.mem_cons_of_mem _ (List.mem_append_right _ (List.mem_append_left _ h0_))) hown hK hI i_h0.1 k_8 rfl 1 (by decide) (hts (.fieldLink RX6 11 "DeadlineShare$State" "tasks" "[LDeadlineShare$Task;") (List.mem_cons_of_mem _ (List.mem_append_left _ (List.mem_of_getElem? (i := 2) rfl)))) (fun _ h9 => h9) rfl dX6_countWaits_11 ?_
        have i_40 := kw_6_1 hG i_h0
        refine lv_iload_n hx hb dX6_countWaits_14 rfl (lv_at hl 0 rfl) ?_
        obtain ⟨q_42, k_41, b_43⟩ := op_20 hI i_40
        refine k_aald hx hb hK hI i_40.1 4 k_41 rfl (vp_in_iff.mpr (by omega)) b_43 (fun _ hj => kw_20 hG i_40 hj) dX6_countWaits_15 (fun a_44 i_45 => ?_)
        obtain ⟨x_47, x_48, x_49, x_50, x_51, x_52, x_53, x_54, x_55, x_56, x_57, x_58, x_59, x_60, x_61, x_62, k_46⟩ := op_8 hI i_45
        refine va_calli (va_runV (As := []) (rest := []) ⟨hx, hb, hml, hown, hts⟩ (c_X8_isOn l dC dI g A hG f_2 a_44 i_45) (cwV 0 hts (gi_V (fun w_ h0_ => ⟨List.mem_cons_of_mem _ (List.mem_append_right _ (List.mem_append_right _ (List.mem_append_right _ (List.mem_append_left _ h0_)))), (tb_c_X8_isOn w_ h0_).2⟩) (List.mem_cons_of_mem _ (List.mem_append_left _ (List.mem_of_getElem? (i := 3) rfl))) (List.mem_cons_of_mem _ (List.mem_append_left _ (List.mem_of_getElem? (i := 4) rfl))) (List.mem_cons_of_mem _ (List.mem_append_left _ (List.mem_of_getElem? (i := 5) rfl))) (List.mem_cons_of_mem _ (List.mem_append_left _ (List.mem_of_getElem? (i := 6) rfl)))) rfl rfl rfl (by decide +kernel) ⟨Nat.le_of_ble_eq_true rfl, Nat.le_of_ble_eq_true rfl⟩) ⟨fun a U g mk q => ⟨q.1, q.2.calling rfl rfl⟩, k_recv hK hI i_45.1 k_46 (ci := 8) rfl, fun U hU hW => ⟨rfl, kIn.of hI hK hE hS hU hW⟩⟩ rfl rfl hl.1 rfl (lv_room (Nat.le_of_ble_eq_true rfl)) dX6_countWaits_16 ⟨Nat.le_of_ble_eq_true rfl, Nat.le_of_ble_eq_true rfl⟩) hS (fun q _ h => h) (fun q h => h) (fun r_64 u t H1 locs ht hvm w_63 hB hz1 hk1 hS => ?_)
        have hI : Iv dC dI g A f_2 t.heap := hB
        rw [ht] at hI
        generalize H1 = H at hI hS ⊢
        refine W.widen (k := 0) (n := 0) (Nat.le_of_ble_eq_true rfl) (Nat.le_of_ble_eq_true rfl) ?_
        have J_39 : ∀ (f_65 : Nat → va_E) (H : Heap) (locs : List Loc) (ls : Array Slot), Iv dC dI g A f_65 H → va_S A s.heap H locs → f_65 h0 = .inr (6, [.ref (gr g h0 0), .ref (gr g h0 1), .ref (gr g h0 2), .ref (gr g h0 3), .ref (gr g h0 4), .int x_9, .int x_10, .long x_11, .int x_12, .int x_13]) → f_65 (gr g h0 1) = .inl (gc g 4, 12, .inr (.inr (.inr (.inr q_42)))) → Kp g [8] f f_65 → lv_has ls 3 [(2, .int y_1), (0, .ref h0), (1, .ref p1)] → W p l e (headSpec wq_c_X6_countWaits ({ frames := 2, cells := 0, slots := 0, locals := 36 } : Room)).room s m ([.ref h0, .ref p1].toArray) below meth c H locs 0 0 (MQ below (va_Qv (fun (_ : Unit) => True) (fun (_ : Unit) t => ∃ f1 : Nat → va_E, Iv dC dI g A f1 t.heap ∧ Kp g [8] f f1) A) ([.ref h0, .ref p1].toArray) s 0 0 A) (F0 m 39 ls []) := by
          intro f_65 H locs ls hI hS k_66 k_67 kp_68 hl
          obtain ⟨v_69, ev_69⟩ : ∃ y : Int32, y = y_1 + Int32.ofInt 1 := ⟨_, rfl⟩
          refine lv_iinc (v := v_69) (lv' := [(2, .int v_69), (0, .ref h0), (1, .ref p1)]) hx hb dX6_countWaits_39 hl (k := 0) rfl ev_69.symm (by decide) rfl (fun ls hl => ?_)
          have tv_69 := k_inc y_1
          rw [← ev_69] at tv_69
          refine lv_goto (tgt := 2) hx hb dX6_countWaits_42 (by decide) ?_
          exact ih v_69 f_65 _ _ _ (by omega) hI hS kp_68 (by first | omega | decide) (lv_sub hl [0, 1, 2] rfl)
        refine lv_if_eq (tgt := 39) hx hb dX6_countWaits_19 (by decide) (fun c_70 => ?_) (fun c_70 => ?_)
        · have c_70 := kc_eq rfl (by decide : Int32.toInt 0 = 0) c_70
          exact J_39 f_2 _ _ _ hI hS k_8 k_41 kp_3 (lv_sub hl [0, 1, 2] rfl)
        · have c_70 := kn_eq rfl (by decide : Int32.toInt 0 = 0) c_70
          refine lv_iload_n hx hb dX6_countWaits_22 rfl (lv_at hl 0 rfl) ?_
          refine lv_aload_n hx hb dX6_countWaits_23 rfl (lv_at hl 2 rfl) ?_
          obtain ⟨x_72, x_73, x_74, x_75, x_76, x_77, x_78, x_79, x_80, x_81, x_82, x_83, x_84, x_85, x_86, x_87, k_71⟩ := op_8 hI i_p1
          refine k_get (ci := 8) (v := .int x_72) (C := RX8) (T := TX8) (N := 18) hx hb hts (fun _ h0_ => List.mem_cons_of_mem _ (List.mem_append_right _ (List.mem_append_right _ (List.mem_append_left _ h0_)))) hown hK hI i_p1.1 k_71 rfl 0 (by decide) (hts (.fieldLink RX6 165 "DeadlineShare$Task" "number" "I") (List.mem_cons_of_mem _ (List.mem_append_left _ (List.mem_of_getElem? (i := 7) rfl)))) (fun _ h9 => h9) rfl dX6_countWaits_24 ?_
          refine lv_icmp_eq (tgt := 39) hx hb dX6_countWaits_27 (by decide) (fun c_88 => ?_) (fun c_88 => ?_)
          · have c_88 := kc_eq rfl rfl c_88
            exact J_39 f_2 _ _ _ hI hS k_8 k_41 kp_3 (lv_sub hl [0, 1, 2] rfl)
          · have c_88 := kn_eq rfl rfl c_88
            refine lv_aload_n hx hb dX6_countWaits_30 rfl (lv_at hl 1 rfl) ?_
            refine k_get (ci := 6) (v := .ref (gr g h0 1)) (C := RX6) (T := TX6) (N := 10) hx hb hts (fun _ h0_ => List.mem_cons_of_mem _ (List.mem_append_right _ (List.mem_append_left _ h0_))) hown hK hI i_h0.1 k_8 rfl 1 (by decide) (hts (.fieldLink RX6 11 "DeadlineShare$State" "tasks" "[LDeadlineShare$Task;") (List.mem_cons_of_mem _ (List.mem_append_left _ (List.mem_of_getElem? (i := 2) rfl)))) (fun _ h9 => h9) rfl dX6_countWaits_31 ?_
            refine lv_iload_n hx hb dX6_countWaits_34 rfl (lv_at hl 0 rfl) ?_
            refine k_aald hx hb hK hI i_40.1 4 k_41 rfl (vp_in_iff.mpr (by omega)) b_43 (fun _ hj => kw_20 hG i_40 hj) dX6_countWaits_35 (fun a_91 i_92 => ?_)
            obtain ⟨x_94, x_95, x_96, x_97, x_98, x_99, x_100, x_101, x_102, x_103, x_104, x_105, x_106, x_107, x_108, x_109, k_93⟩ := op_8 hI i_92
            refine va_callv (va_runV (As := []) (rest := []) ⟨hx, hb, hml, hown, hts⟩ (c_X8_waitOneMore l dC dI g A hG f_2 a_91 i_92) (cwV 0 hts (gi_V (fun w_ h0_ => ⟨List.mem_cons_of_mem _ (List.mem_append_right _ (List.mem_append_right _ (List.mem_append_right _ (List.mem_append_right _ (List.mem_append_left _ h0_))))), (tb_c_X8_waitOneMore w_ h0_).2⟩) (List.mem_cons_of_mem _ (List.mem_append_left _ (List.mem_of_getElem? (i := 8) rfl))) (List.mem_cons_of_mem _ (List.mem_append_left _ (List.mem_of_getElem? (i := 9) rfl))) (List.mem_cons_of_mem _ (List.mem_append_left _ (List.mem_of_getElem? (i := 10) rfl))) (List.mem_cons_of_mem _ (List.mem_append_left _ (List.mem_of_getElem? (i := 6) rfl)))) rfl rfl rfl (by decide +kernel) ⟨Nat.le_of_ble_eq_true rfl, Nat.le_of_ble_eq_true rfl⟩) ⟨fun a U g mk q => ⟨q.1, q.2.calling rfl rfl⟩, k_recv hK hI i_92.1 k_93 (ci := 8) rfl, fun U hU hW => ⟨rfl, kIn.of hI hK hE hS hU hW⟩⟩ rfl rfl hl.1 rfl (lv_room (Nat.le_of_ble_eq_true rfl)) dX6_countWaits_36 ⟨Nat.le_of_ble_eq_true rfl, Nat.le_of_ble_eq_true rfl⟩) hS (fun q _ h => h) (fun q h => h) (fun u t H1 locs ht hvm _ hB hz1 hk1 hS => ?_)
            obtain ⟨f_110, hI, kc_112⟩ := hB
            rw [ht] at hI
            have k_113 : f_110 h0 = .inr (6, [.ref (gr g h0 0), .ref (gr g h0 1), .ref (gr g h0 2), .ref (gr g h0 3), .ref (gr g h0 4), .int x_9, .int x_10, .long x_11, .int x_12, .int x_13]) := Kp.at kc_112 i_h0 (by decide) k_8
            have k_114 : f_110 (gr g h0 1) = .inl (gc g 4, 12, .inr (.inr (.inr (.inr q_42)))) := Kp.at kc_112 i_40 (by decide) k_41
            have kp_115 := Kp.call kp_3 kc_112 (by decide)
            generalize H1 = H at hI hS ⊢
            refine W.widen (k := 0) (n := 0) (Nat.le_of_ble_eq_true rfl) (Nat.le_of_ble_eq_true rfl) ?_
            exact J_39 f_110 _ _ _ hI hS k_113 k_114 kp_115 (lv_sub hl [0, 1, 2] rfl)
  exact K_2 _ 0 f _ _ _ (Nat.lt_succ_self _) hI hS hk0 (by first | omega | decide | (simp only [show Int32.toInt 0 = 0 from by decide]; omega)) (lv_sub hl [0, 1, 2] rfl)
theorem tw_451 : q_g (.fieldLink RX6 275 "DeadlineShare$Task" "late" "I") := ⟨(List.mem_append_right _ (List.mem_of_getElem? (i := 180) (by decide +kernel))), good_of_word (by decide +kernel)⟩
theorem tw_452 : q_g (.methodLink RX6 271 yX10_isAbove) := ⟨(List.mem_append_right _ (List.mem_of_getElem? (i := 865) (by decide +kernel))), good_of_word (by decide +kernel)⟩
theorem tw_453 : q_g (.fieldLink RX6 268 "DeadlineShare$Task" "requests" "I") := ⟨(List.mem_append_right _ (List.mem_of_getElem? (i := 178) (by decide +kernel))), good_of_word (by decide +kernel)⟩
theorem tw_454 : q_g (.code yX6_endRequest cX6_endRequest 2 none) := ⟨(List.mem_append_right _ (List.mem_of_getElem? (i := 864) (by decide +kernel))), good_of_word (by decide +kernel)⟩
def ow_c_X6_endRequest : List Cond := [.fieldLink RX6 268 "DeadlineShare$Task" "requests" "I", .fieldLink RX6 31 "DeadlineShare$State" "part" "LDeadlineShare$Wide;", .methodLink RX6 104 yX6_putLag, .instanceMethod yX6_putLag, .selects RX6 yX6_putLag yX6_putLag, .initialized RX6, .methodLink RX6 271 yX10_isAbove, .instanceMethod yX10_isAbove, .selects RX10 yX10_isAbove yX10_isAbove, .initialized RX10, .fieldLink RX6 153 "DeadlineShare$Task" "slice" "I", .fieldLink RX6 156 "DeadlineShare$Task" "left" "I", .fieldLink RX6 38 "DeadlineShare$State" "holder" "I", .fieldLink RX6 275 "DeadlineShare$Task" "late" "I"]
def wq_c_X6_endRequest : List Cond := .code yX6_endRequest cX6_endRequest 2 none :: (ow_c_X6_endRequest ++ (u_ws RX8 TX8 18 ++ (u_ws RX6 TX6 10 ++ (wq_c_X6_putLag ++ (wq_c_X10_isAbove ++ ([] : List Cond))))))
theorem tb_c_X6_endRequest : ∀ w ∈ wq_c_X6_endRequest, q_g w := by
  unfold wq_c_X6_endRequest ow_c_X6_endRequest
  exact q_cons tw_454 (q_app (q_cons tw_453 (q_cons tw_335 (q_cons tw_334 (q_cons tw_333 (q_cons tw_332 (q_cons tw_47 (q_cons tw_452 (q_cons tw_356 (q_cons tw_355 (q_cons tw_26 (q_cons tw_368 (q_cons tw_367 (q_cons tw_145 (q_cons tw_451 q_nil)))))))))))))) (q_app tu_X8 (q_app tu_X6 (q_app tb_c_X6_putLag (q_app tb_c_X10_isAbove q_nil)))))
set_option maxHeartbeats 4000000 in
set_option maxRecDepth 100000 in
theorem c_X6_endRequest (l : Launch) (dC : Nat → ClassId) (dI : Nat → Nat → Nat) (g : kG) (A : Nat → Prop) (hG : kWf g) (f : Nat → va_E) (h0 : Nat) (p1 : Nat) (i_h0 : ik g 6 h0) (i_p1 : ik g 8 p1) : Met l yX6_endRequest wq_c_X6_endRequest ({ frames := 2, cells := 0, slots := 0, locals := 49 } : Room) (va_Pc [.ref h0, .ref p1] (fun U => kIn dC dI g A f U)) (va_Qv (fun (_ : Unit) => True) (fun (_ : Unit) t => ∃ f1 : Nat → va_E, Iv dC dI g A f1 t.heap ∧ Kp g [6, 8, 10] f f1) A) 0 0 A := by
  refine Met.ofW (cc := cX6_endRequest) (maxL := 2) (ret := none) (by decide) rfl ?_
  intro p e s m args below meth c s₁ B hml hv
  obtain ⟨rfl, hI, hK, hE⟩ := hv
  have hx := B.exec
  have hb := B.bytes
  have hr := B.returns
  have hts := atoms_spec (ws := wq_c_X6_endRequest) B.pre
  have hown : s.vm.findClass RX6 = some m.cls := findClass_of_methodNamed B.named
  have hlocks := B.notSynchronized
  have hS : va_S A s.heap s.heap [] := va_S.rf
  have hk0 : Kp g [6, 8, 10] f f := Kp.rf
  have hl := lv_entry ([.ref h0, .ref p1]) (n := 2) (Nat.le_of_ble_eq_true rfl)
  rw [lg_entry_eq]
  generalize (lg_sl ([.ref h0, .ref p1]) ++ List.replicate (2 - (lg_sl ([.ref h0, .ref p1])).length) Slot.unset).toArray = ls at hl ⊢
  have hl : lv_has ls 2 [(0, .ref h0), (1, .ref p1)] := hl
  refine lv_aload_n hx hb dX6_endRequest_0 rfl (lv_at hl 1 rfl) ?_
  refine lv_dup hx hb dX6_endRequest_1 rfl ?_
  obtain ⟨x_2, x_3, x_4, x_5, x_6, x_7, x_8, x_9, x_10, x_11, x_12, x_13, x_14, x_15, x_16, x_17, k_1⟩ := op_8 hI i_p1
  refine k_get (ci := 8) (v := .int x_10) (C := RX8) (T := TX8) (N := 18) hx hb hts (fun _ h0_ => List.mem_cons_of_mem _ (List.mem_append_right _ (List.mem_append_left _ h0_))) hown hK hI i_p1.1 k_1 rfl 10 (by decide) (hts (.fieldLink RX6 268 "DeadlineShare$Task" "requests" "I") (List.mem_cons_of_mem _ (List.mem_append_left _ (List.mem_of_getElem? (i := 0) rfl)))) (fun _ h9 => h9) rfl dX6_endRequest_2 ?_
  refine lv_iconst (v := 1) hx hb dX6_endRequest_5 (by decide) ?_
  refine lv_iadd hx hb dX6_endRequest_6 ?_
  refine lv_topi (fun v_18 ev_18 => ?_)
  have tv_18 := k_ad x_10 1
  rw [← ev_18, show Int32.toInt 1 = 1 from by decide] at tv_18
  refine k_put (ci := 8) (v := .int v_18) (ty := .int) (C := RX8) (T := TX8) (N := 18) hx hb hts (fun _ h0_ => List.mem_cons_of_mem _ (List.mem_append_right _ (List.mem_append_left _ h0_))) tyX8 tyX8_ok nmX8 hown hK hI hS i_p1.1 k_1 rfl 10 (by decide) (hts (.fieldLink RX6 268 "DeadlineShare$Task" "requests" "I") (List.mem_cons_of_mem _ (List.mem_append_left _ (List.mem_of_getElem? (i := 0) rfl)))) (fun _ h9 => h9) rfl (by decide +kernel) rfl rfl (Nat.le_of_ble_eq_true rfl) rfl (cl_8 i_p1) dX6_endRequest_7 (fun f_19 H locs e_20 hI hS => ?_)
  have k_22 : f_19 p1 = .inr (8, [.int x_2, .ref (gr g p1 1), .int x_3, .int x_4, .int x_5, .long x_6, .int x_7, .ref (gr g p1 7), .int x_8, .int x_9, .int v_18, .int x_11, .int x_12, .int x_13, .int x_14, .int x_15, .int x_16, .int x_17]) := by rw [e_20]; exact va_up_self _ _ _
  have kp_21 := Kp.put hk0 i_p1 (by decide) e_20
  refine lv_aload_n hx hb dX6_endRequest_10 rfl (lv_at hl 0 rfl) ?_
  refine lv_aload_n hx hb dX6_endRequest_11 rfl (lv_at hl 1 rfl) ?_
  refine lv_aload_n hx hb dX6_endRequest_12 rfl (lv_at hl 0 rfl) ?_
  obtain ⟨x_24, x_25, x_26, x_27, x_28, k_23, b_29, b_30⟩ := op_6 hI i_h0
  refine k_get (ci := 6) (v := .ref (gr g h0 4)) (C := RX6) (T := TX6) (N := 10) hx hb hts (fun _ h0_ => List.mem_cons_of_mem _ (List.mem_append_right _ (List.mem_append_right _ (List.mem_append_left _ h0_)))) hown hK hI i_h0.1 k_23 rfl 4 (by decide) (hts (.fieldLink RX6 31 "DeadlineShare$State" "part" "LDeadlineShare$Wide;") (List.mem_cons_of_mem _ (List.mem_append_left _ (List.mem_of_getElem? (i := 1) rfl)))) (fun _ h9 => h9) rfl dX6_endRequest_13 ?_
  have i_32 := kw_6_4 hG i_h0
  refine va_callv (va_runV (As := [.ref p1, .ref (gr g h0 4)]) (rest := []) ⟨hx, hb, hml, hown, hts⟩ (c_X6_putLag l dC dI g A hG f_19 h0 p1 (gr g h0 4) i_h0 i_p1 i_32) (cwV 2 hts (gi_V (fun w_ h0_ => ⟨List.mem_cons_of_mem _ (List.mem_append_right _ (List.mem_append_right _ (List.mem_append_right _ (List.mem_append_left _ h0_)))), (tb_c_X6_putLag w_ h0_).2⟩) (List.mem_cons_of_mem _ (List.mem_append_left _ (List.mem_of_getElem? (i := 2) rfl))) (List.mem_cons_of_mem _ (List.mem_append_left _ (List.mem_of_getElem? (i := 3) rfl))) (List.mem_cons_of_mem _ (List.mem_append_left _ (List.mem_of_getElem? (i := 4) rfl))) (List.mem_cons_of_mem _ (List.mem_append_left _ (List.mem_of_getElem? (i := 5) rfl)))) rfl rfl rfl (by decide +kernel) ⟨Nat.le_of_ble_eq_true rfl, Nat.le_of_ble_eq_true rfl⟩) ⟨fun a U g mk q => ⟨q.1, q.2.calling rfl rfl⟩, k_recv hK hI i_h0.1 k_23 (ci := 6) rfl, fun U hU hW => ⟨rfl, kIn.of hI hK hE hS hU hW⟩⟩ rfl rfl hl.1 rfl (lv_room (Nat.le_of_ble_eq_true rfl)) dX6_endRequest_16 ⟨Nat.le_of_ble_eq_true rfl, Nat.le_of_ble_eq_true rfl⟩) hS (fun q _ h => h) (fun q h => h) (fun u t H1 locs ht hvm _ hB hz1 hk1 hS => ?_)
  obtain ⟨f_33, hI, kc_35⟩ := hB
  rw [ht] at hI
  have k_36 : f_33 p1 = .inr (8, [.int x_2, .ref (gr g p1 1), .int x_3, .int x_4, .int x_5, .long x_6, .int x_7, .ref (gr g p1 7), .int x_8, .int x_9, .int v_18, .int x_11, .int x_12, .int x_13, .int x_14, .int x_15, .int x_16, .int x_17]) := Kp.at kc_35 i_p1 (by decide) k_22
  have k_37 : f_33 h0 = .inr (6, [.ref (gr g h0 0), .ref (gr g h0 1), .ref (gr g h0 2), .ref (gr g h0 3), .ref (gr g h0 4), .int x_24, .int x_25, .long x_26, .int x_27, .int x_28]) := Kp.at kc_35 i_h0 (by decide) k_23
  have kp_38 := Kp.call kp_21 kc_35 (by decide)
  generalize H1 = H at hI hS ⊢
  refine W.widen (k := 0) (n := 0) (Nat.le_of_ble_eq_true rfl) (Nat.le_of_ble_eq_true rfl) ?_
  refine lv_aload_n hx hb dX6_endRequest_19 rfl (lv_at hl 0 rfl) ?_
  refine k_get (ci := 6) (v := .ref (gr g h0 4)) (C := RX6) (T := TX6) (N := 10) hx hb hts (fun _ h0_ => List.mem_cons_of_mem _ (List.mem_append_right _ (List.mem_append_right _ (List.mem_append_left _ h0_)))) hown hK hI i_h0.1 k_37 rfl 4 (by decide) (hts (.fieldLink RX6 31 "DeadlineShare$State" "part" "LDeadlineShare$Wide;") (List.mem_cons_of_mem _ (List.mem_append_left _ (List.mem_of_getElem? (i := 1) rfl)))) (fun _ h9 => h9) rfl dX6_endRequest_20 ?_
  refine lv_lconst (v := 0) hx hb dX6_endRequest_23 (by decide) ?_
  obtain ⟨x_42, x_43, k_41⟩ := op_10 hI i_32
  refine va_calli (va_runV (As := [.long 0]) (rest := []) ⟨hx, hb, hml, hown, hts⟩ (c_X10_isAbove l dC dI g A hG f_33 (gr g h0 4) 0 i_32) (cwV 1 hts (gi_V (fun w_ h0_ => ⟨List.mem_cons_of_mem _ (List.mem_append_right _ (List.mem_append_right _ (List.mem_append_right _ (List.mem_append_right _ (List.mem_append_left _ h0_))))), (tb_c_X10_isAbove w_ h0_).2⟩) (List.mem_cons_of_mem _ (List.mem_append_left _ (List.mem_of_getElem? (i := 6) rfl))) (List.mem_cons_of_mem _ (List.mem_append_left _ (List.mem_of_getElem? (i := 7) rfl))) (List.mem_cons_of_mem _ (List.mem_append_left _ (List.mem_of_getElem? (i := 8) rfl))) (List.mem_cons_of_mem _ (List.mem_append_left _ (List.mem_of_getElem? (i := 9) rfl)))) rfl rfl rfl (by decide +kernel) ⟨Nat.le_of_ble_eq_true rfl, Nat.le_of_ble_eq_true rfl⟩) ⟨fun a U g mk q => ⟨q.1, q.2.calling rfl rfl⟩, k_recv hK hI i_32.1 k_41 (ci := 10) rfl, fun U hU hW => ⟨rfl, kIn.of hI hK hE hS hU hW⟩⟩ rfl rfl hl.1 rfl (lv_room (Nat.le_of_ble_eq_true rfl)) dX6_endRequest_24 ⟨Nat.le_of_ble_eq_true rfl, Nat.le_of_ble_eq_true rfl⟩) hS (fun q _ h => h) (fun q h => h) (fun r_45 u t H1 locs ht hvm w_44 hB hz1 hk1 hS => ?_)
  have hI : Iv dC dI g A f_33 t.heap := hB
  rw [ht] at hI
  generalize H1 = H at hI hS ⊢
  refine W.widen (k := 0) (n := 0) (Nat.le_of_ble_eq_true rfl) (Nat.le_of_ble_eq_true rfl) ?_
  refine lv_if_eq (tgt := 40) hx hb dX6_endRequest_27 (by decide) (fun c_46 => ?_) (fun c_46 => ?_)
  · have c_46 := kc_eq rfl (by decide : Int32.toInt 0 = 0) c_46
    refine lv_aload_n hx hb dX6_endRequest_40 rfl (lv_at hl 1 rfl) ?_
    refine lv_aload_n hx hb dX6_endRequest_41 rfl (lv_at hl 1 rfl) ?_
    refine k_get (ci := 8) (v := .int x_4) (C := RX8) (T := TX8) (N := 18) hx hb hts (fun _ h0_ => List.mem_cons_of_mem _ (List.mem_append_right _ (List.mem_append_left _ h0_))) hown hK hI i_p1.1 k_36 rfl 3 (by decide) (hts (.fieldLink RX6 153 "DeadlineShare$Task" "slice" "I") (List.mem_cons_of_mem _ (List.mem_append_left _ (List.mem_of_getElem? (i := 10) rfl)))) (fun _ h9 => h9) rfl dX6_endRequest_42 ?_
    refine k_put (ci := 8) (v := .int x_4) (ty := .int) (C := RX8) (T := TX8) (N := 18) hx hb hts (fun _ h0_ => List.mem_cons_of_mem _ (List.mem_append_right _ (List.mem_append_left _ h0_))) tyX8 tyX8_ok nmX8 hown hK hI hS i_p1.1 k_36 rfl 6 (by decide) (hts (.fieldLink RX6 156 "DeadlineShare$Task" "left" "I") (List.mem_cons_of_mem _ (List.mem_append_left _ (List.mem_of_getElem? (i := 11) rfl)))) (fun _ h9 => h9) rfl (by decide +kernel) rfl rfl (Nat.le_of_ble_eq_true rfl) rfl (cl_8 i_p1) dX6_endRequest_45 (fun f_47 H locs e_48 hI hS => ?_)
    have k_50 : f_47 p1 = .inr (8, [.int x_2, .ref (gr g p1 1), .int x_3, .int x_4, .int x_5, .long x_6, .int x_4, .ref (gr g p1 7), .int x_8, .int x_9, .int v_18, .int x_11, .int x_12, .int x_13, .int x_14, .int x_15, .int x_16, .int x_17]) := by rw [e_48]; exact va_up_self _ _ _
    have k_51 : f_47 h0 = .inr (6, [.ref (gr g h0 0), .ref (gr g h0 1), .ref (gr g h0 2), .ref (gr g h0 3), .ref (gr g h0 4), .int x_24, .int x_25, .long x_26, .int x_27, .int x_28]) := by rw [e_48, va_up_ne _ _ (ik_ne i_h0 i_p1 (by decide))]; exact k_37
    have k_52 : f_47 (gr g h0 4) = .inr (10, [.long x_42, .long x_43]) := by rw [e_48, va_up_ne _ _ (ik_ne i_32 i_p1 (by decide))]; exact k_41
    have kp_49 := Kp.put kp_38 i_p1 (by decide) e_48
    refine lv_aload_n hx hb dX6_endRequest_48 rfl (lv_at hl 0 rfl) ?_
    refine lv_iconst (v := (-1)) hx hb dX6_endRequest_49 (by decide) ?_
    refine k_put (ci := 6) (v := .int (-1)) (ty := .int) (C := RX6) (T := TX6) (N := 10) hx hb hts (fun _ h0_ => List.mem_cons_of_mem _ (List.mem_append_right _ (List.mem_append_right _ (List.mem_append_left _ h0_)))) tyX6 tyX6_ok nmX6 hown hK hI hS i_h0.1 k_51 rfl 9 (by decide) (hts (.fieldLink RX6 38 "DeadlineShare$State" "holder" "I") (List.mem_cons_of_mem _ (List.mem_append_left _ (List.mem_of_getElem? (i := 12) rfl)))) (fun _ h9 => h9) rfl (by decide +kernel) rfl rfl (Nat.le_of_ble_eq_true rfl) rfl (cl_6 i_h0 (by omega)) dX6_endRequest_50 (fun f_53 H locs e_54 hI hS => ?_)
    have k_56 : f_53 p1 = .inr (8, [.int x_2, .ref (gr g p1 1), .int x_3, .int x_4, .int x_5, .long x_6, .int x_4, .ref (gr g p1 7), .int x_8, .int x_9, .int v_18, .int x_11, .int x_12, .int x_13, .int x_14, .int x_15, .int x_16, .int x_17]) := by rw [e_54, va_up_ne _ _ (ik_ne i_p1 i_h0 (by decide))]; exact k_50
    have k_57 : f_53 h0 = .inr (6, [.ref (gr g h0 0), .ref (gr g h0 1), .ref (gr g h0 2), .ref (gr g h0 3), .ref (gr g h0 4), .int x_24, .int x_25, .long x_26, .int x_27, .int (-1)]) := by rw [e_54]; exact va_up_self _ _ _
    have k_58 : f_53 (gr g h0 4) = .inr (10, [.long x_42, .long x_43]) := by rw [e_54, va_up_ne _ _ (ik_ne i_32 i_h0 (by decide))]; exact k_52
    have kp_55 := Kp.put kp_49 i_h0 (by decide) e_54
    exact W.vret hx hb hr (fun t ht hW => ⟨⟨(), rfl, trivial, ⟨f_53, k_ret ht hI, kp_55⟩⟩, hS.F ht⟩) hS.2.2 dX6_endRequest_53
  · have c_46 := kn_eq rfl (by decide : Int32.toInt 0 = 0) c_46
    refine lv_aload_n hx hb dX6_endRequest_30 rfl (lv_at hl 1 rfl) ?_
    refine lv_dup hx hb dX6_endRequest_31 rfl ?_
    refine k_get (ci := 8) (v := .int x_11) (C := RX8) (T := TX8) (N := 18) hx hb hts (fun _ h0_ => List.mem_cons_of_mem _ (List.mem_append_right _ (List.mem_append_left _ h0_))) hown hK hI i_p1.1 k_36 rfl 11 (by decide) (hts (.fieldLink RX6 275 "DeadlineShare$Task" "late" "I") (List.mem_cons_of_mem _ (List.mem_append_left _ (List.mem_of_getElem? (i := 13) rfl)))) (fun _ h9 => h9) rfl dX6_endRequest_32 ?_
    refine lv_iconst (v := 1) hx hb dX6_endRequest_35 (by decide) ?_
    refine lv_iadd hx hb dX6_endRequest_36 ?_
    refine lv_topi (fun v_59 ev_59 => ?_)
    have tv_59 := k_ad x_11 1
    rw [← ev_59, show Int32.toInt 1 = 1 from by decide] at tv_59
    refine k_put (ci := 8) (v := .int v_59) (ty := .int) (C := RX8) (T := TX8) (N := 18) hx hb hts (fun _ h0_ => List.mem_cons_of_mem _ (List.mem_append_right _ (List.mem_append_left _ h0_))) tyX8 tyX8_ok nmX8 hown hK hI hS i_p1.1 k_36 rfl 11 (by decide) (hts (.fieldLink RX6 275 "DeadlineShare$Task" "late" "I") (List.mem_cons_of_mem _ (List.mem_append_left _ (List.mem_of_getElem? (i := 13) rfl)))) (fun _ h9 => h9) rfl (by decide +kernel) rfl rfl (Nat.le_of_ble_eq_true rfl) rfl (cl_8 i_p1) dX6_endRequest_37 (fun f_60 H locs e_61 hI hS => ?_)
    have k_63 : f_60 p1 = .inr (8, [.int x_2, .ref (gr g p1 1), .int x_3, .int x_4, .int x_5, .long x_6, .int x_7, .ref (gr g p1 7), .int x_8, .int x_9, .int v_18, .int v_59, .int x_12, .int x_13, .int x_14, .int x_15, .int x_16, .int x_17]) := by rw [e_61]; exact va_up_self _ _ _
    have k_64 : f_60 h0 = .inr (6, [.ref (gr g h0 0), .ref (gr g h0 1), .ref (gr g h0 2), .ref (gr g h0 3), .ref (gr g h0 4), .int x_24, .int x_25, .long x_26, .int x_27, .int x_28]) := by rw [e_61, va_up_ne _ _ (ik_ne i_h0 i_p1 (by decide))]; exact k_37
    have k_65 : f_60 (gr g h0 4) = .inr (10, [.long x_42, .long x_43]) := by rw [e_61, va_up_ne _ _ (ik_ne i_32 i_p1 (by decide))]; exact k_41
    have kp_62 := Kp.put kp_38 i_p1 (by decide) e_61
    refine lv_aload_n hx hb dX6_endRequest_40 rfl (lv_at hl 1 rfl) ?_
    refine lv_aload_n hx hb dX6_endRequest_41 rfl (lv_at hl 1 rfl) ?_
    refine k_get (ci := 8) (v := .int x_4) (C := RX8) (T := TX8) (N := 18) hx hb hts (fun _ h0_ => List.mem_cons_of_mem _ (List.mem_append_right _ (List.mem_append_left _ h0_))) hown hK hI i_p1.1 k_63 rfl 3 (by decide) (hts (.fieldLink RX6 153 "DeadlineShare$Task" "slice" "I") (List.mem_cons_of_mem _ (List.mem_append_left _ (List.mem_of_getElem? (i := 10) rfl)))) (fun _ h9 => h9) rfl dX6_endRequest_42 ?_
    refine k_put (ci := 8) (v := .int x_4) (ty := .int) (C := RX8) (T := TX8) (N := 18) hx hb hts (fun _ h0_ => List.mem_cons_of_mem _ (List.mem_append_right _ (List.mem_append_left _ h0_))) tyX8 tyX8_ok nmX8 hown hK hI hS i_p1.1 k_63 rfl 6 (by decide) (hts (.fieldLink RX6 156 "DeadlineShare$Task" "left" "I") (List.mem_cons_of_mem _ (List.mem_append_left _ (List.mem_of_getElem? (i := 11) rfl)))) (fun _ h9 => h9) rfl (by decide +kernel) rfl rfl (Nat.le_of_ble_eq_true rfl) rfl (cl_8 i_p1) dX6_endRequest_45 (fun f_66 H locs e_67 hI hS => ?_)
    have k_69 : f_66 p1 = .inr (8, [.int x_2, .ref (gr g p1 1), .int x_3, .int x_4, .int x_5, .long x_6, .int x_4, .ref (gr g p1 7), .int x_8, .int x_9, .int v_18, .int v_59, .int x_12, .int x_13, .int x_14, .int x_15, .int x_16, .int x_17]) := by rw [e_67]; exact va_up_self _ _ _
    have k_70 : f_66 h0 = .inr (6, [.ref (gr g h0 0), .ref (gr g h0 1), .ref (gr g h0 2), .ref (gr g h0 3), .ref (gr g h0 4), .int x_24, .int x_25, .long x_26, .int x_27, .int x_28]) := by rw [e_67, va_up_ne _ _ (ik_ne i_h0 i_p1 (by decide))]; exact k_64
    have k_71 : f_66 (gr g h0 4) = .inr (10, [.long x_42, .long x_43]) := by rw [e_67, va_up_ne _ _ (ik_ne i_32 i_p1 (by decide))]; exact k_65
    have kp_68 := Kp.put kp_62 i_p1 (by decide) e_67
    refine lv_aload_n hx hb dX6_endRequest_48 rfl (lv_at hl 0 rfl) ?_
    refine lv_iconst (v := (-1)) hx hb dX6_endRequest_49 (by decide) ?_
    refine k_put (ci := 6) (v := .int (-1)) (ty := .int) (C := RX6) (T := TX6) (N := 10) hx hb hts (fun _ h0_ => List.mem_cons_of_mem _ (List.mem_append_right _ (List.mem_append_right _ (List.mem_append_left _ h0_)))) tyX6 tyX6_ok nmX6 hown hK hI hS i_h0.1 k_70 rfl 9 (by decide) (hts (.fieldLink RX6 38 "DeadlineShare$State" "holder" "I") (List.mem_cons_of_mem _ (List.mem_append_left _ (List.mem_of_getElem? (i := 12) rfl)))) (fun _ h9 => h9) rfl (by decide +kernel) rfl rfl (Nat.le_of_ble_eq_true rfl) rfl (cl_6 i_h0 (by omega)) dX6_endRequest_50 (fun f_72 H locs e_73 hI hS => ?_)
    have k_75 : f_72 p1 = .inr (8, [.int x_2, .ref (gr g p1 1), .int x_3, .int x_4, .int x_5, .long x_6, .int x_4, .ref (gr g p1 7), .int x_8, .int x_9, .int v_18, .int v_59, .int x_12, .int x_13, .int x_14, .int x_15, .int x_16, .int x_17]) := by rw [e_73, va_up_ne _ _ (ik_ne i_p1 i_h0 (by decide))]; exact k_69
    have k_76 : f_72 h0 = .inr (6, [.ref (gr g h0 0), .ref (gr g h0 1), .ref (gr g h0 2), .ref (gr g h0 3), .ref (gr g h0 4), .int x_24, .int x_25, .long x_26, .int x_27, .int (-1)]) := by rw [e_73]; exact va_up_self _ _ _
    have k_77 : f_72 (gr g h0 4) = .inr (10, [.long x_42, .long x_43]) := by rw [e_73, va_up_ne _ _ (ik_ne i_32 i_h0 (by decide))]; exact k_71
    have kp_74 := Kp.put kp_68 i_h0 (by decide) e_73
    exact W.vret hx hb hr (fun t ht hW => ⟨⟨(), rfl, trivial, ⟨f_72, k_ret ht hI, kp_74⟩⟩, hS.F ht⟩) hS.2.2 dX6_endRequest_53
theorem tw_455 : q_g (.fieldLink RX6 256 "DeadlineShare$Task" "budget" "I") := ⟨(List.mem_append_right _ (List.mem_of_getElem? (i := 188) (by decide +kernel))), good_of_word (by decide +kernel)⟩
theorem tw_456 : q_g (.selects RX6 yX6_endRequest yX6_endRequest) := ⟨(List.mem_append_left _ (List.mem_of_getElem? (i := 14) (by decide +kernel))), good_of_word (by decide +kernel)⟩
theorem tw_457 : q_g (.instanceMethod yX6_endRequest) := ⟨(List.mem_append_right _ (List.mem_of_getElem? (i := 863) (by decide +kernel))), good_of_word (by decide +kernel)⟩
theorem tw_458 : q_g (.methodLink RX6 262 yX6_endRequest) := ⟨(List.mem_append_right _ (List.mem_of_getElem? (i := 861) (by decide +kernel))), good_of_word (by decide +kernel)⟩
theorem tw_459 : q_g (.selects RX6 yX6_countWaits yX6_countWaits) := ⟨(List.mem_append_left _ (List.mem_of_getElem? (i := 13) (by decide +kernel))), good_of_word (by decide +kernel)⟩
theorem tw_460 : q_g (.instanceMethod yX6_countWaits) := ⟨(List.mem_append_right _ (List.mem_of_getElem? (i := 854) (by decide +kernel))), good_of_word (by decide +kernel)⟩
theorem tw_461 : q_g (.methodLink RX6 259 yX6_countWaits) := ⟨(List.mem_append_right _ (List.mem_of_getElem? (i := 852) (by decide +kernel))), good_of_word (by decide +kernel)⟩
theorem tw_462 : q_g (.fieldLink RX6 253 "DeadlineShare$Task" "quota" "I") := ⟨(List.mem_append_right _ (List.mem_of_getElem? (i := 190) (by decide +kernel))), good_of_word (by decide +kernel)⟩
theorem tw_463 : q_g (.fieldLink RX6 250 "DeadlineShare$Task" "served" "I") := ⟨(List.mem_append_right _ (List.mem_of_getElem? (i := 175) (by decide +kernel))), good_of_word (by decide +kernel)⟩
theorem tw_464 : q_g (.code yX6_serve cX6_serve 2 none) := ⟨(List.mem_append_right _ (List.mem_of_getElem? (i := 850) (by decide +kernel))), good_of_word (by decide +kernel)⟩
def ow_c_X6_serve : List Cond := [.fieldLink RX6 79 "DeadlineShare$Task" "v" "J", .fieldLink RX6 72 "DeadlineShare$Task" "weight" "I", .initialized RX11, .static yX11_unitBy, .fieldLink RX6 250 "DeadlineShare$Task" "served" "I", .fieldLink RX6 253 "DeadlineShare$Task" "quota" "I", .methodLink RX6 259 yX6_countWaits, .instanceMethod yX6_countWaits, .selects RX6 yX6_countWaits yX6_countWaits, .initialized RX6, .fieldLink RX6 165 "DeadlineShare$Task" "number" "I", .fieldLink RX6 34 "DeadlineShare$State" "last" "I", .fieldLink RX6 38 "DeadlineShare$State" "holder" "I", .fieldLink RX6 156 "DeadlineShare$Task" "left" "I", .methodLink RX6 262 yX6_endRequest, .instanceMethod yX6_endRequest, .selects RX6 yX6_endRequest yX6_endRequest, .fieldLink RX6 256 "DeadlineShare$Task" "budget" "I"]
def wq_c_X6_serve : List Cond := .code yX6_serve cX6_serve 2 none :: (ow_c_X6_serve ++ (u_ws RX8 TX8 18 ++ (wq_c_X11_unitBy ++ (wq_c_X6_countWaits ++ (u_ws RX6 TX6 10 ++ (wq_c_X6_endRequest ++ ([] : List Cond)))))))
theorem tb_c_X6_serve : ∀ w ∈ wq_c_X6_serve, q_g w := by
  unfold wq_c_X6_serve ow_c_X6_serve
  exact q_cons tw_464 (q_app (q_cons tw_7 (q_cons tw_23 (q_cons tw_56 (q_cons tw_55 (q_cons tw_463 (q_cons tw_462 (q_cons tw_461 (q_cons tw_460 (q_cons tw_459 (q_cons tw_47 (q_cons tw_379 (q_cons tw_77 (q_cons tw_145 (q_cons tw_367 (q_cons tw_458 (q_cons tw_457 (q_cons tw_456 (q_cons tw_455 q_nil)))))))))))))))))) (q_app tu_X8 (q_app tb_c_X11_unitBy (q_app tb_c_X6_countWaits (q_app tu_X6 (q_app tb_c_X6_endRequest q_nil))))))
set_option maxHeartbeats 4000000 in
set_option maxRecDepth 100000 in
theorem c_X6_serve (l : Launch) (dC : Nat → ClassId) (dI : Nat → Nat → Nat) (g : kG) (A : Nat → Prop) (hG : kWf g) (f : Nat → va_E) (h0 : Nat) (p1 : Nat) (i_h0 : ik g 6 h0) (i_p1 : ik g 8 p1) : Met l yX6_serve wq_c_X6_serve ({ frames := 3, cells := 0, slots := 0, locals := 70 } : Room) (va_Pc [.ref h0, .ref p1] (fun U => kIn dC dI g A f U)) (va_Qv (fun (_ : Unit) => True) (fun (_ : Unit) t => ∃ f1 : Nat → va_E, Iv dC dI g A f1 t.heap ∧ Kp g [6, 8, 10] f f1) A) 0 0 A := by
  refine Met.ofW (cc := cX6_serve) (maxL := 2) (ret := none) (by decide) rfl ?_
  intro p e s m args below meth c s₁ B hml hv
  obtain ⟨rfl, hI, hK, hE⟩ := hv
  have hx := B.exec
  have hb := B.bytes
  have hr := B.returns
  have hts := atoms_spec (ws := wq_c_X6_serve) B.pre
  have hown : s.vm.findClass RX6 = some m.cls := findClass_of_methodNamed B.named
  have hlocks := B.notSynchronized
  have hS : va_S A s.heap s.heap [] := va_S.rf
  have hk0 : Kp g [6, 8, 10] f f := Kp.rf
  have hl := lv_entry ([.ref h0, .ref p1]) (n := 2) (Nat.le_of_ble_eq_true rfl)
  rw [lg_entry_eq]
  generalize (lg_sl ([.ref h0, .ref p1]) ++ List.replicate (2 - (lg_sl ([.ref h0, .ref p1])).length) Slot.unset).toArray = ls at hl ⊢
  have hl : lv_has ls 2 [(0, .ref h0), (1, .ref p1)] := hl
  refine lv_aload_n hx hb dX6_serve_0 rfl (lv_at hl 1 rfl) ?_
  refine lv_dup hx hb dX6_serve_1 rfl ?_
  obtain ⟨x_2, x_3, x_4, x_5, x_6, x_7, x_8, x_9, x_10, x_11, x_12, x_13, x_14, x_15, x_16, x_17, k_1⟩ := op_8 hI i_p1
  refine k_get (ci := 8) (v := .long x_6) (C := RX8) (T := TX8) (N := 18) hx hb hts (fun _ h0_ => List.mem_cons_of_mem _ (List.mem_append_right _ (List.mem_append_left _ h0_))) hown hK hI i_p1.1 k_1 rfl 5 (by decide) (hts (.fieldLink RX6 79 "DeadlineShare$Task" "v" "J") (List.mem_cons_of_mem _ (List.mem_append_left _ (List.mem_of_getElem? (i := 0) rfl)))) (fun _ h9 => h9) rfl dX6_serve_2 ?_
  refine lv_aload_n hx hb dX6_serve_5 rfl (lv_at hl 1 rfl) ?_
  refine k_get (ci := 8) (v := .int x_3) (C := RX8) (T := TX8) (N := 18) hx hb hts (fun _ h0_ => List.mem_cons_of_mem _ (List.mem_append_right _ (List.mem_append_left _ h0_))) hown hK hI i_p1.1 k_1 rfl 2 (by decide) (hts (.fieldLink RX6 72 "DeadlineShare$Task" "weight" "I") (List.mem_cons_of_mem _ (List.mem_append_left _ (List.mem_of_getElem? (i := 1) rfl)))) (fun _ h9 => h9) rfl dX6_serve_6 ?_
  refine va_calll (va_runSN (As := [.int x_3]) (rest := [.long x_6, .ref p1]) ⟨hx, hb, hml, hown, hts⟩ (c_X11_unitBy l dC dI g A hG f x_3) ⟨va_cnB 1 hts (fun w_ h0_ => ⟨List.mem_cons_of_mem _ (List.mem_append_right _ (List.mem_append_right _ (List.mem_append_left _ h0_))), (tb_c_X11_unitBy w_ h0_).2⟩) rfl rfl rfl hE.2.1 (hts (.initialized RX11) (List.mem_cons_of_mem _ (List.mem_append_left _ (List.mem_of_getElem? (i := 2) rfl)))) (by decide +kernel) ⟨Nat.le_of_ble_eq_true rfl, Nat.le_of_ble_eq_true rfl⟩, (hts (.static yX11_unitBy) (List.mem_cons_of_mem _ (List.mem_append_left _ (List.mem_of_getElem? (i := 3) rfl)))), trivial⟩ ⟨fun a U g mk q => ⟨q.1, q.2.calling rfl rfl⟩, fun U hU hW => ⟨rfl, kIn.of hI hK hE hS hU hW⟩⟩ rfl rfl hl.1 rfl (lv_room (Nat.le_of_ble_eq_true rfl)) dX6_serve_9 ⟨Nat.le_of_ble_eq_true rfl, Nat.le_of_ble_eq_true rfl⟩) hS (fun q _ h => h) (fun q h => h) (fun r_19 u t H1 locs ht hvm w_18 hB hz1 hk1 hS => ?_)
  have hI : Iv dC dI g A f t.heap := hB
  rw [ht] at hI
  generalize H1 = H at hI hS ⊢
  refine W.widen (k := 0) (n := 0) (Nat.le_of_ble_eq_true rfl) (Nat.le_of_ble_eq_true rfl) ?_
  refine lv_ladd hx hb dX6_serve_12 ?_
  refine lv_topl (fun v_20 ev_20 => ?_)
  refine k_put (ci := 8) (v := .long v_20) (ty := .long) (C := RX8) (T := TX8) (N := 18) hx hb hts (fun _ h0_ => List.mem_cons_of_mem _ (List.mem_append_right _ (List.mem_append_left _ h0_))) tyX8 tyX8_ok nmX8 hown hK hI hS i_p1.1 k_1 rfl 5 (by decide) (hts (.fieldLink RX6 79 "DeadlineShare$Task" "v" "J") (List.mem_cons_of_mem _ (List.mem_append_left _ (List.mem_of_getElem? (i := 0) rfl)))) (fun _ h9 => h9) rfl (by decide +kernel) rfl rfl (Nat.le_of_ble_eq_true rfl) rfl (cl_8 i_p1) dX6_serve_13 (fun f_21 H locs e_22 hI hS => ?_)
  have k_24 : f_21 p1 = .inr (8, [.int x_2, .ref (gr g p1 1), .int x_3, .int x_4, .int x_5, .long v_20, .int x_7, .ref (gr g p1 7), .int x_8, .int x_9, .int x_10, .int x_11, .int x_12, .int x_13, .int x_14, .int x_15, .int x_16, .int x_17]) := by rw [e_22]; exact va_up_self _ _ _
  have kp_23 := Kp.put hk0 i_p1 (by decide) e_22
  refine lv_aload_n hx hb dX6_serve_16 rfl (lv_at hl 1 rfl) ?_
  refine lv_dup hx hb dX6_serve_17 rfl ?_
  refine k_get (ci := 8) (v := .int x_9) (C := RX8) (T := TX8) (N := 18) hx hb hts (fun _ h0_ => List.mem_cons_of_mem _ (List.mem_append_right _ (List.mem_append_left _ h0_))) hown hK hI i_p1.1 k_24 rfl 9 (by decide) (hts (.fieldLink RX6 250 "DeadlineShare$Task" "served" "I") (List.mem_cons_of_mem _ (List.mem_append_left _ (List.mem_of_getElem? (i := 4) rfl)))) (fun _ h9 => h9) rfl dX6_serve_18 ?_
  refine lv_iconst (v := 1) hx hb dX6_serve_21 (by decide) ?_
  refine lv_iadd hx hb dX6_serve_22 ?_
  refine lv_topi (fun v_25 ev_25 => ?_)
  have tv_25 := k_ad x_9 1
  rw [← ev_25, show Int32.toInt 1 = 1 from by decide] at tv_25
  refine k_put (ci := 8) (v := .int v_25) (ty := .int) (C := RX8) (T := TX8) (N := 18) hx hb hts (fun _ h0_ => List.mem_cons_of_mem _ (List.mem_append_right _ (List.mem_append_left _ h0_))) tyX8 tyX8_ok nmX8 hown hK hI hS i_p1.1 k_24 rfl 9 (by decide) (hts (.fieldLink RX6 250 "DeadlineShare$Task" "served" "I") (List.mem_cons_of_mem _ (List.mem_append_left _ (List.mem_of_getElem? (i := 4) rfl)))) (fun _ h9 => h9) rfl (by decide +kernel) rfl rfl (Nat.le_of_ble_eq_true rfl) rfl (cl_8 i_p1) dX6_serve_23 (fun f_26 H locs e_27 hI hS => ?_)
  have k_29 : f_26 p1 = .inr (8, [.int x_2, .ref (gr g p1 1), .int x_3, .int x_4, .int x_5, .long v_20, .int x_7, .ref (gr g p1 7), .int x_8, .int v_25, .int x_10, .int x_11, .int x_12, .int x_13, .int x_14, .int x_15, .int x_16, .int x_17]) := by rw [e_27]; exact va_up_self _ _ _
  have kp_28 := Kp.put kp_23 i_p1 (by decide) e_27
  refine lv_aload_n hx hb dX6_serve_26 rfl (lv_at hl 1 rfl) ?_
  refine k_get (ci := 8) (v := .int x_16) (C := RX8) (T := TX8) (N := 18) hx hb hts (fun _ h0_ => List.mem_cons_of_mem _ (List.mem_append_right _ (List.mem_append_left _ h0_))) hown hK hI i_p1.1 k_29 rfl 16 (by decide) (hts (.fieldLink RX6 253 "DeadlineShare$Task" "quota" "I") (List.mem_cons_of_mem _ (List.mem_append_left _ (List.mem_of_getElem? (i := 5) rfl)))) (fun _ h9 => h9) rfl dX6_serve_27 ?_
  have J_43 : ∀ (f_30 : Nat → va_E) (H : Heap) (locs : List Loc) (ls : Array Slot), Iv dC dI g A f_30 H → va_S A s.heap H locs → Kp g [6, 8, 10] f f_30 → lv_has ls 2 [(0, .ref h0), (1, .ref p1)] → W p l e (headSpec wq_c_X6_serve ({ frames := 3, cells := 0, slots := 0, locals := 70 } : Room)).room s m ([.ref h0, .ref p1].toArray) below meth c H locs 0 0 (MQ below (va_Qv (fun (_ : Unit) => True) (fun (_ : Unit) t => ∃ f1 : Nat → va_E, Iv dC dI g A f1 t.heap ∧ Kp g [6, 8, 10] f f1) A) ([.ref h0, .ref p1].toArray) s 0 0 A) (F0 m 43 ls []) := by
    intro f_30 H locs ls hI hS kp_31 hl
    refine lv_aload_n hx hb dX6_serve_43 rfl (lv_at hl 0 rfl) ?_
    refine lv_aload_n hx hb dX6_serve_44 rfl (lv_at hl 1 rfl) ?_
    obtain ⟨x_33, x_34, x_35, x_36, x_37, k_32, b_38, b_39⟩ := op_6 hI i_h0
    refine va_callv (va_runV (As := [.ref p1]) (rest := []) ⟨hx, hb, hml, hown, hts⟩ (c_X6_countWaits l dC dI g A hG f_30 h0 p1 i_h0 i_p1) (cwV 1 hts (gi_V (fun w_ h0_ => ⟨List.mem_cons_of_mem _ (List.mem_append_right _ (List.mem_append_right _ (List.mem_append_right _ (List.mem_append_left _ h0_)))), (tb_c_X6_countWaits w_ h0_).2⟩) (List.mem_cons_of_mem _ (List.mem_append_left _ (List.mem_of_getElem? (i := 6) rfl))) (List.mem_cons_of_mem _ (List.mem_append_left _ (List.mem_of_getElem? (i := 7) rfl))) (List.mem_cons_of_mem _ (List.mem_append_left _ (List.mem_of_getElem? (i := 8) rfl))) (List.mem_cons_of_mem _ (List.mem_append_left _ (List.mem_of_getElem? (i := 9) rfl)))) rfl rfl rfl (by decide +kernel) ⟨Nat.le_of_ble_eq_true rfl, Nat.le_of_ble_eq_true rfl⟩) ⟨fun a U g mk q => ⟨q.1, q.2.calling rfl rfl⟩, k_recv hK hI i_h0.1 k_32 (ci := 6) rfl, fun U hU hW => ⟨rfl, kIn.of hI hK hE hS hU hW⟩⟩ rfl rfl hl.1 rfl (lv_room (Nat.le_of_ble_eq_true rfl)) dX6_serve_45 ⟨Nat.le_of_ble_eq_true rfl, Nat.le_of_ble_eq_true rfl⟩) hS (fun q _ h => h) (fun q h => h) (fun u t H1 locs ht hvm _ hB hz1 hk1 hS => ?_)
    obtain ⟨f_40, hI, kc_42⟩ := hB
    rw [ht] at hI
    have k_43 : f_40 h0 = .inr (6, [.ref (gr g h0 0), .ref (gr g h0 1), .ref (gr g h0 2), .ref (gr g h0 3), .ref (gr g h0 4), .int x_33, .int x_34, .long x_35, .int x_36, .int x_37]) := Kp.at kc_42 i_h0 (by decide) k_32
    have kp_44 := Kp.call kp_31 kc_42 (by decide)
    generalize H1 = H at hI hS ⊢
    refine W.widen (k := 0) (n := 0) (Nat.le_of_ble_eq_true rfl) (Nat.le_of_ble_eq_true rfl) ?_
    refine lv_aload_n hx hb dX6_serve_48 rfl (lv_at hl 0 rfl) ?_
    refine lv_aload_n hx hb dX6_serve_49 rfl (lv_at hl 1 rfl) ?_
    obtain ⟨x_46, x_47, x_48, x_49, x_50, x_51, x_52, x_53, x_54, x_55, x_56, x_57, x_58, x_59, x_60, x_61, k_45⟩ := op_8 hI i_p1
    refine k_get (ci := 8) (v := .int x_46) (C := RX8) (T := TX8) (N := 18) hx hb hts (fun _ h0_ => List.mem_cons_of_mem _ (List.mem_append_right _ (List.mem_append_left _ h0_))) hown hK hI i_p1.1 k_45 rfl 0 (by decide) (hts (.fieldLink RX6 165 "DeadlineShare$Task" "number" "I") (List.mem_cons_of_mem _ (List.mem_append_left _ (List.mem_of_getElem? (i := 10) rfl)))) (fun _ h9 => h9) rfl dX6_serve_50 ?_
    refine k_put (ci := 6) (v := .int x_46) (ty := .int) (C := RX6) (T := TX6) (N := 10) hx hb hts (fun _ h0_ => List.mem_cons_of_mem _ (List.mem_append_right _ (List.mem_append_right _ (List.mem_append_right _ (List.mem_append_right _ (List.mem_append_left _ h0_)))))) tyX6 tyX6_ok nmX6 hown hK hI hS i_h0.1 k_43 rfl 8 (by decide) (hts (.fieldLink RX6 34 "DeadlineShare$State" "last" "I") (List.mem_cons_of_mem _ (List.mem_append_left _ (List.mem_of_getElem? (i := 11) rfl)))) (fun _ h9 => h9) rfl (by decide +kernel) rfl rfl (Nat.le_of_ble_eq_true rfl) rfl (cl_6 i_h0 (by omega)) dX6_serve_53 (fun f_62 H locs e_63 hI hS => ?_)
    have k_65 : f_62 h0 = .inr (6, [.ref (gr g h0 0), .ref (gr g h0 1), .ref (gr g h0 2), .ref (gr g h0 3), .ref (gr g h0 4), .int x_33, .int x_34, .long x_35, .int x_46, .int x_37]) := by rw [e_63]; exact va_up_self _ _ _
    have k_66 : f_62 p1 = .inr (8, [.int x_46, .ref (gr g p1 1), .int x_47, .int x_48, .int x_49, .long x_50, .int x_51, .ref (gr g p1 7), .int x_52, .int x_53, .int x_54, .int x_55, .int x_56, .int x_57, .int x_58, .int x_59, .int x_60, .int x_61]) := by rw [e_63, va_up_ne _ _ (ik_ne i_p1 i_h0 (by decide))]; exact k_45
    have kp_64 := Kp.put kp_44 i_h0 (by decide) e_63
    refine lv_aload_n hx hb dX6_serve_56 rfl (lv_at hl 0 rfl) ?_
    refine lv_aload_n hx hb dX6_serve_57 rfl (lv_at hl 1 rfl) ?_
    refine k_get (ci := 8) (v := .int x_46) (C := RX8) (T := TX8) (N := 18) hx hb hts (fun _ h0_ => List.mem_cons_of_mem _ (List.mem_append_right _ (List.mem_append_left _ h0_))) hown hK hI i_p1.1 k_66 rfl 0 (by decide) (hts (.fieldLink RX6 165 "DeadlineShare$Task" "number" "I") (List.mem_cons_of_mem _ (List.mem_append_left _ (List.mem_of_getElem? (i := 10) rfl)))) (fun _ h9 => h9) rfl dX6_serve_58 ?_
    refine k_put (ci := 6) (v := .int x_46) (ty := .int) (C := RX6) (T := TX6) (N := 10) hx hb hts (fun _ h0_ => List.mem_cons_of_mem _ (List.mem_append_right _ (List.mem_append_right _ (List.mem_append_right _ (List.mem_append_right _ (List.mem_append_left _ h0_)))))) tyX6 tyX6_ok nmX6 hown hK hI hS i_h0.1 k_65 rfl 9 (by decide) (hts (.fieldLink RX6 38 "DeadlineShare$State" "holder" "I") (List.mem_cons_of_mem _ (List.mem_append_left _ (List.mem_of_getElem? (i := 12) rfl)))) (fun _ h9 => h9) rfl (by decide +kernel) rfl rfl (Nat.le_of_ble_eq_true rfl) rfl (cl_6 i_h0 (by omega)) dX6_serve_61 (fun f_67 H locs e_68 hI hS => ?_)
    have k_70 : f_67 h0 = .inr (6, [.ref (gr g h0 0), .ref (gr g h0 1), .ref (gr g h0 2), .ref (gr g h0 3), .ref (gr g h0 4), .int x_33, .int x_34, .long x_35, .int x_46, .int x_46]) := by rw [e_68]; exact va_up_self _ _ _
    have k_71 : f_67 p1 = .inr (8, [.int x_46, .ref (gr g p1 1), .int x_47, .int x_48, .int x_49, .long x_50, .int x_51, .ref (gr g p1 7), .int x_52, .int x_53, .int x_54, .int x_55, .int x_56, .int x_57, .int x_58, .int x_59, .int x_60, .int x_61]) := by rw [e_68, va_up_ne _ _ (ik_ne i_p1 i_h0 (by decide))]; exact k_66
    have kp_69 := Kp.put kp_64 i_h0 (by decide) e_68
    refine lv_aload_n hx hb dX6_serve_64 rfl (lv_at hl 1 rfl) ?_
    refine lv_dup hx hb dX6_serve_65 rfl ?_
    refine k_get (ci := 8) (v := .int x_51) (C := RX8) (T := TX8) (N := 18) hx hb hts (fun _ h0_ => List.mem_cons_of_mem _ (List.mem_append_right _ (List.mem_append_left _ h0_))) hown hK hI i_p1.1 k_71 rfl 6 (by decide) (hts (.fieldLink RX6 156 "DeadlineShare$Task" "left" "I") (List.mem_cons_of_mem _ (List.mem_append_left _ (List.mem_of_getElem? (i := 13) rfl)))) (fun _ h9 => h9) rfl dX6_serve_66 ?_
    refine lv_iconst (v := 1) hx hb dX6_serve_69 (by decide) ?_
    refine lv_isub hx hb dX6_serve_70 ?_
    refine lv_topi (fun v_72 ev_72 => ?_)
    have tv_72 := k_sb x_51 1
    rw [← ev_72, show Int32.toInt 1 = 1 from by decide] at tv_72
    refine k_put (ci := 8) (v := .int v_72) (ty := .int) (C := RX8) (T := TX8) (N := 18) hx hb hts (fun _ h0_ => List.mem_cons_of_mem _ (List.mem_append_right _ (List.mem_append_left _ h0_))) tyX8 tyX8_ok nmX8 hown hK hI hS i_p1.1 k_71 rfl 6 (by decide) (hts (.fieldLink RX6 156 "DeadlineShare$Task" "left" "I") (List.mem_cons_of_mem _ (List.mem_append_left _ (List.mem_of_getElem? (i := 13) rfl)))) (fun _ h9 => h9) rfl (by decide +kernel) rfl rfl (Nat.le_of_ble_eq_true rfl) rfl (cl_8 i_p1) dX6_serve_71 (fun f_73 H locs e_74 hI hS => ?_)
    have k_76 : f_73 h0 = .inr (6, [.ref (gr g h0 0), .ref (gr g h0 1), .ref (gr g h0 2), .ref (gr g h0 3), .ref (gr g h0 4), .int x_33, .int x_34, .long x_35, .int x_46, .int x_46]) := by rw [e_74, va_up_ne _ _ (ik_ne i_h0 i_p1 (by decide))]; exact k_70
    have k_77 : f_73 p1 = .inr (8, [.int x_46, .ref (gr g p1 1), .int x_47, .int x_48, .int x_49, .long x_50, .int v_72, .ref (gr g p1 7), .int x_52, .int x_53, .int x_54, .int x_55, .int x_56, .int x_57, .int x_58, .int x_59, .int x_60, .int x_61]) := by rw [e_74]; exact va_up_self _ _ _
    have kp_75 := Kp.put kp_69 i_p1 (by decide) e_74
    refine lv_aload_n hx hb dX6_serve_74 rfl (lv_at hl 1 rfl) ?_
    refine k_get (ci := 8) (v := .int v_72) (C := RX8) (T := TX8) (N := 18) hx hb hts (fun _ h0_ => List.mem_cons_of_mem _ (List.mem_append_right _ (List.mem_append_left _ h0_))) hown hK hI i_p1.1 k_77 rfl 6 (by decide) (hts (.fieldLink RX6 156 "DeadlineShare$Task" "left" "I") (List.mem_cons_of_mem _ (List.mem_append_left _ (List.mem_of_getElem? (i := 13) rfl)))) (fun _ h9 => h9) rfl dX6_serve_75 ?_
    refine lv_if_gt (tgt := 86) hx hb dX6_serve_78 (by decide) (fun c_78 => ?_) (fun c_78 => ?_)
    · have c_78 := kc_lt (by decide : Int32.toInt 0 = 0) rfl c_78
      exact W.vret hx hb hr (fun t ht hW => ⟨⟨(), rfl, trivial, ⟨f_73, k_ret ht hI, kp_75⟩⟩, hS.F ht⟩) hS.2.2 dX6_serve_86
    · have c_78 := kn_lt (by decide : Int32.toInt 0 = 0) rfl c_78
      refine lv_aload_n hx hb dX6_serve_81 rfl (lv_at hl 0 rfl) ?_
      refine lv_aload_n hx hb dX6_serve_82 rfl (lv_at hl 1 rfl) ?_
      refine va_callv (va_runV (As := [.ref p1]) (rest := []) ⟨hx, hb, hml, hown, hts⟩ (c_X6_endRequest l dC dI g A hG f_73 h0 p1 i_h0 i_p1) (cwV 1 hts (gi_V (fun w_ h0_ => ⟨List.mem_cons_of_mem _ (List.mem_append_right _ (List.mem_append_right _ (List.mem_append_right _ (List.mem_append_right _ (List.mem_append_right _ (List.mem_append_left _ h0_)))))), (tb_c_X6_endRequest w_ h0_).2⟩) (List.mem_cons_of_mem _ (List.mem_append_left _ (List.mem_of_getElem? (i := 14) rfl))) (List.mem_cons_of_mem _ (List.mem_append_left _ (List.mem_of_getElem? (i := 15) rfl))) (List.mem_cons_of_mem _ (List.mem_append_left _ (List.mem_of_getElem? (i := 16) rfl))) (List.mem_cons_of_mem _ (List.mem_append_left _ (List.mem_of_getElem? (i := 9) rfl)))) rfl rfl rfl (by decide +kernel) ⟨Nat.le_of_ble_eq_true rfl, Nat.le_of_ble_eq_true rfl⟩) ⟨fun a U g mk q => ⟨q.1, q.2.calling rfl rfl⟩, k_recv hK hI i_h0.1 k_76 (ci := 6) rfl, fun U hU hW => ⟨rfl, kIn.of hI hK hE hS hU hW⟩⟩ rfl rfl hl.1 rfl (lv_room (Nat.le_of_ble_eq_true rfl)) dX6_serve_83 ⟨Nat.le_of_ble_eq_true rfl, Nat.le_of_ble_eq_true rfl⟩) hS (fun q _ h => h) (fun q h => h) (fun u t H1 locs ht hvm _ hB hz1 hk1 hS => ?_)
      obtain ⟨f_79, hI, kc_81⟩ := hB
      rw [ht] at hI
      have kp_82 := Kp.call kp_75 kc_81 (by decide)
      generalize H1 = H at hI hS ⊢
      refine W.widen (k := 0) (n := 0) (Nat.le_of_ble_eq_true rfl) (Nat.le_of_ble_eq_true rfl) ?_
      exact W.vret hx hb hr (fun t ht hW => ⟨⟨(), rfl, trivial, ⟨f_79, k_ret ht hI, kp_82⟩⟩, hS.F ht⟩) hS.2.2 dX6_serve_86
  refine lv_if_le (tgt := 43) hx hb dX6_serve_30 (by decide) (fun c_83 => ?_) (fun c_83 => ?_)
  · have c_83 := kc_le rfl (by decide : Int32.toInt 0 = 0) c_83
    exact J_43 f_26 _ _ _ hI hS kp_28 (lv_sub hl [0, 1] rfl)
  · have c_83 := kn_le rfl (by decide : Int32.toInt 0 = 0) c_83
    refine lv_aload_n hx hb dX6_serve_33 rfl (lv_at hl 1 rfl) ?_
    refine lv_dup hx hb dX6_serve_34 rfl ?_
    refine k_get (ci := 8) (v := .int x_15) (C := RX8) (T := TX8) (N := 18) hx hb hts (fun _ h0_ => List.mem_cons_of_mem _ (List.mem_append_right _ (List.mem_append_left _ h0_))) hown hK hI i_p1.1 k_29 rfl 15 (by decide) (hts (.fieldLink RX6 256 "DeadlineShare$Task" "budget" "I") (List.mem_cons_of_mem _ (List.mem_append_left _ (List.mem_of_getElem? (i := 17) rfl)))) (fun _ h9 => h9) rfl dX6_serve_35 ?_
    refine lv_iconst (v := 1) hx hb dX6_serve_38 (by decide) ?_
    refine lv_isub hx hb dX6_serve_39 ?_
    refine lv_topi (fun v_84 ev_84 => ?_)
    have tv_84 := k_sb x_15 1
    rw [← ev_84, show Int32.toInt 1 = 1 from by decide] at tv_84
    refine k_put (ci := 8) (v := .int v_84) (ty := .int) (C := RX8) (T := TX8) (N := 18) hx hb hts (fun _ h0_ => List.mem_cons_of_mem _ (List.mem_append_right _ (List.mem_append_left _ h0_))) tyX8 tyX8_ok nmX8 hown hK hI hS i_p1.1 k_29 rfl 15 (by decide) (hts (.fieldLink RX6 256 "DeadlineShare$Task" "budget" "I") (List.mem_cons_of_mem _ (List.mem_append_left _ (List.mem_of_getElem? (i := 17) rfl)))) (fun _ h9 => h9) rfl (by decide +kernel) rfl rfl (Nat.le_of_ble_eq_true rfl) rfl (cl_8 i_p1) dX6_serve_40 (fun f_85 H locs e_86 hI hS => ?_)
    have k_88 : f_85 p1 = .inr (8, [.int x_2, .ref (gr g p1 1), .int x_3, .int x_4, .int x_5, .long v_20, .int x_7, .ref (gr g p1 7), .int x_8, .int v_25, .int x_10, .int x_11, .int x_12, .int x_13, .int x_14, .int v_84, .int x_16, .int x_17]) := by rw [e_86]; exact va_up_self _ _ _
    have kp_87 := Kp.put kp_28 i_p1 (by decide) e_86
    exact J_43 f_85 _ _ _ hI hS kp_87 (lv_sub hl [0, 1] rfl)
theorem tw_465 : q_g (.selects RX5 yX5_isRunOver yX5_isRunOver) := ⟨(List.mem_append_right _ (List.mem_of_getElem? (i := 873) (by decide +kernel))), good_of_word (by decide +kernel)⟩
theorem tw_466 : q_g (.instanceMethod yX5_isRunOver) := ⟨(List.mem_append_right _ (List.mem_of_getElem? (i := 872) (by decide +kernel))), good_of_word (by decide +kernel)⟩
theorem tw_467 : q_g (.methodLink RX6 278 yX5_isRunOver) := ⟨(List.mem_append_right _ (List.mem_of_getElem? (i := 871) (by decide +kernel))), good_of_word (by decide +kernel)⟩
theorem tw_468 : q_g (.code yX6_goOnAfterRun cX6_goOnAfterRun 2 none) := ⟨(List.mem_append_right _ (List.mem_of_getElem? (i := 869) (by decide +kernel))), good_of_word (by decide +kernel)⟩
def ow_c_X6_goOnAfterRun : List Cond := [.fieldLink RX6 128 "DeadlineShare$Task" "script" "LDeadlineShare$Script;", .methodLink RX6 132 yX5_isThere, .instanceMethod yX5_isThere, .selects RX5 yX5_isThere yX5_isThere, .initialized RX5, .methodLink RX6 111 yX8_isOn, .instanceMethod yX8_isOn, .selects RX8 yX8_isOn yX8_isOn, .initialized RX8, .methodLink RX6 223 yX8_isSpent, .instanceMethod yX8_isSpent, .selects RX8 yX8_isSpent yX8_isSpent, .methodLink RX6 281 yX6_depart, .instanceMethod yX6_depart, .selects RX6 yX6_depart yX6_depart, .initialized RX6, .methodLink RX6 278 yX5_isRunOver, .instanceMethod yX5_isRunOver, .selects RX5 yX5_isRunOver yX5_isRunOver, .fieldLink RX6 58 "DeadlineShare$State" "time" "I", .methodLink RX6 238 yX6_goOn, .instanceMethod yX6_goOn, .selects RX6 yX6_goOn yX6_goOn]
def wq_c_X6_goOnAfterRun : List Cond := .code yX6_goOnAfterRun cX6_goOnAfterRun 2 none :: (ow_c_X6_goOnAfterRun ++ (u_ws RX8 TX8 18 ++ (wq_c_X5_isThere ++ (wq_c_X8_isOn ++ (wq_c_X8_isSpent ++ (wq_c_X6_depart ++ (wq_c_X5_isRunOver ++ (u_ws RX6 TX6 10 ++ (wq_c_X6_goOn ++ ([] : List Cond))))))))))
theorem tb_c_X6_goOnAfterRun : ∀ w ∈ wq_c_X6_goOnAfterRun, q_g w := by
  unfold wq_c_X6_goOnAfterRun ow_c_X6_goOnAfterRun
  exact q_cons tw_468 (q_app (q_cons tw_349 (q_cons tw_348 (q_cons tw_347 (q_cons tw_346 (q_cons tw_133 (q_cons tw_11 (q_cons tw_10 (q_cons tw_9 (q_cons tw_8 (q_cons tw_440 (q_cons tw_439 (q_cons tw_438 (q_cons tw_427 (q_cons tw_426 (q_cons tw_425 (q_cons tw_47 (q_cons tw_467 (q_cons tw_466 (q_cons tw_465 (q_cons tw_146 (q_cons tw_431 (q_cons tw_430 (q_cons tw_429 q_nil))))))))))))))))))))))) (q_app tu_X8 (q_app tb_c_X5_isThere (q_app tb_c_X8_isOn (q_app tb_c_X8_isSpent (q_app tb_c_X6_depart (q_app tb_c_X5_isRunOver (q_app tu_X6 (q_app tb_c_X6_goOn q_nil)))))))))
set_option maxHeartbeats 4000000 in
set_option maxRecDepth 100000 in
theorem c_X6_goOnAfterRun (l : Launch) (dC : Nat → ClassId) (dI : Nat → Nat → Nat) (g : kG) (A : Nat → Prop) (hG : kWf g) (f : Nat → va_E) (h0 : Nat) (p1 : Nat) (i_h0 : ik g 6 h0) (i_p1 : ik g 8 p1) : Met l yX6_goOnAfterRun wq_c_X6_goOnAfterRun ({ frames := 4, cells := 0, slots := 0, locals := 96 } : Room) (va_Pc [.ref h0, .ref p1] (fun U => kIn dC dI g A f U)) (va_Qv (fun (_ : Unit) => True) (fun (_ : Unit) t => ∃ f1 : Nat → va_E, Iv dC dI g A f1 t.heap ∧ Kp g [5, 6, 8, 10] f f1) A) 0 0 A := by
  refine Met.ofW (cc := cX6_goOnAfterRun) (maxL := 2) (ret := none) (by decide) rfl ?_
  intro p e s m args below meth c s₁ B hml hv
  obtain ⟨rfl, hI, hK, hE⟩ := hv
  have hx := B.exec
  have hb := B.bytes
  have hr := B.returns
  have hts := atoms_spec (ws := wq_c_X6_goOnAfterRun) B.pre
  have hown : s.vm.findClass RX6 = some m.cls := findClass_of_methodNamed B.named
  have hlocks := B.notSynchronized
  have hS : va_S A s.heap s.heap [] := va_S.rf
  have hk0 : Kp g [5, 6, 8, 10] f f := Kp.rf
  have hl := lv_entry ([.ref h0, .ref p1]) (n := 2) (Nat.le_of_ble_eq_true rfl)
  rw [lg_entry_eq]
  generalize (lg_sl ([.ref h0, .ref p1]) ++ List.replicate (2 - (lg_sl ([.ref h0, .ref p1])).length) Slot.unset).toArray = ls at hl ⊢
  have hl : lv_has ls 2 [(0, .ref h0), (1, .ref p1)] := hl
  refine lv_aload_n hx hb dX6_goOnAfterRun_0 rfl (lv_at hl 1 rfl) ?_
  obtain ⟨x_2, x_3, x_4, x_5, x_6, x_7, x_8, x_9, x_10, x_11, x_12, x_13, x_14, x_15, x_16, x_17, k_1⟩ := op_8 hI i_p1
  refine k_get (ci := 8) (v := .ref (gr g p1 1)) (C := RX8) (T := TX8) (N := 18) hx hb hts (fun _ h0_ => List.mem_cons_of_mem _ (List.mem_append_right _ (List.mem_append_left _ h0_))) hown hK hI i_p1.1 k_1 rfl 1 (by decide) (hts (.fieldLink RX6 128 "DeadlineShare$Task" "script" "LDeadlineShare$Script;") (List.mem_cons_of_mem _ (List.mem_append_left _ (List.mem_of_getElem? (i := 0) rfl)))) (fun _ h9 => h9) rfl dX6_goOnAfterRun_1 ?_
  have i_19 := kw_8_1 hG i_p1
  obtain ⟨x_21, x_22, x_23, x_24, k_20, b_25, b_26⟩ := op_5 hI i_19
  refine va_calli (va_runV (As := []) (rest := []) ⟨hx, hb, hml, hown, hts⟩ (c_X5_isThere l dC dI g A hG f (gr g p1 1) i_19) (cwV 0 hts (gi_V (fun w_ h0_ => ⟨List.mem_cons_of_mem _ (List.mem_append_right _ (List.mem_append_right _ (List.mem_append_left _ h0_))), (tb_c_X5_isThere w_ h0_).2⟩) (List.mem_cons_of_mem _ (List.mem_append_left _ (List.mem_of_getElem? (i := 1) rfl))) (List.mem_cons_of_mem _ (List.mem_append_left _ (List.mem_of_getElem? (i := 2) rfl))) (List.mem_cons_of_mem _ (List.mem_append_left _ (List.mem_of_getElem? (i := 3) rfl))) (List.mem_cons_of_mem _ (List.mem_append_left _ (List.mem_of_getElem? (i := 4) rfl)))) rfl rfl rfl (by decide +kernel) ⟨Nat.le_of_ble_eq_true rfl, Nat.le_of_ble_eq_true rfl⟩) ⟨fun a U g mk q => ⟨q.1, q.2.calling rfl rfl⟩, k_recv hK hI i_19.1 k_20 (ci := 5) rfl, fun U hU hW => ⟨rfl, kIn.of hI hK hE hS hU hW⟩⟩ rfl rfl hl.1 rfl (lv_room (Nat.le_of_ble_eq_true rfl)) dX6_goOnAfterRun_4 ⟨Nat.le_of_ble_eq_true rfl, Nat.le_of_ble_eq_true rfl⟩) hS (fun q _ h => h) (fun q h => h) (fun r_28 u t H1 locs ht hvm w_27 hB hz1 hk1 hS => ?_)
  have hI : Iv dC dI g A f t.heap := hB
  rw [ht] at hI
  generalize H1 = H at hI hS ⊢
  refine W.widen (k := 0) (n := 0) (Nat.le_of_ble_eq_true rfl) (Nat.le_of_ble_eq_true rfl) ?_
  have J_31 : ∀ (f_29 : Nat → va_E) (H : Heap) (locs : List Loc) (ls : Array Slot), Iv dC dI g A f_29 H → va_S A s.heap H locs → Kp g [5, 6, 8, 10] f f_29 → lv_has ls 2 [(0, .ref h0), (1, .ref p1)] → W p l e (headSpec wq_c_X6_goOnAfterRun ({ frames := 4, cells := 0, slots := 0, locals := 96 } : Room)).room s m ([.ref h0, .ref p1].toArray) below meth c H locs 0 0 (MQ below (va_Qv (fun (_ : Unit) => True) (fun (_ : Unit) t => ∃ f1 : Nat → va_E, Iv dC dI g A f1 t.heap ∧ Kp g [5, 6, 8, 10] f f1) A) ([.ref h0, .ref p1].toArray) s 0 0 A) (F0 m 31 ls []) := by
    intro f_29 H locs ls hI hS kp_30 hl
    refine lv_aload_n hx hb dX6_goOnAfterRun_31 rfl (lv_at hl 1 rfl) ?_
    obtain ⟨x_32, x_33, x_34, x_35, x_36, x_37, x_38, x_39, x_40, x_41, x_42, x_43, x_44, x_45, x_46, x_47, k_31⟩ := op_8 hI i_p1
    refine va_calli (va_runV (As := []) (rest := []) ⟨hx, hb, hml, hown, hts⟩ (c_X8_isOn l dC dI g A hG f_29 p1 i_p1) (cwV 0 hts (gi_V (fun w_ h0_ => ⟨List.mem_cons_of_mem _ (List.mem_append_right _ (List.mem_append_right _ (List.mem_append_right _ (List.mem_append_left _ h0_)))), (tb_c_X8_isOn w_ h0_).2⟩) (List.mem_cons_of_mem _ (List.mem_append_left _ (List.mem_of_getElem? (i := 5) rfl))) (List.mem_cons_of_mem _ (List.mem_append_left _ (List.mem_of_getElem? (i := 6) rfl))) (List.mem_cons_of_mem _ (List.mem_append_left _ (List.mem_of_getElem? (i := 7) rfl))) (List.mem_cons_of_mem _ (List.mem_append_left _ (List.mem_of_getElem? (i := 8) rfl)))) rfl rfl rfl (by decide +kernel) ⟨Nat.le_of_ble_eq_true rfl, Nat.le_of_ble_eq_true rfl⟩) ⟨fun a U g mk q => ⟨q.1, q.2.calling rfl rfl⟩, k_recv hK hI i_p1.1 k_31 (ci := 8) rfl, fun U hU hW => ⟨rfl, kIn.of hI hK hE hS hU hW⟩⟩ rfl rfl hl.1 rfl (lv_room (Nat.le_of_ble_eq_true rfl)) dX6_goOnAfterRun_32 ⟨Nat.le_of_ble_eq_true rfl, Nat.le_of_ble_eq_true rfl⟩) hS (fun q _ h => h) (fun q h => h) (fun r_49 u t H1 locs ht hvm w_48 hB hz1 hk1 hS => ?_)
    have hI : Iv dC dI g A f_29 t.heap := hB
    rw [ht] at hI
    generalize H1 = H at hI hS ⊢
    refine W.widen (k := 0) (n := 0) (Nat.le_of_ble_eq_true rfl) (Nat.le_of_ble_eq_true rfl) ?_
    refine lv_if_eq (tgt := 51) hx hb dX6_goOnAfterRun_35 (by decide) (fun c_50 => ?_) (fun c_50 => ?_)
    · have c_50 := kc_eq rfl (by decide : Int32.toInt 0 = 0) c_50
      exact W.vret hx hb hr (fun t ht hW => ⟨⟨(), rfl, trivial, ⟨f_29, k_ret ht hI, kp_30⟩⟩, hS.F ht⟩) hS.2.2 dX6_goOnAfterRun_51
    · have c_50 := kn_eq rfl (by decide : Int32.toInt 0 = 0) c_50
      refine lv_aload_n hx hb dX6_goOnAfterRun_38 rfl (lv_at hl 1 rfl) ?_
      refine va_calli (va_runV (As := []) (rest := []) ⟨hx, hb, hml, hown, hts⟩ (c_X8_isSpent l dC dI g A hG f_29 p1 i_p1) (cwV 0 hts (gi_V (fun w_ h0_ => ⟨List.mem_cons_of_mem _ (List.mem_append_right _ (List.mem_append_right _ (List.mem_append_right _ (List.mem_append_right _ (List.mem_append_left _ h0_))))), (tb_c_X8_isSpent w_ h0_).2⟩) (List.mem_cons_of_mem _ (List.mem_append_left _ (List.mem_of_getElem? (i := 9) rfl))) (List.mem_cons_of_mem _ (List.mem_append_left _ (List.mem_of_getElem? (i := 10) rfl))) (List.mem_cons_of_mem _ (List.mem_append_left _ (List.mem_of_getElem? (i := 11) rfl))) (List.mem_cons_of_mem _ (List.mem_append_left _ (List.mem_of_getElem? (i := 8) rfl)))) rfl rfl rfl (by decide +kernel) ⟨Nat.le_of_ble_eq_true rfl, Nat.le_of_ble_eq_true rfl⟩) ⟨fun a U g mk q => ⟨q.1, q.2.calling rfl rfl⟩, k_recv hK hI i_p1.1 k_31 (ci := 8) rfl, fun U hU hW => ⟨rfl, kIn.of hI hK hE hS hU hW⟩⟩ rfl rfl hl.1 rfl (lv_room (Nat.le_of_ble_eq_true rfl)) dX6_goOnAfterRun_39 ⟨Nat.le_of_ble_eq_true rfl, Nat.le_of_ble_eq_true rfl⟩) hS (fun q _ h => h) (fun q h => h) (fun r_52 u t H1 locs ht hvm w_51 hB hz1 hk1 hS => ?_)
      have hI : Iv dC dI g A f_29 t.heap := hB
      rw [ht] at hI
      generalize H1 = H at hI hS ⊢
      refine W.widen (k := 0) (n := 0) (Nat.le_of_ble_eq_true rfl) (Nat.le_of_ble_eq_true rfl) ?_
      refine lv_if_eq (tgt := 51) hx hb dX6_goOnAfterRun_42 (by decide) (fun c_53 => ?_) (fun c_53 => ?_)
      · have c_53 := kc_eq rfl (by decide : Int32.toInt 0 = 0) c_53
        exact W.vret hx hb hr (fun t ht hW => ⟨⟨(), rfl, trivial, ⟨f_29, k_ret ht hI, kp_30⟩⟩, hS.F ht⟩) hS.2.2 dX6_goOnAfterRun_51
      · have c_53 := kn_eq rfl (by decide : Int32.toInt 0 = 0) c_53
        refine lv_aload_n hx hb dX6_goOnAfterRun_45 rfl (lv_at hl 0 rfl) ?_
        refine lv_aload_n hx hb dX6_goOnAfterRun_46 rfl (lv_at hl 1 rfl) ?_
        refine lv_iconst (v := 3) hx hb dX6_goOnAfterRun_47 (by decide) ?_
        obtain ⟨x_55, x_56, x_57, x_58, x_59, k_54, b_60, b_61⟩ := op_6 hI i_h0
        refine va_callv (va_runV (As := [.ref p1, .int 3]) (rest := []) ⟨hx, hb, hml, hown, hts⟩ (c_X6_depart l dC dI g A hG f_29 h0 p1 3 i_h0 i_p1) (cwV 2 hts (gi_V (fun w_ h0_ => ⟨List.mem_cons_of_mem _ (List.mem_append_right _ (List.mem_append_right _ (List.mem_append_right _ (List.mem_append_right _ (List.mem_append_right _ (List.mem_append_left _ h0_)))))), (tb_c_X6_depart w_ h0_).2⟩) (List.mem_cons_of_mem _ (List.mem_append_left _ (List.mem_of_getElem? (i := 12) rfl))) (List.mem_cons_of_mem _ (List.mem_append_left _ (List.mem_of_getElem? (i := 13) rfl))) (List.mem_cons_of_mem _ (List.mem_append_left _ (List.mem_of_getElem? (i := 14) rfl))) (List.mem_cons_of_mem _ (List.mem_append_left _ (List.mem_of_getElem? (i := 15) rfl)))) rfl rfl rfl (by decide +kernel) ⟨Nat.le_of_ble_eq_true rfl, Nat.le_of_ble_eq_true rfl⟩) ⟨fun a U g mk q => ⟨q.1, q.2.calling rfl rfl⟩, k_recv hK hI i_h0.1 k_54 (ci := 6) rfl, fun U hU hW => ⟨rfl, kIn.of hI hK hE hS hU hW⟩⟩ rfl rfl hl.1 rfl (lv_room (Nat.le_of_ble_eq_true rfl)) dX6_goOnAfterRun_48 ⟨Nat.le_of_ble_eq_true rfl, Nat.le_of_ble_eq_true rfl⟩) hS (fun q _ h => h) (fun q h => h) (fun u t H1 locs ht hvm _ hB hz1 hk1 hS => ?_)
        obtain ⟨f_62, hI, kc_64⟩ := hB
        rw [ht] at hI
        have kp_65 := Kp.call kp_30 kc_64 (by decide)
        generalize H1 = H at hI hS ⊢
        refine W.widen (k := 0) (n := 0) (Nat.le_of_ble_eq_true rfl) (Nat.le_of_ble_eq_true rfl) ?_
        exact W.vret hx hb hr (fun t ht hW => ⟨⟨(), rfl, trivial, ⟨f_62, k_ret ht hI, kp_65⟩⟩, hS.F ht⟩) hS.2.2 dX6_goOnAfterRun_51
  refine lv_if_eq (tgt := 31) hx hb dX6_goOnAfterRun_7 (by decide) (fun c_66 => ?_) (fun c_66 => ?_)
  · have c_66 := kc_eq rfl (by decide : Int32.toInt 0 = 0) c_66
    exact J_31 f _ _ _ hI hS hk0 (lv_sub hl [0, 1] rfl)
  · have c_66 := kn_eq rfl (by decide : Int32.toInt 0 = 0) c_66
    refine lv_aload_n hx hb dX6_goOnAfterRun_10 rfl (lv_at hl 1 rfl) ?_
    refine k_get (ci := 8) (v := .ref (gr g p1 1)) (C := RX8) (T := TX8) (N := 18) hx hb hts (fun _ h0_ => List.mem_cons_of_mem _ (List.mem_append_right _ (List.mem_append_left _ h0_))) hown hK hI i_p1.1 k_1 rfl 1 (by decide) (hts (.fieldLink RX6 128 "DeadlineShare$Task" "script" "LDeadlineShare$Script;") (List.mem_cons_of_mem _ (List.mem_append_left _ (List.mem_of_getElem? (i := 0) rfl)))) (fun _ h9 => h9) rfl dX6_goOnAfterRun_11 ?_
    refine va_calli (va_runV (As := []) (rest := []) ⟨hx, hb, hml, hown, hts⟩ (c_X5_isRunOver l dC dI g A hG f (gr g p1 1) i_19) (cwV 0 hts (gi_V (fun w_ h0_ => ⟨List.mem_cons_of_mem _ (List.mem_append_right _ (List.mem_append_right _ (List.mem_append_right _ (List.mem_append_right _ (List.mem_append_right _ (List.mem_append_right _ (List.mem_append_left _ h0_))))))), (tb_c_X5_isRunOver w_ h0_).2⟩) (List.mem_cons_of_mem _ (List.mem_append_left _ (List.mem_of_getElem? (i := 16) rfl))) (List.mem_cons_of_mem _ (List.mem_append_left _ (List.mem_of_getElem? (i := 17) rfl))) (List.mem_cons_of_mem _ (List.mem_append_left _ (List.mem_of_getElem? (i := 18) rfl))) (List.mem_cons_of_mem _ (List.mem_append_left _ (List.mem_of_getElem? (i := 4) rfl)))) rfl rfl rfl (by decide +kernel) ⟨Nat.le_of_ble_eq_true rfl, Nat.le_of_ble_eq_true rfl⟩) ⟨fun a U g mk q => ⟨q.1, q.2.calling rfl rfl⟩, k_recv hK hI i_19.1 k_20 (ci := 5) rfl, fun U hU hW => ⟨rfl, kIn.of hI hK hE hS hU hW⟩⟩ rfl rfl hl.1 rfl (lv_room (Nat.le_of_ble_eq_true rfl)) dX6_goOnAfterRun_14 ⟨Nat.le_of_ble_eq_true rfl, Nat.le_of_ble_eq_true rfl⟩) hS (fun q _ h => h) (fun q h => h) (fun r_71 u t H1 locs ht hvm w_70 hB hz1 hk1 hS => ?_)
    obtain ⟨f_69, hI, kc_72⟩ := hB
    rw [ht] at hI
    have k_73 : f_69 p1 = .inr (8, [.int x_2, .ref (gr g p1 1), .int x_3, .int x_4, .int x_5, .long x_6, .int x_7, .ref (gr g p1 7), .int x_8, .int x_9, .int x_10, .int x_11, .int x_12, .int x_13, .int x_14, .int x_15, .int x_16, .int x_17]) := Kp.at kc_72 i_p1 (by decide) k_1
    have kp_74 := Kp.call hk0 kc_72 (by decide)
    generalize H1 = H at hI hS ⊢
    refine W.widen (k := 0) (n := 0) (Nat.le_of_ble_eq_true rfl) (Nat.le_of_ble_eq_true rfl) ?_
    refine lv_if_eq (tgt := 31) hx hb dX6_goOnAfterRun_17 (by decide) (fun c_75 => ?_) (fun c_75 => ?_)
    · have c_75 := kc_eq rfl (by decide : Int32.toInt 0 = 0) c_75
      exact J_31 f_69 _ _ _ hI hS kp_74 (lv_sub hl [0, 1] rfl)
    · have c_75 := kn_eq rfl (by decide : Int32.toInt 0 = 0) c_75
      refine lv_aload_n hx hb dX6_goOnAfterRun_20 rfl (lv_at hl 0 rfl) ?_
      refine lv_aload_n hx hb dX6_goOnAfterRun_21 rfl (lv_at hl 1 rfl) ?_
      refine lv_aload_n hx hb dX6_goOnAfterRun_22 rfl (lv_at hl 0 rfl) ?_
      obtain ⟨x_77, x_78, x_79, x_80, x_81, k_76, b_82, b_83⟩ := op_6 hI i_h0
      refine k_get (ci := 6) (v := .int x_78) (C := RX6) (T := TX6) (N := 10) hx hb hts (fun _ h0_ => List.mem_cons_of_mem _ (List.mem_append_right _ (List.mem_append_right _ (List.mem_append_right _ (List.mem_append_right _ (List.mem_append_right _ (List.mem_append_right _ (List.mem_append_right _ (List.mem_append_left _ h0_))))))))) hown hK hI i_h0.1 k_76 rfl 6 (by decide) (hts (.fieldLink RX6 58 "DeadlineShare$State" "time" "I") (List.mem_cons_of_mem _ (List.mem_append_left _ (List.mem_of_getElem? (i := 19) rfl)))) (fun _ h9 => h9) rfl dX6_goOnAfterRun_23 ?_
      refine lv_iconst (v := 1) hx hb dX6_goOnAfterRun_26 (by decide) ?_
      refine lv_iadd hx hb dX6_goOnAfterRun_27 ?_
      refine lv_topi (fun v_84 ev_84 => ?_)
      have tv_84 := k_ad x_78 1
      rw [← ev_84, show Int32.toInt 1 = 1 from by decide] at tv_84
      refine va_callv (va_runV (As := [.ref p1, .int v_84]) (rest := []) ⟨hx, hb, hml, hown, hts⟩ (c_X6_goOn l dC dI g A hG f_69 h0 p1 v_84 i_h0 i_p1) (cwV 2 hts (gi_V (fun w_ h0_ => ⟨List.mem_cons_of_mem _ (List.mem_append_right _ (List.mem_append_right _ (List.mem_append_right _ (List.mem_append_right _ (List.mem_append_right _ (List.mem_append_right _ (List.mem_append_right _ (List.mem_append_right _ (List.mem_append_left _ h0_))))))))), (tb_c_X6_goOn w_ h0_).2⟩) (List.mem_cons_of_mem _ (List.mem_append_left _ (List.mem_of_getElem? (i := 20) rfl))) (List.mem_cons_of_mem _ (List.mem_append_left _ (List.mem_of_getElem? (i := 21) rfl))) (List.mem_cons_of_mem _ (List.mem_append_left _ (List.mem_of_getElem? (i := 22) rfl))) (List.mem_cons_of_mem _ (List.mem_append_left _ (List.mem_of_getElem? (i := 15) rfl)))) rfl rfl rfl (by decide +kernel) ⟨Nat.le_of_ble_eq_true rfl, Nat.le_of_ble_eq_true rfl⟩) ⟨fun a U g mk q => ⟨q.1, q.2.calling rfl rfl⟩, k_recv hK hI i_h0.1 k_76 (ci := 6) rfl, fun U hU hW => ⟨rfl, kIn.of hI hK hE hS hU hW⟩⟩ rfl rfl hl.1 rfl (lv_room (Nat.le_of_ble_eq_true rfl)) dX6_goOnAfterRun_28 ⟨Nat.le_of_ble_eq_true rfl, Nat.le_of_ble_eq_true rfl⟩) hS (fun q _ h => h) (fun q h => h) (fun u t H1 locs ht hvm _ hB hz1 hk1 hS => ?_)
      obtain ⟨f_85, hI, kc_87⟩ := hB
      rw [ht] at hI
      have kp_88 := Kp.call kp_74 kc_87 (by decide)
      generalize H1 = H at hI hS ⊢
      refine W.widen (k := 0) (n := 0) (Nat.le_of_ble_eq_true rfl) (Nat.le_of_ble_eq_true rfl) ?_
      exact J_31 f_85 _ _ _ hI hS kp_88 (lv_sub hl [0, 1] rfl)
theorem tw_469 : q_g (.selects RX8 yX8_refillAt yX8_refillAt) := ⟨(List.mem_append_right _ (List.mem_of_getElem? (i := 789) (by decide +kernel))), good_of_word (by decide +kernel)⟩
theorem tw_470 : q_g (.instanceMethod yX8_refillAt) := ⟨(List.mem_append_right _ (List.mem_of_getElem? (i := 788) (by decide +kernel))), good_of_word (by decide +kernel)⟩
theorem tw_471 : q_g (.methodLink RX6 198 yX8_refillAt) := ⟨(List.mem_append_right _ (List.mem_of_getElem? (i := 787) (by decide +kernel))), good_of_word (by decide +kernel)⟩
theorem tw_472 : q_g (.selects RX6 yX6_wake yX6_wake) := ⟨(List.mem_append_left _ (List.mem_of_getElem? (i := 9) (by decide +kernel))), good_of_word (by decide +kernel)⟩
theorem tw_473 : q_g (.instanceMethod yX6_wake) := ⟨(List.mem_append_right _ (List.mem_of_getElem? (i := 793) (by decide +kernel))), good_of_word (by decide +kernel)⟩
theorem tw_474 : q_g (.methodLink RX6 201 yX6_wake) := ⟨(List.mem_append_right _ (List.mem_of_getElem? (i := 791) (by decide +kernel))), good_of_word (by decide +kernel)⟩
theorem tw_475 : q_g (.selects RX6 yX6_goOnAfterRun yX6_goOnAfterRun) := ⟨(List.mem_append_left _ (List.mem_of_getElem? (i := 15) (by decide +kernel))), good_of_word (by decide +kernel)⟩
theorem tw_476 : q_g (.instanceMethod yX6_goOnAfterRun) := ⟨(List.mem_append_right _ (List.mem_of_getElem? (i := 868) (by decide +kernel))), good_of_word (by decide +kernel)⟩
theorem tw_477 : q_g (.methodLink RX6 220 yX6_goOnAfterRun) := ⟨(List.mem_append_right _ (List.mem_of_getElem? (i := 866) (by decide +kernel))), good_of_word (by decide +kernel)⟩
theorem tw_478 : q_g (.selects RX6 yX6_serve yX6_serve) := ⟨(List.mem_append_left _ (List.mem_of_getElem? (i := 12) (by decide +kernel))), good_of_word (by decide +kernel)⟩
theorem tw_479 : q_g (.instanceMethod yX6_serve) := ⟨(List.mem_append_right _ (List.mem_of_getElem? (i := 849) (by decide +kernel))), good_of_word (by decide +kernel)⟩
theorem tw_480 : q_g (.methodLink RX6 217 yX6_serve) := ⟨(List.mem_append_right _ (List.mem_of_getElem? (i := 847) (by decide +kernel))), good_of_word (by decide +kernel)⟩
theorem tw_481 : q_g (.selects RX2 yX2_put yX2_put) := ⟨(List.mem_append_right _ (List.mem_of_getElem? (i := 845) (by decide +kernel))), good_of_word (by decide +kernel)⟩
theorem tw_482 : q_g (.instanceMethod yX2_put) := ⟨(List.mem_append_right _ (List.mem_of_getElem? (i := 844) (by decide +kernel))), good_of_word (by decide +kernel)⟩
theorem tw_483 : q_g (.methodLink RX6 213 yX2_put) := ⟨(List.mem_append_right _ (List.mem_of_getElem? (i := 843) (by decide +kernel))), good_of_word (by decide +kernel)⟩
theorem tw_484 : q_g (.selects RX6 yX6_weightsAsBits yX6_weightsAsBits) := ⟨(List.mem_append_left _ (List.mem_of_getElem? (i := 11) (by decide +kernel))), good_of_word (by decide +kernel)⟩
theorem tw_485 : q_g (.instanceMethod yX6_weightsAsBits) := ⟨(List.mem_append_right _ (List.mem_of_getElem? (i := 838) (by decide +kernel))), good_of_word (by decide +kernel)⟩
theorem tw_486 : q_g (.methodLink RX6 210 yX6_weightsAsBits) := ⟨(List.mem_append_right _ (List.mem_of_getElem? (i := 836) (by decide +kernel))), good_of_word (by decide +kernel)⟩
theorem tw_487 : q_g (.selects RX0 yX0_pick yX0_pick) := ⟨(List.mem_append_right _ (List.mem_of_getElem? (i := 799) (by decide +kernel))), good_of_word (by decide +kernel)⟩
theorem tw_488 : q_g (.instanceMethod yX0_pick) := ⟨(List.mem_append_right _ (List.mem_of_getElem? (i := 798) (by decide +kernel))), good_of_word (by decide +kernel)⟩
theorem tw_489 : q_g (.methodLink RX6 204 yX0_pick) := ⟨(List.mem_append_right _ (List.mem_of_getElem? (i := 797) (by decide +kernel))), good_of_word (by decide +kernel)⟩
theorem tw_490 : q_g (.code yX6_tick cX6_tick 3 (some .int)) := ⟨(List.mem_append_right _ (List.mem_of_getElem? (i := 786) (by decide +kernel))), good_of_word (by decide +kernel)⟩
def ow_c_X6_tick : List Cond := [.fieldLink RX6 48 "DeadlineShare$State" "count" "I", .methodLink RX6 204 yX0_pick, .instanceMethod yX0_pick, .selects RX0 yX0_pick yX0_pick, .initialized RX0, .fieldLink RX6 20 "DeadlineShare$State" "log" "LDeadlineShare$Log;", .fieldLink RX6 58 "DeadlineShare$State" "time" "I", .methodLink RX6 108 yX6_weightOfAll, .instanceMethod yX6_weightOfAll, .selects RX6 yX6_weightOfAll yX6_weightOfAll, .initialized RX6, .methodLink RX6 210 yX6_weightsAsBits, .instanceMethod yX6_weightsAsBits, .selects RX6 yX6_weightsAsBits yX6_weightsAsBits, .methodLink RX6 213 yX2_put, .instanceMethod yX2_put, .selects RX2 yX2_put yX2_put, .initialized RX2, .methodLink RX6 194 yX6_has, .instanceMethod yX6_has, .selects RX6 yX6_has yX6_has, .fieldLink RX6 38 "DeadlineShare$State" "holder" "I", .fieldLink RX6 11 "DeadlineShare$State" "tasks" "[LDeadlineShare$Task;", .methodLink RX6 217 yX6_serve, .instanceMethod yX6_serve, .selects RX6 yX6_serve yX6_serve, .methodLink RX6 220 yX6_goOnAfterRun, .instanceMethod yX6_goOnAfterRun, .selects RX6 yX6_goOnAfterRun yX6_goOnAfterRun, .methodLink RX6 201 yX6_wake, .instanceMethod yX6_wake, .selects RX6 yX6_wake yX6_wake, .methodLink RX6 198 yX8_refillAt, .instanceMethod yX8_refillAt, .selects RX8 yX8_refillAt yX8_refillAt, .initialized RX8]
def wq_c_X6_tick : List Cond := .code yX6_tick cX6_tick 3 (some .int) :: (ow_c_X6_tick ++ (u_ws RX6 TX6 10 ++ (wq_c_X0_pick ++ (wq_c_X6_weightOfAll ++ (wq_c_X6_weightsAsBits ++ (wq_c_X2_put ++ (wq_c_X6_has ++ (wq_c_X6_serve ++ (wq_c_X6_goOnAfterRun ++ (wq_c_X6_wake ++ (wq_c_X8_refillAt ++ ([] : List Cond))))))))))))
theorem tb_c_X6_tick : ∀ w ∈ wq_c_X6_tick, q_g w := by
  unfold wq_c_X6_tick ow_c_X6_tick
  exact q_cons tw_490 (q_app (q_cons tw_13 (q_cons tw_489 (q_cons tw_488 (q_cons tw_487 (q_cons tw_93 (q_cons tw_151 (q_cons tw_146 (q_cons tw_343 (q_cons tw_88 (q_cons tw_87 (q_cons tw_47 (q_cons tw_486 (q_cons tw_485 (q_cons tw_484 (q_cons tw_483 (q_cons tw_482 (q_cons tw_481 (q_cons tw_147 (q_cons tw_75 (q_cons tw_74 (q_cons tw_73 (q_cons tw_145 (q_cons tw_12 (q_cons tw_480 (q_cons tw_479 (q_cons tw_478 (q_cons tw_477 (q_cons tw_476 (q_cons tw_475 (q_cons tw_474 (q_cons tw_473 (q_cons tw_472 (q_cons tw_471 (q_cons tw_470 (q_cons tw_469 (q_cons tw_8 q_nil)))))))))))))))))))))))))))))))))))) (q_app tu_X6 (q_app tb_c_X0_pick (q_app tb_c_X6_weightOfAll (q_app tb_c_X6_weightsAsBits (q_app tb_c_X2_put (q_app tb_c_X6_has (q_app tb_c_X6_serve (q_app tb_c_X6_goOnAfterRun (q_app tb_c_X6_wake (q_app tb_c_X8_refillAt q_nil)))))))))))
set_option maxHeartbeats 4000000 in
set_option maxRecDepth 100000 in
theorem c_X6_tick (l : Launch) (dC : Nat → ClassId) (dI : Nat → Nat → Nat) (g : kG) (A : Nat → Prop) (hG : kWf g) (f : Nat → va_E) (h0 : Nat) (p1 : Nat) (i_h0 : ik g 6 h0) (i_p1 : ik g 0 p1) : Met l yX6_tick wq_c_X6_tick ({ frames := 5, cells := 0, slots := 0, locals := 117 } : Room) (va_Pc [.ref h0, .ref p1] (fun U => kIn dC dI g A f U)) (va_Qi (fun (r : Int32) (_ : Unit) => True) (fun (_ : Unit) t => ∃ f1 : Nat → va_E, Iv dC dI g A f1 t.heap ∧ Kp g [0, 5, 6, 8, 10, 23] f f1) A) 0 0 A := by
  refine Met.ofW (cc := cX6_tick) (maxL := 3) (ret := (some .int)) (by decide) rfl ?_
  intro p e s m args below meth c s₁ B hml hv
  obtain ⟨rfl, hI, hK, hE⟩ := hv
  have hx := B.exec
  have hb := B.bytes
  have hr := B.returns
  have hts := atoms_spec (ws := wq_c_X6_tick) B.pre
  have hown : s.vm.findClass RX6 = some m.cls := findClass_of_methodNamed B.named
  have hlocks := B.notSynchronized
  have hS : va_S A s.heap s.heap [] := va_S.rf
  have hk0 : Kp g [0, 5, 6, 8, 10, 23] f f := Kp.rf
  have hl := lv_entry ([.ref h0, .ref p1]) (n := 3) (Nat.le_of_ble_eq_true rfl)
  rw [lg_entry_eq]
  generalize (lg_sl ([.ref h0, .ref p1]) ++ List.replicate (3 - (lg_sl ([.ref h0, .ref p1])).length) Slot.unset).toArray = ls at hl ⊢
  have hl : lv_has ls 3 [(0, .ref h0), (1, .ref p1)] := hl
  refine lv_iconst (v := 0) hx hb dX6_tick_0 (by decide) ?_
  refine lv_istore_n (lv' := [(2, .int 0), (0, .ref h0), (1, .ref p1)]) hx hb dX6_tick_1 rfl hl (by decide) rfl (fun ls hl => ?_)
  have K_2 : ∀ (nn : Nat) (y_1 : Int32) (f_2 : Nat → va_E) (H : Heap) (locs : List Loc) (ls : Array Slot), (12 - y_1.toInt).toNat < nn → Iv dC dI g A f_2 H → va_S A s.heap H locs → Kp g [0, 5, 6, 8, 10, 23] f f_2 → (0 ≤ y_1.toInt) → lv_has ls 3 [(2, .int y_1), (0, .ref h0), (1, .ref p1)] → W p l e (headSpec wq_c_X6_tick ({ frames := 5, cells := 0, slots := 0, locals := 117 } : Room)).room s m ([.ref h0, .ref p1].toArray) below meth c H locs 0 0 (MQ below (va_Qi (fun (r : Int32) (_ : Unit) => True) (fun (_ : Unit) t => ∃ f1 : Nat → va_E, Iv dC dI g A f1 t.heap ∧ Kp g [0, 5, 6, 8, 10, 23] f f1) A) ([.ref h0, .ref p1].toArray) s 0 0 A) (F0 m 2 ls []) := by
    intro nn
    induction nn with
    | zero => intro y_1 f_2 H locs ls m_5; exact absurd m_5 (Nat.not_lt_zero _)
    | succ nn ih =>
      intro y_1 f_2 H locs ls m_5 hI hS kp_3 t_4 hl
      have g_6 := Int32.toInt_lt y_1
      have g_7 := Int32.le_toInt y_1
      refine lv_iload_n hx hb dX6_tick_2 rfl (lv_at hl 0 rfl) ?_
      refine lv_aload_n hx hb dX6_tick_3 rfl (lv_at hl 1 rfl) ?_
      obtain ⟨x_9, x_10, x_11, x_12, x_13, k_8, b_14, b_15⟩ := op_6 hI i_h0
      refine k_get (ci := 6) (v := .int x_9) (C := RX6) (T := TX6) (N := 10) hx hb hts (fun _ h0_ => List.mem_cons_of_mem _ (List.mem_append_right _ (List.mem_append_left _ h0_))) hown hK hI i_h0.1 k_8 rfl 5 (by decide) (hts (.fieldLink RX6 48 "DeadlineShare$State" "count" "I") (List.mem_cons_of_mem _ (List.mem_append_left _ (List.mem_of_getElem? (i := 0) rfl)))) (fun _ h9 => h9) rfl dX6_tick_4 ?_
      refine lv_icmp_ge (tgt := 29) hx hb dX6_tick_7 (by decide) (fun c_16 => ?_) (fun c_16 => ?_)
      · have c_16 := kc_le rfl rfl c_16
        refine lv_iconst (v := 0) hx hb dX6_tick_29 (by decide) ?_
        refine lv_istore_n (lv' := [(2, .int 0), (0, .ref h0), (1, .ref p1)]) hx hb dX6_tick_30 rfl hl (by decide) rfl (fun ls hl => ?_)
        have K_31 : ∀ (nn : Nat) (y_17 : Int32) (f_18 : Nat → va_E) (H : Heap) (locs : List Loc) (ls : Array Slot), (12 - y_17.toInt).toNat < nn → Iv dC dI g A f_18 H → va_S A s.heap H locs → Kp g [0, 5, 6, 8, 10, 23] f f_18 → (0 ≤ y_17.toInt) → lv_has ls 3 [(2, .int y_17), (0, .ref h0), (1, .ref p1)] → W p l e (headSpec wq_c_X6_tick ({ frames := 5, cells := 0, slots := 0, locals := 117 } : Room)).room s m ([.ref h0, .ref p1].toArray) below meth c H locs 0 0 (MQ below (va_Qi (fun (r : Int32) (_ : Unit) => True) (fun (_ : Unit) t => ∃ f1 : Nat → va_E, Iv dC dI g A f1 t.heap ∧ Kp g [0, 5, 6, 8, 10, 23] f f1) A) ([.ref h0, .ref p1].toArray) s 0 0 A) (F0 m 31 ls []) := by
          intro nn_31
          induction nn_31 with
          | zero => intro y_17 f_18 H locs ls m_21; exact absurd m_21 (Nat.not_lt_zero _)
          | succ nn_31 ih_31 =>
            intro y_17 f_18 H locs ls m_21 hI hS kp_19 t_20 hl
            have g_22 := Int32.toInt_lt y_17
            have g_23 := Int32.le_toInt y_17
            refine lv_iload_n hx hb dX6_tick_31 rfl (lv_at hl 0 rfl) ?_
            refine lv_aload_n hx hb dX6_tick_32 rfl (lv_at hl 1 rfl) ?_
            obtain ⟨x_25, x_26, x_27, x_28, x_29, k_24, b_30, b_31⟩ := op_6 hI i_h0
            refine k_get (ci := 6) (v := .int x_25) (C := RX6) (T := TX6) (N := 10) hx hb hts (fun _ h0_ => List.mem_cons_of_mem _ (List.mem_append_right _ (List.mem_append_left _ h0_))) hown hK hI i_h0.1 k_24 rfl 5 (by decide) (hts (.fieldLink RX6 48 "DeadlineShare$State" "count" "I") (List.mem_cons_of_mem _ (List.mem_append_left _ (List.mem_of_getElem? (i := 0) rfl)))) (fun _ h9 => h9) rfl dX6_tick_33 ?_
            refine lv_icmp_ge (tgt := 55) hx hb dX6_tick_36 (by decide) (fun c_32 => ?_) (fun c_32 => ?_)
            · have c_32 := kc_le rfl rfl c_32
              refine lv_aload_n hx hb dX6_tick_55 rfl (lv_at hl 2 rfl) ?_
              refine lv_aload_n hx hb dX6_tick_56 rfl (lv_at hl 1 rfl) ?_
              obtain ⟨x_34, x_35, k_33⟩ := op_0 hI i_p1
              refine va_calli (va_runV (As := [.ref h0]) (rest := []) ⟨hx, hb, hml, hown, hts⟩ (c_X0_pick l dC dI g A hG f_18 p1 h0 i_p1 i_h0) (cwV 1 hts (gi_V (fun w_ h0_ => ⟨List.mem_cons_of_mem _ (List.mem_append_right _ (List.mem_append_right _ (List.mem_append_left _ h0_))), (tb_c_X0_pick w_ h0_).2⟩) (List.mem_cons_of_mem _ (List.mem_append_left _ (List.mem_of_getElem? (i := 1) rfl))) (List.mem_cons_of_mem _ (List.mem_append_left _ (List.mem_of_getElem? (i := 2) rfl))) (List.mem_cons_of_mem _ (List.mem_append_left _ (List.mem_of_getElem? (i := 3) rfl))) (List.mem_cons_of_mem _ (List.mem_append_left _ (List.mem_of_getElem? (i := 4) rfl)))) rfl rfl rfl (by decide +kernel) ⟨Nat.le_of_ble_eq_true rfl, Nat.le_of_ble_eq_true rfl⟩) ⟨fun a U g mk q => ⟨q.1, q.2.calling rfl rfl⟩, k_recv hK hI i_p1.1 k_33 (ci := 0) rfl, fun U hU hW => ⟨rfl, kIn.of hI hK hE hS hU hW⟩⟩ rfl rfl hl.1 rfl (lv_room (Nat.le_of_ble_eq_true rfl)) dX6_tick_57 ⟨Nat.le_of_ble_eq_true rfl, Nat.le_of_ble_eq_true rfl⟩) hS (fun q _ h => h) (fun q h => h) (fun r_38 u t H1 locs ht hvm w_37 hB hz1 hk1 hS => ?_)
              obtain ⟨f_36, hI, kc_39⟩ := hB
              rw [ht] at hI
              have k_40 : f_36 h0 = .inr (6, [.ref (gr g h0 0), .ref (gr g h0 1), .ref (gr g h0 2), .ref (gr g h0 3), .ref (gr g h0 4), .int x_25, .int x_26, .long x_27, .int x_28, .int x_29]) := Kp.at kc_39 i_h0 (by decide) k_24
              have kp_41 := Kp.call kp_19 kc_39 (by decide)
              generalize H1 = H at hI hS ⊢
              refine W.widen (k := 0) (n := 0) (Nat.le_of_ble_eq_true rfl) (Nat.le_of_ble_eq_true rfl) ?_
              refine lv_istore_n (lv' := [(2, .int r_38), (0, .ref h0), (1, .ref p1)]) hx hb dX6_tick_60 rfl hl (by decide) rfl (fun ls hl => ?_)
              refine lv_aload_n hx hb dX6_tick_61 rfl (lv_at hl 1 rfl) ?_
              refine k_get (ci := 6) (v := .ref (gr g h0 2)) (C := RX6) (T := TX6) (N := 10) hx hb hts (fun _ h0_ => List.mem_cons_of_mem _ (List.mem_append_right _ (List.mem_append_left _ h0_))) hown hK hI i_h0.1 k_40 rfl 2 (by decide) (hts (.fieldLink RX6 20 "DeadlineShare$State" "log" "LDeadlineShare$Log;") (List.mem_cons_of_mem _ (List.mem_append_left _ (List.mem_of_getElem? (i := 5) rfl)))) (fun _ h9 => h9) rfl dX6_tick_62 ?_
              have i_43 := kw_6_2 hG i_h0
              refine lv_aload_n hx hb dX6_tick_65 rfl (lv_at hl 1 rfl) ?_
              refine k_get (ci := 6) (v := .int x_26) (C := RX6) (T := TX6) (N := 10) hx hb hts (fun _ h0_ => List.mem_cons_of_mem _ (List.mem_append_right _ (List.mem_append_left _ h0_))) hown hK hI i_h0.1 k_40 rfl 6 (by decide) (hts (.fieldLink RX6 58 "DeadlineShare$State" "time" "I") (List.mem_cons_of_mem _ (List.mem_append_left _ (List.mem_of_getElem? (i := 6) rfl)))) (fun _ h9 => h9) rfl dX6_tick_66 ?_
              refine lv_iload_n hx hb dX6_tick_69 rfl (lv_at hl 0 rfl) ?_
              refine lv_aload_n hx hb dX6_tick_70 rfl (lv_at hl 1 rfl) ?_
              refine va_calli (va_runV (As := []) (rest := [.int r_38, .int x_26, .ref (gr g h0 2)]) ⟨hx, hb, hml, hown, hts⟩ (c_X6_weightOfAll l dC dI g A hG f_36 h0 i_h0) (cwV 0 hts (gi_V (fun w_ h0_ => ⟨List.mem_cons_of_mem _ (List.mem_append_right _ (List.mem_append_right _ (List.mem_append_right _ (List.mem_append_left _ h0_)))), (tb_c_X6_weightOfAll w_ h0_).2⟩) (List.mem_cons_of_mem _ (List.mem_append_left _ (List.mem_of_getElem? (i := 7) rfl))) (List.mem_cons_of_mem _ (List.mem_append_left _ (List.mem_of_getElem? (i := 8) rfl))) (List.mem_cons_of_mem _ (List.mem_append_left _ (List.mem_of_getElem? (i := 9) rfl))) (List.mem_cons_of_mem _ (List.mem_append_left _ (List.mem_of_getElem? (i := 10) rfl)))) rfl rfl rfl (by decide +kernel) ⟨Nat.le_of_ble_eq_true rfl, Nat.le_of_ble_eq_true rfl⟩) ⟨fun a U g mk q => ⟨q.1, q.2.calling rfl rfl⟩, k_recv hK hI i_h0.1 k_40 (ci := 6) rfl, fun U hU hW => ⟨rfl, kIn.of hI hK hE hS hU hW⟩⟩ rfl rfl hl.1 rfl (lv_room (Nat.le_of_ble_eq_true rfl)) dX6_tick_71 ⟨Nat.le_of_ble_eq_true rfl, Nat.le_of_ble_eq_true rfl⟩) hS (fun q _ h => h) (fun q h => h) (fun r_45 u t H1 locs ht hvm w_44 hB hz1 hk1 hS => ?_)
              have hI : Iv dC dI g A f_36 t.heap := hB
              rw [ht] at hI
              generalize H1 = H at hI hS ⊢
              refine W.widen (k := 0) (n := 0) (Nat.le_of_ble_eq_true rfl) (Nat.le_of_ble_eq_true rfl) ?_
              refine lv_aload_n hx hb dX6_tick_74 rfl (lv_at hl 1 rfl) ?_
              refine va_calll (va_runV (As := []) (rest := [.int r_45, .int r_38, .int x_26, .ref (gr g h0 2)]) ⟨hx, hb, hml, hown, hts⟩ (c_X6_weightsAsBits l dC dI g A hG f_36 h0 i_h0) (cwV 0 hts (gi_V (fun w_ h0_ => ⟨List.mem_cons_of_mem _ (List.mem_append_right _ (List.mem_append_right _ (List.mem_append_right _ (List.mem_append_right _ (List.mem_append_left _ h0_))))), (tb_c_X6_weightsAsBits w_ h0_).2⟩) (List.mem_cons_of_mem _ (List.mem_append_left _ (List.mem_of_getElem? (i := 11) rfl))) (List.mem_cons_of_mem _ (List.mem_append_left _ (List.mem_of_getElem? (i := 12) rfl))) (List.mem_cons_of_mem _ (List.mem_append_left _ (List.mem_of_getElem? (i := 13) rfl))) (List.mem_cons_of_mem _ (List.mem_append_left _ (List.mem_of_getElem? (i := 10) rfl)))) rfl rfl rfl (by decide +kernel) ⟨Nat.le_of_ble_eq_true rfl, Nat.le_of_ble_eq_true rfl⟩) ⟨fun a U g mk q => ⟨q.1, q.2.calling rfl rfl⟩, k_recv hK hI i_h0.1 k_40 (ci := 6) rfl, fun U hU hW => ⟨rfl, kIn.of hI hK hE hS hU hW⟩⟩ rfl rfl hl.1 rfl (lv_room (Nat.le_of_ble_eq_true rfl)) dX6_tick_75 ⟨Nat.le_of_ble_eq_true rfl, Nat.le_of_ble_eq_true rfl⟩) hS (fun q _ h => h) (fun q h => h) (fun r_47 u t H1 locs ht hvm w_46 hB hz1 hk1 hS => ?_)
              have hI : Iv dC dI g A f_36 t.heap := hB
              rw [ht] at hI
              generalize H1 = H at hI hS ⊢
              refine W.widen (k := 0) (n := 0) (Nat.le_of_ble_eq_true rfl) (Nat.le_of_ble_eq_true rfl) ?_
              have k_48 := op_2 hI i_43
              refine va_callv (va_runV (As := [.int x_26, .int r_38, .int r_45, .long r_47]) (rest := []) ⟨hx, hb, hml, hown, hts⟩ (c_X2_put l dC dI g A hG f_36 (gr g h0 2) x_26 r_38 r_45 r_47 i_43) (cwV 4 hts (gi_V (fun w_ h0_ => ⟨List.mem_cons_of_mem _ (List.mem_append_right _ (List.mem_append_right _ (List.mem_append_right _ (List.mem_append_right _ (List.mem_append_right _ (List.mem_append_left _ h0_)))))), (tb_c_X2_put w_ h0_).2⟩) (List.mem_cons_of_mem _ (List.mem_append_left _ (List.mem_of_getElem? (i := 14) rfl))) (List.mem_cons_of_mem _ (List.mem_append_left _ (List.mem_of_getElem? (i := 15) rfl))) (List.mem_cons_of_mem _ (List.mem_append_left _ (List.mem_of_getElem? (i := 16) rfl))) (List.mem_cons_of_mem _ (List.mem_append_left _ (List.mem_of_getElem? (i := 17) rfl)))) rfl rfl rfl (by decide +kernel) ⟨Nat.le_of_ble_eq_true rfl, Nat.le_of_ble_eq_true rfl⟩) ⟨fun a U g mk q => ⟨q.1, q.2.calling rfl rfl⟩, k_recv hK hI i_43.1 k_48 (ci := 2) rfl, fun U hU hW => ⟨rfl, kIn.of hI hK hE hS hU hW⟩⟩ rfl rfl hl.1 rfl (lv_room (Nat.le_of_ble_eq_true rfl)) dX6_tick_78 ⟨Nat.le_of_ble_eq_true rfl, Nat.le_of_ble_eq_true rfl⟩) hS (fun q _ h => h) (fun q h => h) (fun u t H1 locs ht hvm _ hB hz1 hk1 hS => ?_)
              obtain ⟨f_49, hI, kc_51⟩ := hB
              rw [ht] at hI
              have k_52 : f_49 h0 = .inr (6, [.ref (gr g h0 0), .ref (gr g h0 1), .ref (gr g h0 2), .ref (gr g h0 3), .ref (gr g h0 4), .int x_25, .int x_26, .long x_27, .int x_28, .int x_29]) := Kp.at kc_51 i_h0 (by decide) k_40
              have k_53 : f_49 (gr g h0 2) = .inr (2, [.ref (gr g (gr g h0 2) 0)]) := Kp.at kc_51 i_43 (by decide) k_48
              have kp_54 := Kp.call kp_41 kc_51 (by decide)
              generalize H1 = H at hI hS ⊢
              refine W.widen (k := 0) (n := 0) (Nat.le_of_ble_eq_true rfl) (Nat.le_of_ble_eq_true rfl) ?_
              refine lv_aload_n hx hb dX6_tick_81 rfl (lv_at hl 1 rfl) ?_
              refine lv_iload_n hx hb dX6_tick_82 rfl (lv_at hl 0 rfl) ?_
              refine va_calli (va_runV (As := [.int r_38]) (rest := []) ⟨hx, hb, hml, hown, hts⟩ (c_X6_has l dC dI g A hG f_49 h0 r_38 i_h0) (cwV 1 hts (gi_V (fun w_ h0_ => ⟨List.mem_cons_of_mem _ (List.mem_append_right _ (List.mem_append_right _ (List.mem_append_right _ (List.mem_append_right _ (List.mem_append_right _ (List.mem_append_right _ (List.mem_append_left _ h0_))))))), (tb_c_X6_has w_ h0_).2⟩) (List.mem_cons_of_mem _ (List.mem_append_left _ (List.mem_of_getElem? (i := 18) rfl))) (List.mem_cons_of_mem _ (List.mem_append_left _ (List.mem_of_getElem? (i := 19) rfl))) (List.mem_cons_of_mem _ (List.mem_append_left _ (List.mem_of_getElem? (i := 20) rfl))) (List.mem_cons_of_mem _ (List.mem_append_left _ (List.mem_of_getElem? (i := 10) rfl)))) rfl rfl rfl (by decide +kernel) ⟨Nat.le_of_ble_eq_true rfl, Nat.le_of_ble_eq_true rfl⟩) ⟨fun a U g mk q => ⟨q.1, q.2.calling rfl rfl⟩, k_recv hK hI i_h0.1 k_52 (ci := 6) rfl, fun U hU hW => ⟨rfl, kIn.of hI hK hE hS hU hW⟩⟩ rfl rfl hl.1 rfl (lv_room (Nat.le_of_ble_eq_true rfl)) dX6_tick_83 ⟨Nat.le_of_ble_eq_true rfl, Nat.le_of_ble_eq_true rfl⟩) hS (fun q _ h => h) (fun q h => h) (fun r_56 u t H1 locs ht hvm w_55 hB hz1 hk1 hS => ?_)
              have hI : Iv dC dI g A f_49 t.heap := hB
              rw [ht] at hI
              generalize H1 = H at hI hS ⊢
              refine W.widen (k := 0) (n := 0) (Nat.le_of_ble_eq_true rfl) (Nat.le_of_ble_eq_true rfl) ?_
              have w_55 : r_56.toInt = 0 ∨ (0 ≤ r_38.toInt ∧ r_38.toInt < 12) := w_55
              refine lv_if_eq (tgt := 112) hx hb dX6_tick_86 (by decide) (fun c_57 => ?_) (fun c_57 => ?_)
              · have c_57 := kc_eq rfl (by decide : Int32.toInt 0 = 0) c_57
                refine lv_aload_n hx hb dX6_tick_112 rfl (lv_at hl 1 rfl) ?_
                refine lv_iconst (v := (-1)) hx hb dX6_tick_113 (by decide) ?_
                refine k_put (ci := 6) (v := .int (-1)) (ty := .int) (C := RX6) (T := TX6) (N := 10) hx hb hts (fun _ h0_ => List.mem_cons_of_mem _ (List.mem_append_right _ (List.mem_append_left _ h0_))) tyX6 tyX6_ok nmX6 hown hK hI hS i_h0.1 k_52 rfl 9 (by decide) (hts (.fieldLink RX6 38 "DeadlineShare$State" "holder" "I") (List.mem_cons_of_mem _ (List.mem_append_left _ (List.mem_of_getElem? (i := 21) rfl)))) (fun _ h9 => h9) rfl (by decide +kernel) rfl rfl (Nat.le_of_ble_eq_true rfl) rfl (cl_6 i_h0 (by omega)) dX6_tick_114 (fun f_58 H locs e_59 hI hS => ?_)
                have k_61 : f_58 h0 = .inr (6, [.ref (gr g h0 0), .ref (gr g h0 1), .ref (gr g h0 2), .ref (gr g h0 3), .ref (gr g h0 4), .int x_25, .int x_26, .long x_27, .int x_28, .int (-1)]) := by rw [e_59]; exact va_up_self _ _ _
                have k_62 : f_58 (gr g h0 2) = .inr (2, [.ref (gr g (gr g h0 2) 0)]) := by rw [e_59, va_up_ne _ _ (ik_ne i_43 i_h0 (by decide))]; exact k_53
                have kp_60 := Kp.put kp_54 i_h0 (by decide) e_59
                refine lv_aload_n hx hb dX6_tick_117 rfl (lv_at hl 1 rfl) ?_
                refine lv_dup hx hb dX6_tick_118 rfl ?_
                refine k_get (ci := 6) (v := .int x_26) (C := RX6) (T := TX6) (N := 10) hx hb hts (fun _ h0_ => List.mem_cons_of_mem _ (List.mem_append_right _ (List.mem_append_left _ h0_))) hown hK hI i_h0.1 k_61 rfl 6 (by decide) (hts (.fieldLink RX6 58 "DeadlineShare$State" "time" "I") (List.mem_cons_of_mem _ (List.mem_append_left _ (List.mem_of_getElem? (i := 6) rfl)))) (fun _ h9 => h9) rfl dX6_tick_119 ?_
                refine lv_iconst (v := 1) hx hb dX6_tick_122 (by decide) ?_
                refine lv_iadd hx hb dX6_tick_123 ?_
                refine lv_topi (fun v_63 ev_63 => ?_)
                have tv_63 := k_ad x_26 1
                rw [← ev_63, show Int32.toInt 1 = 1 from by decide] at tv_63
                refine k_put (ci := 6) (v := .int v_63) (ty := .int) (C := RX6) (T := TX6) (N := 10) hx hb hts (fun _ h0_ => List.mem_cons_of_mem _ (List.mem_append_right _ (List.mem_append_left _ h0_))) tyX6 tyX6_ok nmX6 hown hK hI hS i_h0.1 k_61 rfl 6 (by decide) (hts (.fieldLink RX6 58 "DeadlineShare$State" "time" "I") (List.mem_cons_of_mem _ (List.mem_append_left _ (List.mem_of_getElem? (i := 6) rfl)))) (fun _ h9 => h9) rfl (by decide +kernel) rfl rfl (Nat.le_of_ble_eq_true rfl) rfl (cl_6 i_h0 (by omega)) dX6_tick_124 (fun f_64 H locs e_65 hI hS => ?_)
                have k_67 : f_64 h0 = .inr (6, [.ref (gr g h0 0), .ref (gr g h0 1), .ref (gr g h0 2), .ref (gr g h0 3), .ref (gr g h0 4), .int x_25, .int v_63, .long x_27, .int x_28, .int (-1)]) := by rw [e_65]; exact va_up_self _ _ _
                have k_68 : f_64 (gr g h0 2) = .inr (2, [.ref (gr g (gr g h0 2) 0)]) := by rw [e_65, va_up_ne _ _ (ik_ne i_43 i_h0 (by decide))]; exact k_62
                have kp_66 := Kp.put kp_60 i_h0 (by decide) e_65
                refine lv_iload_n hx hb dX6_tick_127 rfl (lv_at hl 0 rfl) ?_
                exact W.iret (v := r_38) hx hb hr (fun t ht hW => ⟨⟨r_38, (), rfl, trivial, ⟨f_64, k_ret ht hI, kp_66⟩⟩, hS.F ht⟩) hS.2.2 dX6_tick_128
              · have c_57 := kn_eq rfl (by decide : Int32.toInt 0 = 0) c_57
                refine lv_aload_n hx hb dX6_tick_89 rfl (lv_at hl 1 rfl) ?_
                refine lv_aload_n hx hb dX6_tick_90 rfl (lv_at hl 1 rfl) ?_
                refine k_get (ci := 6) (v := .ref (gr g h0 1)) (C := RX6) (T := TX6) (N := 10) hx hb hts (fun _ h0_ => List.mem_cons_of_mem _ (List.mem_append_right _ (List.mem_append_left _ h0_))) hown hK hI i_h0.1 k_52 rfl 1 (by decide) (hts (.fieldLink RX6 11 "DeadlineShare$State" "tasks" "[LDeadlineShare$Task;") (List.mem_cons_of_mem _ (List.mem_append_left _ (List.mem_of_getElem? (i := 22) rfl)))) (fun _ h9 => h9) rfl dX6_tick_91 ?_
                have i_70 := kw_6_1 hG i_h0
                refine lv_iload_n hx hb dX6_tick_94 rfl (lv_at hl 0 rfl) ?_
                obtain ⟨q_72, k_71, b_73⟩ := op_20 hI i_70
                refine k_aald hx hb hK hI i_70.1 4 k_71 rfl (vp_in_iff.mpr (by omega)) b_73 (fun _ hj => kw_20 hG i_70 hj) dX6_tick_95 (fun a_74 i_75 => ?_)
                refine va_callv (va_runV (As := [.ref a_74]) (rest := []) ⟨hx, hb, hml, hown, hts⟩ (c_X6_serve l dC dI g A hG f_49 h0 a_74 i_h0 i_75) (cwV 1 hts (gi_V (fun w_ h0_ => ⟨List.mem_cons_of_mem _ (List.mem_append_right _ (List.mem_append_right _ (List.mem_append_right _ (List.mem_append_right _ (List.mem_append_right _ (List.mem_append_right _ (List.mem_append_right _ (List.mem_append_left _ h0_)))))))), (tb_c_X6_serve w_ h0_).2⟩) (List.mem_cons_of_mem _ (List.mem_append_left _ (List.mem_of_getElem? (i := 23) rfl))) (List.mem_cons_of_mem _ (List.mem_append_left _ (List.mem_of_getElem? (i := 24) rfl))) (List.mem_cons_of_mem _ (List.mem_append_left _ (List.mem_of_getElem? (i := 25) rfl))) (List.mem_cons_of_mem _ (List.mem_append_left _ (List.mem_of_getElem? (i := 10) rfl)))) rfl rfl rfl (by decide +kernel) ⟨Nat.le_of_ble_eq_true rfl, Nat.le_of_ble_eq_true rfl⟩) ⟨fun a U g mk q => ⟨q.1, q.2.calling rfl rfl⟩, k_recv hK hI i_h0.1 k_52 (ci := 6) rfl, fun U hU hW => ⟨rfl, kIn.of hI hK hE hS hU hW⟩⟩ rfl rfl hl.1 rfl (lv_room (Nat.le_of_ble_eq_true rfl)) dX6_tick_96 ⟨Nat.le_of_ble_eq_true rfl, Nat.le_of_ble_eq_true rfl⟩) hS (fun q _ h => h) (fun q h => h) (fun u t H1 locs ht hvm _ hB hz1 hk1 hS => ?_)
                obtain ⟨f_76, hI, kc_78⟩ := hB
                rw [ht] at hI
                have k_79 : f_76 (gr g h0 2) = .inr (2, [.ref (gr g (gr g h0 2) 0)]) := Kp.at kc_78 i_43 (by decide) k_53
                have k_80 : f_76 (gr g h0 1) = .inl (gc g 4, 12, .inr (.inr (.inr (.inr q_72)))) := Kp.at kc_78 i_70 (by decide) k_71
                have kp_81 := Kp.call kp_54 kc_78 (by decide)
                generalize H1 = H at hI hS ⊢
                refine W.widen (k := 0) (n := 0) (Nat.le_of_ble_eq_true rfl) (Nat.le_of_ble_eq_true rfl) ?_
                refine lv_aload_n hx hb dX6_tick_99 rfl (lv_at hl 1 rfl) ?_
                refine lv_aload_n hx hb dX6_tick_100 rfl (lv_at hl 1 rfl) ?_
                obtain ⟨x_83, x_84, x_85, x_86, x_87, k_82, b_88, b_89⟩ := op_6 hI i_h0
                refine k_get (ci := 6) (v := .ref (gr g h0 1)) (C := RX6) (T := TX6) (N := 10) hx hb hts (fun _ h0_ => List.mem_cons_of_mem _ (List.mem_append_right _ (List.mem_append_left _ h0_))) hown hK hI i_h0.1 k_82 rfl 1 (by decide) (hts (.fieldLink RX6 11 "DeadlineShare$State" "tasks" "[LDeadlineShare$Task;") (List.mem_cons_of_mem _ (List.mem_append_left _ (List.mem_of_getElem? (i := 22) rfl)))) (fun _ h9 => h9) rfl dX6_tick_101 ?_
                refine lv_iload_n hx hb dX6_tick_104 rfl (lv_at hl 0 rfl) ?_
                refine k_aald hx hb hK hI i_70.1 4 k_80 rfl (vp_in_iff.mpr (by omega)) b_73 (fun _ hj => kw_20 hG i_70 hj) dX6_tick_105 (fun a_92 i_93 => ?_)
                refine va_callv (va_runV (As := [.ref a_92]) (rest := []) ⟨hx, hb, hml, hown, hts⟩ (c_X6_goOnAfterRun l dC dI g A hG f_76 h0 a_92 i_h0 i_93) (cwV 1 hts (gi_V (fun w_ h0_ => ⟨List.mem_cons_of_mem _ (List.mem_append_right _ (List.mem_append_right _ (List.mem_append_right _ (List.mem_append_right _ (List.mem_append_right _ (List.mem_append_right _ (List.mem_append_right _ (List.mem_append_right _ (List.mem_append_left _ h0_))))))))), (tb_c_X6_goOnAfterRun w_ h0_).2⟩) (List.mem_cons_of_mem _ (List.mem_append_left _ (List.mem_of_getElem? (i := 26) rfl))) (List.mem_cons_of_mem _ (List.mem_append_left _ (List.mem_of_getElem? (i := 27) rfl))) (List.mem_cons_of_mem _ (List.mem_append_left _ (List.mem_of_getElem? (i := 28) rfl))) (List.mem_cons_of_mem _ (List.mem_append_left _ (List.mem_of_getElem? (i := 10) rfl)))) rfl rfl rfl (by decide +kernel) ⟨Nat.le_of_ble_eq_true rfl, Nat.le_of_ble_eq_true rfl⟩) ⟨fun a U g mk q => ⟨q.1, q.2.calling rfl rfl⟩, k_recv hK hI i_h0.1 k_82 (ci := 6) rfl, fun U hU hW => ⟨rfl, kIn.of hI hK hE hS hU hW⟩⟩ rfl rfl hl.1 rfl (lv_room (Nat.le_of_ble_eq_true rfl)) dX6_tick_106 ⟨Nat.le_of_ble_eq_true rfl, Nat.le_of_ble_eq_true rfl⟩) hS (fun q _ h => h) (fun q h => h) (fun u t H1 locs ht hvm _ hB hz1 hk1 hS => ?_)
                obtain ⟨f_94, hI, kc_96⟩ := hB
                rw [ht] at hI
                have k_97 : f_94 (gr g h0 2) = .inr (2, [.ref (gr g (gr g h0 2) 0)]) := Kp.at kc_96 i_43 (by decide) k_79
                have k_98 : f_94 (gr g h0 1) = .inl (gc g 4, 12, .inr (.inr (.inr (.inr q_72)))) := Kp.at kc_96 i_70 (by decide) k_80
                have kp_99 := Kp.call kp_81 kc_96 (by decide)
                generalize H1 = H at hI hS ⊢
                refine W.widen (k := 0) (n := 0) (Nat.le_of_ble_eq_true rfl) (Nat.le_of_ble_eq_true rfl) ?_
                refine lv_goto (tgt := 117) hx hb dX6_tick_109 (by decide) ?_
                refine lv_aload_n hx hb dX6_tick_117 rfl (lv_at hl 1 rfl) ?_
                refine lv_dup hx hb dX6_tick_118 rfl ?_
                obtain ⟨x_101, x_102, x_103, x_104, x_105, k_100, b_106, b_107⟩ := op_6 hI i_h0
                refine k_get (ci := 6) (v := .int x_102) (C := RX6) (T := TX6) (N := 10) hx hb hts (fun _ h0_ => List.mem_cons_of_mem _ (List.mem_append_right _ (List.mem_append_left _ h0_))) hown hK hI i_h0.1 k_100 rfl 6 (by decide) (hts (.fieldLink RX6 58 "DeadlineShare$State" "time" "I") (List.mem_cons_of_mem _ (List.mem_append_left _ (List.mem_of_getElem? (i := 6) rfl)))) (fun _ h9 => h9) rfl dX6_tick_119 ?_
                refine lv_iconst (v := 1) hx hb dX6_tick_122 (by decide) ?_
                refine lv_iadd hx hb dX6_tick_123 ?_
                refine lv_topi (fun v_108 ev_108 => ?_)
                have tv_108 := k_ad x_102 1
                rw [← ev_108, show Int32.toInt 1 = 1 from by decide] at tv_108
                refine k_put (ci := 6) (v := .int v_108) (ty := .int) (C := RX6) (T := TX6) (N := 10) hx hb hts (fun _ h0_ => List.mem_cons_of_mem _ (List.mem_append_right _ (List.mem_append_left _ h0_))) tyX6 tyX6_ok nmX6 hown hK hI hS i_h0.1 k_100 rfl 6 (by decide) (hts (.fieldLink RX6 58 "DeadlineShare$State" "time" "I") (List.mem_cons_of_mem _ (List.mem_append_left _ (List.mem_of_getElem? (i := 6) rfl)))) (fun _ h9 => h9) rfl (by decide +kernel) rfl rfl (Nat.le_of_ble_eq_true rfl) rfl (cl_6 i_h0 (by omega)) dX6_tick_124 (fun f_109 H locs e_110 hI hS => ?_)
                have k_112 : f_109 (gr g h0 2) = .inr (2, [.ref (gr g (gr g h0 2) 0)]) := by rw [e_110, va_up_ne _ _ (ik_ne i_43 i_h0 (by decide))]; exact k_97
                have k_113 : f_109 (gr g h0 1) = .inl (gc g 4, 12, .inr (.inr (.inr (.inr q_72)))) := by rw [e_110, va_up_ne _ _ (ik_ne i_70 i_h0 (by decide))]; exact k_98
                have k_114 : f_109 h0 = .inr (6, [.ref (gr g h0 0), .ref (gr g h0 1), .ref (gr g h0 2), .ref (gr g h0 3), .ref (gr g h0 4), .int x_101, .int v_108, .long x_103, .int x_104, .int x_105]) := by rw [e_110]; exact va_up_self _ _ _
                have kp_111 := Kp.put kp_99 i_h0 (by decide) e_110
                refine lv_iload_n hx hb dX6_tick_127 rfl (lv_at hl 0 rfl) ?_
                exact W.iret (v := r_38) hx hb hr (fun t ht hW => ⟨⟨r_38, (), rfl, trivial, ⟨f_109, k_ret ht hI, kp_111⟩⟩, hS.F ht⟩) hS.2.2 dX6_tick_128
            · have c_32 := kn_le rfl rfl c_32
              refine lv_aload_n hx hb dX6_tick_39 rfl (lv_at hl 1 rfl) ?_
              refine lv_aload_n hx hb dX6_tick_40 rfl (lv_at hl 1 rfl) ?_
              refine k_get (ci := 6) (v := .ref (gr g h0 1)) (C := RX6) (T := TX6) (N := 10) hx hb hts (fun _ h0_ => List.mem_cons_of_mem _ (List.mem_append_right _ (List.mem_append_left _ h0_))) hown hK hI i_h0.1 k_24 rfl 1 (by decide) (hts (.fieldLink RX6 11 "DeadlineShare$State" "tasks" "[LDeadlineShare$Task;") (List.mem_cons_of_mem _ (List.mem_append_left _ (List.mem_of_getElem? (i := 22) rfl)))) (fun _ h9 => h9) rfl dX6_tick_41 ?_
              have i_116 := kw_6_1 hG i_h0
              refine lv_iload_n hx hb dX6_tick_44 rfl (lv_at hl 0 rfl) ?_
              obtain ⟨q_118, k_117, b_119⟩ := op_20 hI i_116
              refine k_aald hx hb hK hI i_116.1 4 k_117 rfl (vp_in_iff.mpr (by omega)) b_119 (fun _ hj => kw_20 hG i_116 hj) dX6_tick_45 (fun a_120 i_121 => ?_)
              refine va_callv (va_runV (As := [.ref a_120]) (rest := []) ⟨hx, hb, hml, hown, hts⟩ (c_X6_wake l dC dI g A hG f_18 h0 a_120 i_h0 i_121) (cwV 1 hts (gi_V (fun w_ h0_ => ⟨List.mem_cons_of_mem _ (List.mem_append_right _ (List.mem_append_right _ (List.mem_append_right _ (List.mem_append_right _ (List.mem_append_right _ (List.mem_append_right _ (List.mem_append_right _ (List.mem_append_right _ (List.mem_append_right _ (List.mem_append_left _ h0_)))))))))), (tb_c_X6_wake w_ h0_).2⟩) (List.mem_cons_of_mem _ (List.mem_append_left _ (List.mem_of_getElem? (i := 29) rfl))) (List.mem_cons_of_mem _ (List.mem_append_left _ (List.mem_of_getElem? (i := 30) rfl))) (List.mem_cons_of_mem _ (List.mem_append_left _ (List.mem_of_getElem? (i := 31) rfl))) (List.mem_cons_of_mem _ (List.mem_append_left _ (List.mem_of_getElem? (i := 10) rfl)))) rfl rfl rfl (by decide +kernel) ⟨Nat.le_of_ble_eq_true rfl, Nat.le_of_ble_eq_true rfl⟩) ⟨fun a U g mk q => ⟨q.1, q.2.calling rfl rfl⟩, k_recv hK hI i_h0.1 k_24 (ci := 6) rfl, fun U hU hW => ⟨rfl, kIn.of hI hK hE hS hU hW⟩⟩ rfl rfl hl.1 rfl (lv_room (Nat.le_of_ble_eq_true rfl)) dX6_tick_46 ⟨Nat.le_of_ble_eq_true rfl, Nat.le_of_ble_eq_true rfl⟩) hS (fun q _ h => h) (fun q h => h) (fun u t H1 locs ht hvm _ hB hz1 hk1 hS => ?_)
              obtain ⟨f_122, hI, kc_124⟩ := hB
              rw [ht] at hI
              have k_125 : f_122 (gr g h0 1) = .inl (gc g 4, 12, .inr (.inr (.inr (.inr q_118)))) := Kp.at kc_124 i_116 (by decide) k_117
              have kp_126 := Kp.call kp_19 kc_124 (by decide)
              generalize H1 = H at hI hS ⊢
              refine W.widen (k := 0) (n := 0) (Nat.le_of_ble_eq_true rfl) (Nat.le_of_ble_eq_true rfl) ?_
              obtain ⟨v_127, ev_127⟩ : ∃ y : Int32, y = y_17 + Int32.ofInt 1 := ⟨_, rfl⟩
              refine lv_iinc (v := v_127) (lv' := [(2, .int v_127), (0, .ref h0), (1, .ref p1)]) hx hb dX6_tick_49 hl (k := 0) rfl ev_127.symm (by decide) rfl (fun ls hl => ?_)
              have tv_127 := k_inc y_17
              rw [← ev_127] at tv_127
              refine lv_goto (tgt := 31) hx hb dX6_tick_52 (by decide) ?_
              exact ih_31 v_127 f_122 _ _ _ (by omega) hI hS kp_126 (by first | omega | decide) (lv_sub hl [0, 1, 2] rfl)
        exact K_31 _ 0 f_2 _ _ _ (Nat.lt_succ_self _) hI hS kp_3 (by first | omega | decide | (simp only [show Int32.toInt 0 = 0 from by decide]; omega)) (lv_sub hl [0, 1, 2] rfl)
      · have c_16 := kn_le rfl rfl c_16
        refine lv_aload_n hx hb dX6_tick_10 rfl (lv_at hl 1 rfl) ?_
        refine k_get (ci := 6) (v := .ref (gr g h0 1)) (C := RX6) (T := TX6) (N := 10) hx hb hts (fun _ h0_ => List.mem_cons_of_mem _ (List.mem_append_right _ (List.mem_append_left _ h0_))) hown hK hI i_h0.1 k_8 rfl 1 (by decide) (hts (.fieldLink RX6 11 "DeadlineShare$State" "tasks" "[LDeadlineShare$Task;") (List.mem_cons_of_mem _ (List.mem_append_left _ (List.mem_of_getElem? (i := 22) rfl)))) (fun _ h9 => h9) rfl dX6_tick_11 ?_
        have i_129 := kw_6_1 hG i_h0
        refine lv_iload_n hx hb dX6_tick_14 rfl (lv_at hl 0 rfl) ?_
        obtain ⟨q_131, k_130, b_132⟩ := op_20 hI i_129
        refine k_aald hx hb hK hI i_129.1 4 k_130 rfl (vp_in_iff.mpr (by omega)) b_132 (fun _ hj => kw_20 hG i_129 hj) dX6_tick_15 (fun a_133 i_134 => ?_)
        refine lv_aload_n hx hb dX6_tick_16 rfl (lv_at hl 1 rfl) ?_
        refine k_get (ci := 6) (v := .int x_10) (C := RX6) (T := TX6) (N := 10) hx hb hts (fun _ h0_ => List.mem_cons_of_mem _ (List.mem_append_right _ (List.mem_append_left _ h0_))) hown hK hI i_h0.1 k_8 rfl 6 (by decide) (hts (.fieldLink RX6 58 "DeadlineShare$State" "time" "I") (List.mem_cons_of_mem _ (List.mem_append_left _ (List.mem_of_getElem? (i := 6) rfl)))) (fun _ h9 => h9) rfl dX6_tick_17 ?_
        obtain ⟨x_136, x_137, x_138, x_139, x_140, x_141, x_142, x_143, x_144, x_145, x_146, x_147, x_148, x_149, x_150, x_151, k_135⟩ := op_8 hI i_134
        refine va_callv (va_runV (As := [.int x_10]) (rest := []) ⟨hx, hb, hml, hown, hts⟩ (c_X8_refillAt l dC dI g A hG f_2 a_133 x_10 i_134) (cwV 1 hts (gi_V (fun w_ h0_ => ⟨List.mem_cons_of_mem _ (List.mem_append_right _ (List.mem_append_right _ (List.mem_append_right _ (List.mem_append_right _ (List.mem_append_right _ (List.mem_append_right _ (List.mem_append_right _ (List.mem_append_right _ (List.mem_append_right _ (List.mem_append_right _ (List.mem_append_left _ h0_))))))))))), (tb_c_X8_refillAt w_ h0_).2⟩) (List.mem_cons_of_mem _ (List.mem_append_left _ (List.mem_of_getElem? (i := 32) rfl))) (List.mem_cons_of_mem _ (List.mem_append_left _ (List.mem_of_getElem? (i := 33) rfl))) (List.mem_cons_of_mem _ (List.mem_append_left _ (List.mem_of_getElem? (i := 34) rfl))) (List.mem_cons_of_mem _ (List.mem_append_left _ (List.mem_of_getElem? (i := 35) rfl)))) rfl rfl rfl (by decide +kernel) ⟨Nat.le_of_ble_eq_true rfl, Nat.le_of_ble_eq_true rfl⟩) ⟨fun a U g mk q => ⟨q.1, q.2.calling rfl rfl⟩, k_recv hK hI i_134.1 k_135 (ci := 8) rfl, fun U hU hW => ⟨rfl, kIn.of hI hK hE hS hU hW⟩⟩ rfl rfl hl.1 rfl (lv_room (Nat.le_of_ble_eq_true rfl)) dX6_tick_20 ⟨Nat.le_of_ble_eq_true rfl, Nat.le_of_ble_eq_true rfl⟩) hS (fun q _ h => h) (fun q h => h) (fun u t H1 locs ht hvm _ hB hz1 hk1 hS => ?_)
        obtain ⟨f_152, hI, kc_154⟩ := hB
        rw [ht] at hI
        have k_155 : f_152 h0 = .inr (6, [.ref (gr g h0 0), .ref (gr g h0 1), .ref (gr g h0 2), .ref (gr g h0 3), .ref (gr g h0 4), .int x_9, .int x_10, .long x_11, .int x_12, .int x_13]) := Kp.at kc_154 i_h0 (by decide) k_8
        have k_156 : f_152 (gr g h0 1) = .inl (gc g 4, 12, .inr (.inr (.inr (.inr q_131)))) := Kp.at kc_154 i_129 (by decide) k_130
        have kp_157 := Kp.call kp_3 kc_154 (by decide)
        generalize H1 = H at hI hS ⊢
        refine W.widen (k := 0) (n := 0) (Nat.le_of_ble_eq_true rfl) (Nat.le_of_ble_eq_true rfl) ?_
        obtain ⟨v_158, ev_158⟩ : ∃ y : Int32, y = y_1 + Int32.ofInt 1 := ⟨_, rfl⟩
        refine lv_iinc (v := v_158) (lv' := [(2, .int v_158), (0, .ref h0), (1, .ref p1)]) hx hb dX6_tick_23 hl (k := 0) rfl ev_158.symm (by decide) rfl (fun ls hl => ?_)
        have tv_158 := k_inc y_1
        rw [← ev_158] at tv_158
        refine lv_goto (tgt := 2) hx hb dX6_tick_26 (by decide) ?_
        exact ih v_158 f_152 _ _ _ (by omega) hI hS kp_157 (by first | omega | decide) (lv_sub hl [0, 1, 2] rfl)
  exact K_2 _ 0 f _ _ _ (Nat.lt_succ_self _) hI hS hk0 (by first | omega | decide | (simp only [show Int32.toInt 0 = 0 from by decide]; omega)) (lv_sub hl [0, 1, 2] rfl)
theorem tw_491 : q_g (.methodLink RX6 284 yX5_copy) := ⟨(List.mem_append_right _ (List.mem_of_getElem? (i := 723) (by decide +kernel))), good_of_word (by decide +kernel)⟩
theorem tw_492 : q_g (.code yX6_startScript cX6_startScript 3 none) := ⟨(List.mem_append_right _ (List.mem_of_getElem? (i := 721) (by decide +kernel))), good_of_word (by decide +kernel)⟩
def ow_c_X6_startScript : List Cond := [.methodLink RX6 111 yX8_isOn, .instanceMethod yX8_isOn, .selects RX8 yX8_isOn yX8_isOn, .initialized RX8, .fieldLink RX6 128 "DeadlineShare$Task" "script" "LDeadlineShare$Script;", .methodLink RX6 284 yX5_copy, .instanceMethod yX5_copy, .selects RX5 yX5_copy yX5_copy, .initialized RX5, .fieldLink RX6 58 "DeadlineShare$State" "time" "I", .methodLink RX6 238 yX6_goOn, .instanceMethod yX6_goOn, .selects RX6 yX6_goOn yX6_goOn, .initialized RX6, .methodLink RX6 229 yX6_enter, .instanceMethod yX6_enter, .selects RX6 yX6_enter yX6_enter]
def wq_c_X6_startScript : List Cond := .code yX6_startScript cX6_startScript 3 none :: (ow_c_X6_startScript ++ (wq_c_X8_isOn ++ (u_ws RX8 TX8 18 ++ (wq_c_X5_copy ++ (u_ws RX6 TX6 10 ++ (wq_c_X6_goOn ++ (wq_c_X6_enter ++ ([] : List Cond))))))))
theorem tb_c_X6_startScript : ∀ w ∈ wq_c_X6_startScript, q_g w := by
  unfold wq_c_X6_startScript ow_c_X6_startScript
  exact q_cons tw_492 (q_app (q_cons tw_11 (q_cons tw_10 (q_cons tw_9 (q_cons tw_8 (q_cons tw_349 (q_cons tw_491 (q_cons tw_135 (q_cons tw_134 (q_cons tw_133 (q_cons tw_146 (q_cons tw_431 (q_cons tw_430 (q_cons tw_429 (q_cons tw_47 (q_cons tw_434 (q_cons tw_433 (q_cons tw_432 q_nil))))))))))))))))) (q_app tb_c_X8_isOn (q_app tu_X8 (q_app tb_c_X5_copy (q_app tu_X6 (q_app tb_c_X6_goOn (q_app tb_c_X6_enter q_nil)))))))
set_option maxHeartbeats 4000000 in
set_option maxRecDepth 100000 in
theorem c_X6_startScript (l : Launch) (dC : Nat → ClassId) (dI : Nat → Nat → Nat) (g : kG) (A : Nat → Prop) (hG : kWf g) (f : Nat → va_E) (h0 : Nat) (p1 : Nat) (p2 : Nat) (i_h0 : ik g 6 h0) (i_p1 : ik g 8 p1) (i_p2 : ik g 5 p2) : Met l yX6_startScript wq_c_X6_startScript ({ frames := 4, cells := 0, slots := 0, locals := 96 } : Room) (va_Pc [.ref h0, .ref p1, .ref p2] (fun U => kIn dC dI g A f U)) (va_Qv (fun (_ : Unit) => True) (fun (_ : Unit) t => ∃ f1 : Nat → va_E, Iv dC dI g A f1 t.heap ∧ Kp g [5, 6, 8, 10, 24] f f1) A) 0 0 A := by
  refine Met.ofW (cc := cX6_startScript) (maxL := 3) (ret := none) (by decide) rfl ?_
  intro p e s m args below meth c s₁ B hml hv
  obtain ⟨rfl, hI, hK, hE⟩ := hv
  have hx := B.exec
  have hb := B.bytes
  have hr := B.returns
  have hts := atoms_spec (ws := wq_c_X6_startScript) B.pre
  have hown : s.vm.findClass RX6 = some m.cls := findClass_of_methodNamed B.named
  have hlocks := B.notSynchronized
  have hS : va_S A s.heap s.heap [] := va_S.rf
  have hk0 : Kp g [5, 6, 8, 10, 24] f f := Kp.rf
  have hl := lv_entry ([.ref h0, .ref p1, .ref p2]) (n := 3) (Nat.le_of_ble_eq_true rfl)
  rw [lg_entry_eq]
  generalize (lg_sl ([.ref h0, .ref p1, .ref p2]) ++ List.replicate (3 - (lg_sl ([.ref h0, .ref p1, .ref p2])).length) Slot.unset).toArray = ls at hl ⊢
  have hl : lv_has ls 3 [(0, .ref h0), (1, .ref p1), (2, .ref p2)] := hl
  refine lv_aload_n hx hb dX6_startScript_0 rfl (lv_at hl 1 rfl) ?_
  obtain ⟨x_2, x_3, x_4, x_5, x_6, x_7, x_8, x_9, x_10, x_11, x_12, x_13, x_14, x_15, x_16, x_17, k_1⟩ := op_8 hI i_p1
  refine va_calli (va_runV (As := []) (rest := []) ⟨hx, hb, hml, hown, hts⟩ (c_X8_isOn l dC dI g A hG f p1 i_p1) (cwV 0 hts (gi_V (fun w_ h0_ => ⟨List.mem_cons_of_mem _ (List.mem_append_right _ (List.mem_append_left _ h0_)), (tb_c_X8_isOn w_ h0_).2⟩) (List.mem_cons_of_mem _ (List.mem_append_left _ (List.mem_of_getElem? (i := 0) rfl))) (List.mem_cons_of_mem _ (List.mem_append_left _ (List.mem_of_getElem? (i := 1) rfl))) (List.mem_cons_of_mem _ (List.mem_append_left _ (List.mem_of_getElem? (i := 2) rfl))) (List.mem_cons_of_mem _ (List.mem_append_left _ (List.mem_of_getElem? (i := 3) rfl)))) rfl rfl rfl (by decide +kernel) ⟨Nat.le_of_ble_eq_true rfl, Nat.le_of_ble_eq_true rfl⟩) ⟨fun a U g mk q => ⟨q.1, q.2.calling rfl rfl⟩, k_recv hK hI i_p1.1 k_1 (ci := 8) rfl, fun U hU hW => ⟨rfl, kIn.of hI hK hE hS hU hW⟩⟩ rfl rfl hl.1 rfl (lv_room (Nat.le_of_ble_eq_true rfl)) dX6_startScript_1 ⟨Nat.le_of_ble_eq_true rfl, Nat.le_of_ble_eq_true rfl⟩) hS (fun q _ h => h) (fun q h => h) (fun r_19 u t H1 locs ht hvm w_18 hB hz1 hk1 hS => ?_)
  have hI : Iv dC dI g A f t.heap := hB
  rw [ht] at hI
  generalize H1 = H at hI hS ⊢
  refine W.widen (k := 0) (n := 0) (Nat.le_of_ble_eq_true rfl) (Nat.le_of_ble_eq_true rfl) ?_
  have J_12 : ∀ (f_20 : Nat → va_E) (H : Heap) (locs : List Loc) (ls : Array Slot), Iv dC dI g A f_20 H → va_S A s.heap H locs → Kp g [5, 6, 8, 10, 24] f f_20 → lv_has ls 3 [(0, .ref h0), (1, .ref p1), (2, .ref p2)] → W p l e (headSpec wq_c_X6_startScript ({ frames := 4, cells := 0, slots := 0, locals := 96 } : Room)).room s m ([.ref h0, .ref p1, .ref p2].toArray) below meth c H locs 0 0 (MQ below (va_Qv (fun (_ : Unit) => True) (fun (_ : Unit) t => ∃ f1 : Nat → va_E, Iv dC dI g A f1 t.heap ∧ Kp g [5, 6, 8, 10, 24] f f1) A) ([.ref h0, .ref p1, .ref p2].toArray) s 0 0 A) (F0 m 12 ls []) := by
    intro f_20 H locs ls hI hS kp_21 hl
    refine lv_aload_n hx hb dX6_startScript_12 rfl (lv_at hl 1 rfl) ?_
    obtain ⟨x_23, x_24, x_25, x_26, x_27, x_28, x_29, x_30, x_31, x_32, x_33, x_34, x_35, x_36, x_37, x_38, k_22⟩ := op_8 hI i_p1
    refine k_get (ci := 8) (v := .ref (gr g p1 1)) (C := RX8) (T := TX8) (N := 18) hx hb hts (fun _ h0_ => List.mem_cons_of_mem _ (List.mem_append_right _ (List.mem_append_right _ (List.mem_append_left _ h0_)))) hown hK hI i_p1.1 k_22 rfl 1 (by decide) (hts (.fieldLink RX6 128 "DeadlineShare$Task" "script" "LDeadlineShare$Script;") (List.mem_cons_of_mem _ (List.mem_append_left _ (List.mem_of_getElem? (i := 4) rfl)))) (fun _ h9 => h9) rfl dX6_startScript_13 ?_
    have i_40 := kw_8_1 hG i_p1
    refine lv_aload_n hx hb dX6_startScript_16 rfl (lv_at hl 2 rfl) ?_
    obtain ⟨x_42, x_43, x_44, x_45, k_41, b_46, b_47⟩ := op_5 hI i_40
    refine va_callv (va_runV (As := [.ref p2]) (rest := []) ⟨hx, hb, hml, hown, hts⟩ (c_X5_copy l dC dI g A hG f_20 (gr g p1 1) p2 i_40 i_p2) (cwV 1 hts (gi_V (fun w_ h0_ => ⟨List.mem_cons_of_mem _ (List.mem_append_right _ (List.mem_append_right _ (List.mem_append_right _ (List.mem_append_left _ h0_)))), (tb_c_X5_copy w_ h0_).2⟩) (List.mem_cons_of_mem _ (List.mem_append_left _ (List.mem_of_getElem? (i := 5) rfl))) (List.mem_cons_of_mem _ (List.mem_append_left _ (List.mem_of_getElem? (i := 6) rfl))) (List.mem_cons_of_mem _ (List.mem_append_left _ (List.mem_of_getElem? (i := 7) rfl))) (List.mem_cons_of_mem _ (List.mem_append_left _ (List.mem_of_getElem? (i := 8) rfl)))) rfl rfl rfl (by decide +kernel) ⟨Nat.le_of_ble_eq_true rfl, Nat.le_of_ble_eq_true rfl⟩) ⟨fun a U g mk q => ⟨q.1, q.2.calling rfl rfl⟩, k_recv hK hI i_40.1 k_41 (ci := 5) rfl, fun U hU hW => ⟨rfl, kIn.of hI hK hE hS hU hW⟩⟩ rfl rfl hl.1 rfl (lv_room (Nat.le_of_ble_eq_true rfl)) dX6_startScript_17 ⟨Nat.le_of_ble_eq_true rfl, Nat.le_of_ble_eq_true rfl⟩) hS (fun q _ h => h) (fun q h => h) (fun u t H1 locs ht hvm _ hB hz1 hk1 hS => ?_)
    obtain ⟨f_48, hI, kc_50⟩ := hB
    rw [ht] at hI
    have k_51 : f_48 p1 = .inr (8, [.int x_23, .ref (gr g p1 1), .int x_24, .int x_25, .int x_26, .long x_27, .int x_28, .ref (gr g p1 7), .int x_29, .int x_30, .int x_31, .int x_32, .int x_33, .int x_34, .int x_35, .int x_36, .int x_37, .int x_38]) := Kp.at kc_50 i_p1 (by decide) k_22
    have kp_52 := Kp.call kp_21 kc_50 (by decide)
    generalize H1 = H at hI hS ⊢
    refine W.widen (k := 0) (n := 0) (Nat.le_of_ble_eq_true rfl) (Nat.le_of_ble_eq_true rfl) ?_
    refine lv_aload_n hx hb dX6_startScript_20 rfl (lv_at hl 0 rfl) ?_
    refine lv_aload_n hx hb dX6_startScript_21 rfl (lv_at hl 1 rfl) ?_
    refine lv_aload_n hx hb dX6_startScript_22 rfl (lv_at hl 0 rfl) ?_
    obtain ⟨x_54, x_55, x_56, x_57, x_58, k_53, b_59, b_60⟩ := op_6 hI i_h0
    refine k_get (ci := 6) (v := .int x_55) (C := RX6) (T := TX6) (N := 10) hx hb hts (fun _ h0_ => List.mem_cons_of_mem _ (List.mem_append_right _ (List.mem_append_right _ (List.mem_append_right _ (List.mem_append_right _ (List.mem_append_left _ h0_)))))) hown hK hI i_h0.1 k_53 rfl 6 (by decide) (hts (.fieldLink RX6 58 "DeadlineShare$State" "time" "I") (List.mem_cons_of_mem _ (List.mem_append_left _ (List.mem_of_getElem? (i := 9) rfl)))) (fun _ h9 => h9) rfl dX6_startScript_23 ?_
    refine va_callv (va_runV (As := [.ref p1, .int x_55]) (rest := []) ⟨hx, hb, hml, hown, hts⟩ (c_X6_goOn l dC dI g A hG f_48 h0 p1 x_55 i_h0 i_p1) (cwV 2 hts (gi_V (fun w_ h0_ => ⟨List.mem_cons_of_mem _ (List.mem_append_right _ (List.mem_append_right _ (List.mem_append_right _ (List.mem_append_right _ (List.mem_append_right _ (List.mem_append_left _ h0_)))))), (tb_c_X6_goOn w_ h0_).2⟩) (List.mem_cons_of_mem _ (List.mem_append_left _ (List.mem_of_getElem? (i := 10) rfl))) (List.mem_cons_of_mem _ (List.mem_append_left _ (List.mem_of_getElem? (i := 11) rfl))) (List.mem_cons_of_mem _ (List.mem_append_left _ (List.mem_of_getElem? (i := 12) rfl))) (List.mem_cons_of_mem _ (List.mem_append_left _ (List.mem_of_getElem? (i := 13) rfl)))) rfl rfl rfl (by decide +kernel) ⟨Nat.le_of_ble_eq_true rfl, Nat.le_of_ble_eq_true rfl⟩) ⟨fun a U g mk q => ⟨q.1, q.2.calling rfl rfl⟩, k_recv hK hI i_h0.1 k_53 (ci := 6) rfl, fun U hU hW => ⟨rfl, kIn.of hI hK hE hS hU hW⟩⟩ rfl rfl hl.1 rfl (lv_room (Nat.le_of_ble_eq_true rfl)) dX6_startScript_26 ⟨Nat.le_of_ble_eq_true rfl, Nat.le_of_ble_eq_true rfl⟩) hS (fun q _ h => h) (fun q h => h) (fun u t H1 locs ht hvm _ hB hz1 hk1 hS => ?_)
    obtain ⟨f_61, hI, kc_63⟩ := hB
    rw [ht] at hI
    have kp_64 := Kp.call kp_52 kc_63 (by decide)
    generalize H1 = H at hI hS ⊢
    refine W.widen (k := 0) (n := 0) (Nat.le_of_ble_eq_true rfl) (Nat.le_of_ble_eq_true rfl) ?_
    exact W.vret hx hb hr (fun t ht hW => ⟨⟨(), rfl, trivial, ⟨f_61, k_ret ht hI, kp_64⟩⟩, hS.F ht⟩) hS.2.2 dX6_startScript_29
  refine lv_if_ne (tgt := 12) hx hb dX6_startScript_4 (by decide) (fun c_65 => ?_) (fun c_65 => ?_)
  · have c_65 := kn_eq rfl (by decide : Int32.toInt 0 = 0) c_65
    exact J_12 f _ _ _ hI hS hk0 (lv_sub hl [0, 1, 2] rfl)
  · have c_65 := kc_eq rfl (by decide : Int32.toInt 0 = 0) c_65
    refine lv_aload_n hx hb dX6_startScript_7 rfl (lv_at hl 0 rfl) ?_
    refine lv_aload_n hx hb dX6_startScript_8 rfl (lv_at hl 1 rfl) ?_
    obtain ⟨x_67, x_68, x_69, x_70, x_71, k_66, b_72, b_73⟩ := op_6 hI i_h0
    refine va_callv (va_runV (As := [.ref p1]) (rest := []) ⟨hx, hb, hml, hown, hts⟩ (c_X6_enter l dC dI g A hG f h0 p1 i_h0 i_p1) (cwV 1 hts (gi_V (fun w_ h0_ => ⟨List.mem_cons_of_mem _ (List.mem_append_right _ (List.mem_append_right _ (List.mem_append_right _ (List.mem_append_right _ (List.mem_append_right _ (List.mem_append_right _ (List.mem_append_left _ h0_))))))), (tb_c_X6_enter w_ h0_).2⟩) (List.mem_cons_of_mem _ (List.mem_append_left _ (List.mem_of_getElem? (i := 14) rfl))) (List.mem_cons_of_mem _ (List.mem_append_left _ (List.mem_of_getElem? (i := 15) rfl))) (List.mem_cons_of_mem _ (List.mem_append_left _ (List.mem_of_getElem? (i := 16) rfl))) (List.mem_cons_of_mem _ (List.mem_append_left _ (List.mem_of_getElem? (i := 13) rfl)))) rfl rfl rfl (by decide +kernel) ⟨Nat.le_of_ble_eq_true rfl, Nat.le_of_ble_eq_true rfl⟩) ⟨fun a U g mk q => ⟨q.1, q.2.calling rfl rfl⟩, k_recv hK hI i_h0.1 k_66 (ci := 6) rfl, fun U hU hW => ⟨rfl, kIn.of hI hK hE hS hU hW⟩⟩ rfl rfl hl.1 rfl (lv_room (Nat.le_of_ble_eq_true rfl)) dX6_startScript_9 ⟨Nat.le_of_ble_eq_true rfl, Nat.le_of_ble_eq_true rfl⟩) hS (fun q _ h => h) (fun q h => h) (fun u t H1 locs ht hvm _ hB hz1 hk1 hS => ?_)
    obtain ⟨f_74, hI, kc_76⟩ := hB
    rw [ht] at hI
    have k_77 : f_74 h0 = .inr (6, [.ref (gr g h0 0), .ref (gr g h0 1), .ref (gr g h0 2), .ref (gr g h0 3), .ref (gr g h0 4), .int x_67, .int x_68, .long x_69, .int x_70, .int x_71]) := Kp.at kc_76 i_h0 (by decide) k_66
    have kp_78 := Kp.call hk0 kc_76 (by decide)
    generalize H1 = H at hI hS ⊢
    refine W.widen (k := 0) (n := 0) (Nat.le_of_ble_eq_true rfl) (Nat.le_of_ble_eq_true rfl) ?_
    exact J_12 f_74 _ _ _ hI hS kp_78 (lv_sub hl [0, 1, 2] rfl)
theorem tw_493 : q_g (.code yX6_firstInLog cX6_firstInLog 1 (some .int)) := ⟨(List.mem_append_right _ (List.mem_of_getElem? (i := 973) (by decide +kernel))), good_of_word (by decide +kernel)⟩
def ow_c_X6_firstInLog : List Cond := [.fieldLink RX6 58 "DeadlineShare$State" "time" "I", .methodLink RX6 174 Lib.Math.max.name, .static Lib.Math.max.name, .initialized "java/lang/Math", .code Lib.Math.max.name Lib.Math.max.code 2 (some .int)]
def wq_c_X6_firstInLog : List Cond := .code yX6_firstInLog cX6_firstInLog 1 (some .int) :: (ow_c_X6_firstInLog ++ (u_ws RX6 TX6 10 ++ ([] : List Cond)))
theorem tb_c_X6_firstInLog : ∀ w ∈ wq_c_X6_firstInLog, q_g w := by
  unfold wq_c_X6_firstInLog ow_c_X6_firstInLog
  exact q_cons tw_493 (q_app (q_cons tw_146 (q_cons tw_387 (q_cons tw_386 (q_cons tw_154 (q_cons tw_385 q_nil))))) (q_app tu_X6 q_nil))
set_option maxHeartbeats 4000000 in
set_option maxRecDepth 100000 in
theorem c_X6_firstInLog (l : Launch) (dC : Nat → ClassId) (dI : Nat → Nat → Nat) (g : kG) (A : Nat → Prop) (hG : kWf g) (f : Nat → va_E) (h0 : Nat) (i_h0 : ik g 6 h0) : Met l yX6_firstInLog wq_c_X6_firstInLog ({ frames := 1, cells := 0, slots := 0, locals := 15 } : Room) (va_Pc [.ref h0] (fun U => kIn dC dI g A f U)) (va_Qi (fun (r : Int32) (_ : Unit) => True) (fun (_ : Unit) t => Iv dC dI g A f t.heap) A) 0 0 A := by
  refine Met.ofW (cc := cX6_firstInLog) (maxL := 1) (ret := (some .int)) (by decide) rfl ?_
  intro p e s m args below meth c s₁ B hml hv
  obtain ⟨rfl, hI, hK, hE⟩ := hv
  have hx := B.exec
  have hb := B.bytes
  have hr := B.returns
  have hts := atoms_spec (ws := wq_c_X6_firstInLog) B.pre
  have hown : s.vm.findClass RX6 = some m.cls := findClass_of_methodNamed B.named
  have hlocks := B.notSynchronized
  have hS : va_S A s.heap s.heap [] := va_S.rf
  have hl := lv_entry ([.ref h0]) (n := 1) (Nat.le_of_ble_eq_true rfl)
  rw [lg_entry_eq]
  generalize (lg_sl ([.ref h0]) ++ List.replicate (1 - (lg_sl ([.ref h0])).length) Slot.unset).toArray = ls at hl ⊢
  have hl : lv_has ls 1 [(0, .ref h0)] := hl
  refine lv_iconst (v := 0) hx hb dX6_firstInLog_0 (by decide) ?_
  refine lv_aload_n hx hb dX6_firstInLog_1 rfl (lv_at hl 0 rfl) ?_
  obtain ⟨x_2, x_3, x_4, x_5, x_6, k_1, b_7, b_8⟩ := op_6 hI i_h0
  refine k_get (ci := 6) (v := .int x_3) (C := RX6) (T := TX6) (N := 10) hx hb hts (fun _ h0_ => List.mem_cons_of_mem _ (List.mem_append_right _ (List.mem_append_left _ h0_))) hown hK hI i_h0.1 k_1 rfl 6 (by decide) (hts (.fieldLink RX6 58 "DeadlineShare$State" "time" "I") (List.mem_cons_of_mem _ (List.mem_append_left _ (List.mem_of_getElem? (i := 0) rfl)))) (fun _ h9 => h9) rfl dX6_firstInLog_2 ?_
  refine lv_sipush (v := 128) hx hb dX6_firstInLog_5 (by decide) ?_
  refine lv_isub hx hb dX6_firstInLog_8 ?_
  refine lv_topi (fun v_9 ev_9 => ?_)
  have tv_9 := k_sb x_3 128
  rw [← ev_9, show Int32.toInt 128 = 128 from by decide] at tv_9
  refine va_mmax hx hb (by rw [hml]; exact hl.1.symm) hown (hts (.methodLink RX6 174 Lib.Math.max.name) (List.mem_cons_of_mem _ (List.mem_append_left _ (List.mem_of_getElem? (i := 1) rfl)))) (hts (.static Lib.Math.max.name) (List.mem_cons_of_mem _ (List.mem_append_left _ (List.mem_of_getElem? (i := 2) rfl)))) (hts (.initialized "java/lang/Math") (List.mem_cons_of_mem _ (List.mem_append_left _ (List.mem_of_getElem? (i := 3) rfl)))) (hts (.code Lib.Math.max.name Lib.Math.max.code 2 (some .int)) (List.mem_cons_of_mem _ (List.mem_append_left _ (List.mem_of_getElem? (i := 4) rfl)))) (Nat.le_of_ble_eq_true rfl) (Nat.le_of_ble_eq_true rfl) (Nat.le_of_ble_eq_true rfl) (Nat.le_of_ble_eq_true rfl) dX6_firstInLog_9 ?_
  refine lv_topi (fun v_10 ev_10 => ?_)
  exact W.iret (v := v_10) hx hb hr (fun t ht hW => ⟨⟨v_10, (), rfl, trivial, k_ret ht hI⟩, hS.F ht⟩) hS.2.2 dX6_firstInLog_12
theorem tw_494 : q_g (.selects RX6 yX6_firstInLog yX6_firstInLog) := ⟨(List.mem_append_right _ (List.mem_of_getElem? (i := 972) (by decide +kernel))), good_of_word (by decide +kernel)⟩
theorem tw_495 : q_g (.instanceMethod yX6_firstInLog) := ⟨(List.mem_append_right _ (List.mem_of_getElem? (i := 971) (by decide +kernel))), good_of_word (by decide +kernel)⟩
theorem tw_496 : q_g (.methodLink RX6 316 yX6_firstInLog) := ⟨(List.mem_append_right _ (List.mem_of_getElem? (i := 970) (by decide +kernel))), good_of_word (by decide +kernel)⟩
theorem tw_497 : q_g (.code yX6_logHolds cX6_logHolds 2 (some .boolean)) := ⟨(List.mem_append_right _ (List.mem_of_getElem? (i := 969) (by decide +kernel))), good_of_word (by decide +kernel)⟩
def ow_c_X6_logHolds : List Cond := [.methodLink RX6 316 yX6_firstInLog, .instanceMethod yX6_firstInLog, .selects RX6 yX6_firstInLog yX6_firstInLog, .initialized RX6, .fieldLink RX6 58 "DeadlineShare$State" "time" "I"]
def wq_c_X6_logHolds : List Cond := .code yX6_logHolds cX6_logHolds 2 (some .boolean) :: (ow_c_X6_logHolds ++ (wq_c_X6_firstInLog ++ (u_ws RX6 TX6 10 ++ ([] : List Cond))))
theorem tb_c_X6_logHolds : ∀ w ∈ wq_c_X6_logHolds, q_g w := by
  unfold wq_c_X6_logHolds ow_c_X6_logHolds
  exact q_cons tw_497 (q_app (q_cons tw_496 (q_cons tw_495 (q_cons tw_494 (q_cons tw_47 (q_cons tw_146 q_nil))))) (q_app tb_c_X6_firstInLog (q_app tu_X6 q_nil)))
set_option maxHeartbeats 4000000 in
set_option maxRecDepth 100000 in
theorem c_X6_logHolds (l : Launch) (dC : Nat → ClassId) (dI : Nat → Nat → Nat) (g : kG) (A : Nat → Prop) (hG : kWf g) (f : Nat → va_E) (h0 : Nat) (p1 : Int32) (i_h0 : ik g 6 h0) : Met l yX6_logHolds wq_c_X6_logHolds ({ frames := 2, cells := 0, slots := 0, locals := 35 } : Room) (va_Pc [.ref h0, .int p1] (fun U => kIn dC dI g A f U)) (va_Qi (fun (r : Int32) (_ : Unit) => True) (fun (_ : Unit) t => Iv dC dI g A f t.heap) A) 0 0 A := by
  refine Met.ofW (cc := cX6_logHolds) (maxL := 2) (ret := (some .boolean)) (by decide) rfl ?_
  intro p e s m args below meth c s₁ B hml hv
  obtain ⟨rfl, hI, hK, hE⟩ := hv
  have hx := B.exec
  have hb := B.bytes
  have hr := B.returns
  have hts := atoms_spec (ws := wq_c_X6_logHolds) B.pre
  have hown : s.vm.findClass RX6 = some m.cls := findClass_of_methodNamed B.named
  have hlocks := B.notSynchronized
  have hS : va_S A s.heap s.heap [] := va_S.rf
  have hl := lv_entry ([.ref h0, .int p1]) (n := 2) (Nat.le_of_ble_eq_true rfl)
  rw [lg_entry_eq]
  generalize (lg_sl ([.ref h0, .int p1]) ++ List.replicate (2 - (lg_sl ([.ref h0, .int p1])).length) Slot.unset).toArray = ls at hl ⊢
  have hl : lv_has ls 2 [(0, .ref h0), (1, .int p1)] := hl
  refine lv_iload_n hx hb dX6_logHolds_0 rfl (lv_at hl 1 rfl) ?_
  refine lv_aload_n hx hb dX6_logHolds_1 rfl (lv_at hl 0 rfl) ?_
  obtain ⟨x_2, x_3, x_4, x_5, x_6, k_1, b_7, b_8⟩ := op_6 hI i_h0
  refine va_calli (va_runV (As := []) (rest := [.int p1]) ⟨hx, hb, hml, hown, hts⟩ (c_X6_firstInLog l dC dI g A hG f h0 i_h0) (cwV 0 hts (gi_V (fun w_ h0_ => ⟨List.mem_cons_of_mem _ (List.mem_append_right _ (List.mem_append_left _ h0_)), (tb_c_X6_firstInLog w_ h0_).2⟩) (List.mem_cons_of_mem _ (List.mem_append_left _ (List.mem_of_getElem? (i := 0) rfl))) (List.mem_cons_of_mem _ (List.mem_append_left _ (List.mem_of_getElem? (i := 1) rfl))) (List.mem_cons_of_mem _ (List.mem_append_left _ (List.mem_of_getElem? (i := 2) rfl))) (List.mem_cons_of_mem _ (List.mem_append_left _ (List.mem_of_getElem? (i := 3) rfl)))) rfl rfl rfl (by decide +kernel) ⟨Nat.le_of_ble_eq_true rfl, Nat.le_of_ble_eq_true rfl⟩) ⟨fun a U g mk q => ⟨q.1, q.2.calling rfl rfl⟩, k_recv hK hI i_h0.1 k_1 (ci := 6) rfl, fun U hU hW => ⟨rfl, kIn.of hI hK hE hS hU hW⟩⟩ rfl rfl hl.1 rfl (lv_room (Nat.le_of_ble_eq_true rfl)) dX6_logHolds_2 ⟨Nat.le_of_ble_eq_true rfl, Nat.le_of_ble_eq_true rfl⟩) hS (fun q _ h => h) (fun q h => h) (fun r_10 u t H1 locs ht hvm w_9 hB hz1 hk1 hS => ?_)
  have hI : Iv dC dI g A f t.heap := hB
  rw [ht] at hI
  generalize H1 = H at hI hS ⊢
  refine W.widen (k := 0) (n := 0) (Nat.le_of_ble_eq_true rfl) (Nat.le_of_ble_eq_true rfl) ?_
  refine lv_icmp_lt (tgt := 20) hx hb dX6_logHolds_5 (by decide) (fun c_11 => ?_) (fun c_11 => ?_)
  · have c_11 := kc_lt rfl rfl c_11
    refine lv_iconst (v := 0) hx hb dX6_logHolds_20 (by decide) ?_
    exact W.zret (v := 0) hx hb hr rfl (fun t ht hW => ⟨⟨0, (), rfl, trivial, k_ret ht hI⟩, hS.F ht⟩) hS.2.2 dX6_logHolds_21
  · have c_11 := kn_lt rfl rfl c_11
    refine lv_iload_n hx hb dX6_logHolds_8 rfl (lv_at hl 1 rfl) ?_
    refine lv_aload_n hx hb dX6_logHolds_9 rfl (lv_at hl 0 rfl) ?_
    refine k_get (ci := 6) (v := .int x_3) (C := RX6) (T := TX6) (N := 10) hx hb hts (fun _ h0_ => List.mem_cons_of_mem _ (List.mem_append_right _ (List.mem_append_right _ (List.mem_append_left _ h0_)))) hown hK hI i_h0.1 k_1 rfl 6 (by decide) (hts (.fieldLink RX6 58 "DeadlineShare$State" "time" "I") (List.mem_cons_of_mem _ (List.mem_append_left _ (List.mem_of_getElem? (i := 4) rfl)))) (fun _ h9 => h9) rfl dX6_logHolds_10 ?_
    refine lv_icmp_ge (tgt := 20) hx hb dX6_logHolds_13 (by decide) (fun c_12 => ?_) (fun c_12 => ?_)
    · have c_12 := kc_le rfl rfl c_12
      refine lv_iconst (v := 0) hx hb dX6_logHolds_20 (by decide) ?_
      exact W.zret (v := 0) hx hb hr rfl (fun t ht hW => ⟨⟨0, (), rfl, trivial, k_ret ht hI⟩, hS.F ht⟩) hS.2.2 dX6_logHolds_21
    · have c_12 := kn_le rfl rfl c_12
      refine lv_iconst (v := 1) hx hb dX6_logHolds_16 (by decide) ?_
      refine lv_goto (tgt := 21) hx hb dX6_logHolds_17 (by decide) ?_
      exact W.zret (v := 1) hx hb hr rfl (fun t ht hW => ⟨⟨1, (), rfl, trivial, k_ret ht hI⟩, hS.F ht⟩) hS.2.2 dX6_logHolds_21
theorem tw_498 : q_g (.code yX6_isWindow cX6_isWindow 3 (some .boolean)) := ⟨(List.mem_append_right _ (List.mem_of_getElem? (i := 985) (by decide +kernel))), good_of_word (by decide +kernel)⟩
def ow_c_X6_isWindow : List Cond := [.methodLink RX6 316 yX6_firstInLog, .instanceMethod yX6_firstInLog, .selects RX6 yX6_firstInLog yX6_firstInLog, .initialized RX6, .fieldLink RX6 58 "DeadlineShare$State" "time" "I"]
def wq_c_X6_isWindow : List Cond := .code yX6_isWindow cX6_isWindow 3 (some .boolean) :: (ow_c_X6_isWindow ++ (wq_c_X6_firstInLog ++ (u_ws RX6 TX6 10 ++ ([] : List Cond))))
theorem tb_c_X6_isWindow : ∀ w ∈ wq_c_X6_isWindow, q_g w := by
  unfold wq_c_X6_isWindow ow_c_X6_isWindow
  exact q_cons tw_498 (q_app (q_cons tw_496 (q_cons tw_495 (q_cons tw_494 (q_cons tw_47 (q_cons tw_146 q_nil))))) (q_app tb_c_X6_firstInLog (q_app tu_X6 q_nil)))
set_option maxHeartbeats 4000000 in
set_option maxRecDepth 100000 in
theorem c_X6_isWindow (l : Launch) (dC : Nat → ClassId) (dI : Nat → Nat → Nat) (g : kG) (A : Nat → Prop) (hG : kWf g) (f : Nat → va_E) (h0 : Nat) (p1 : Int32) (p2 : Int32) (i_h0 : ik g 6 h0) : Met l yX6_isWindow wq_c_X6_isWindow ({ frames := 2, cells := 0, slots := 0, locals := 35 } : Room) (va_Pc [.ref h0, .int p1, .int p2] (fun U => kIn dC dI g A f U)) (va_Qi (fun (r : Int32) (_ : Unit) => True) (fun (_ : Unit) t => Iv dC dI g A f t.heap) A) 0 0 A := by
  refine Met.ofW (cc := cX6_isWindow) (maxL := 3) (ret := (some .boolean)) (by decide) rfl ?_
  intro p e s m args below meth c s₁ B hml hv
  obtain ⟨rfl, hI, hK, hE⟩ := hv
  have hx := B.exec
  have hb := B.bytes
  have hr := B.returns
  have hts := atoms_spec (ws := wq_c_X6_isWindow) B.pre
  have hown : s.vm.findClass RX6 = some m.cls := findClass_of_methodNamed B.named
  have hlocks := B.notSynchronized
  have hS : va_S A s.heap s.heap [] := va_S.rf
  have hl := lv_entry ([.ref h0, .int p1, .int p2]) (n := 3) (Nat.le_of_ble_eq_true rfl)
  rw [lg_entry_eq]
  generalize (lg_sl ([.ref h0, .int p1, .int p2]) ++ List.replicate (3 - (lg_sl ([.ref h0, .int p1, .int p2])).length) Slot.unset).toArray = ls at hl ⊢
  have hl : lv_has ls 3 [(0, .ref h0), (1, .int p1), (2, .int p2)] := hl
  refine lv_iload_n hx hb dX6_isWindow_0 rfl (lv_at hl 1 rfl) ?_
  refine lv_iload_n hx hb dX6_isWindow_1 rfl (lv_at hl 2 rfl) ?_
  refine lv_icmp_eq (tgt := 26) hx hb dX6_isWindow_2 (by decide) (fun c_1 => ?_) (fun c_1 => ?_)
  · have c_1 := kc_eq rfl rfl c_1
    refine lv_iconst (v := 1) hx hb dX6_isWindow_26 (by decide) ?_
    refine lv_goto (tgt := 31) hx hb dX6_isWindow_27 (by decide) ?_
    exact W.zret (v := 1) hx hb hr rfl (fun t ht hW => ⟨⟨1, (), rfl, trivial, k_ret ht hI⟩, hS.F ht⟩) hS.2.2 dX6_isWindow_31
  · have c_1 := kn_eq rfl rfl c_1
    refine lv_iload_n hx hb dX6_isWindow_5 rfl (lv_at hl 1 rfl) ?_
    refine lv_iload_n hx hb dX6_isWindow_6 rfl (lv_at hl 2 rfl) ?_
    refine lv_icmp_ge (tgt := 30) hx hb dX6_isWindow_7 (by decide) (fun c_2 => ?_) (fun c_2 => ?_)
    · have c_2 := kc_le rfl rfl c_2
      refine lv_iconst (v := 0) hx hb dX6_isWindow_30 (by decide) ?_
      exact W.zret (v := 0) hx hb hr rfl (fun t ht hW => ⟨⟨0, (), rfl, trivial, k_ret ht hI⟩, hS.F ht⟩) hS.2.2 dX6_isWindow_31
    · have c_2 := kn_le rfl rfl c_2
      refine lv_iload_n hx hb dX6_isWindow_10 rfl (lv_at hl 1 rfl) ?_
      refine lv_aload_n hx hb dX6_isWindow_11 rfl (lv_at hl 0 rfl) ?_
      obtain ⟨x_4, x_5, x_6, x_7, x_8, k_3, b_9, b_10⟩ := op_6 hI i_h0
      refine va_calli (va_runV (As := []) (rest := [.int p1]) ⟨hx, hb, hml, hown, hts⟩ (c_X6_firstInLog l dC dI g A hG f h0 i_h0) (cwV 0 hts (gi_V (fun w_ h0_ => ⟨List.mem_cons_of_mem _ (List.mem_append_right _ (List.mem_append_left _ h0_)), (tb_c_X6_firstInLog w_ h0_).2⟩) (List.mem_cons_of_mem _ (List.mem_append_left _ (List.mem_of_getElem? (i := 0) rfl))) (List.mem_cons_of_mem _ (List.mem_append_left _ (List.mem_of_getElem? (i := 1) rfl))) (List.mem_cons_of_mem _ (List.mem_append_left _ (List.mem_of_getElem? (i := 2) rfl))) (List.mem_cons_of_mem _ (List.mem_append_left _ (List.mem_of_getElem? (i := 3) rfl)))) rfl rfl rfl (by decide +kernel) ⟨Nat.le_of_ble_eq_true rfl, Nat.le_of_ble_eq_true rfl⟩) ⟨fun a U g mk q => ⟨q.1, q.2.calling rfl rfl⟩, k_recv hK hI i_h0.1 k_3 (ci := 6) rfl, fun U hU hW => ⟨rfl, kIn.of hI hK hE hS hU hW⟩⟩ rfl rfl hl.1 rfl (lv_room (Nat.le_of_ble_eq_true rfl)) dX6_isWindow_12 ⟨Nat.le_of_ble_eq_true rfl, Nat.le_of_ble_eq_true rfl⟩) hS (fun q _ h => h) (fun q h => h) (fun r_12 u t H1 locs ht hvm w_11 hB hz1 hk1 hS => ?_)
      have hI : Iv dC dI g A f t.heap := hB
      rw [ht] at hI
      generalize H1 = H at hI hS ⊢
      refine W.widen (k := 0) (n := 0) (Nat.le_of_ble_eq_true rfl) (Nat.le_of_ble_eq_true rfl) ?_
      refine lv_icmp_lt (tgt := 30) hx hb dX6_isWindow_15 (by decide) (fun c_13 => ?_) (fun c_13 => ?_)
      · have c_13 := kc_lt rfl rfl c_13
        refine lv_iconst (v := 0) hx hb dX6_isWindow_30 (by decide) ?_
        exact W.zret (v := 0) hx hb hr rfl (fun t ht hW => ⟨⟨0, (), rfl, trivial, k_ret ht hI⟩, hS.F ht⟩) hS.2.2 dX6_isWindow_31
      · have c_13 := kn_lt rfl rfl c_13
        refine lv_iload_n hx hb dX6_isWindow_18 rfl (lv_at hl 2 rfl) ?_
        refine lv_aload_n hx hb dX6_isWindow_19 rfl (lv_at hl 0 rfl) ?_
        refine k_get (ci := 6) (v := .int x_5) (C := RX6) (T := TX6) (N := 10) hx hb hts (fun _ h0_ => List.mem_cons_of_mem _ (List.mem_append_right _ (List.mem_append_right _ (List.mem_append_left _ h0_)))) hown hK hI i_h0.1 k_3 rfl 6 (by decide) (hts (.fieldLink RX6 58 "DeadlineShare$State" "time" "I") (List.mem_cons_of_mem _ (List.mem_append_left _ (List.mem_of_getElem? (i := 4) rfl)))) (fun _ h9 => h9) rfl dX6_isWindow_20 ?_
        refine lv_icmp_gt (tgt := 30) hx hb dX6_isWindow_23 (by decide) (fun c_14 => ?_) (fun c_14 => ?_)
        · have c_14 := kc_lt rfl rfl c_14
          refine lv_iconst (v := 0) hx hb dX6_isWindow_30 (by decide) ?_
          exact W.zret (v := 0) hx hb hr rfl (fun t ht hW => ⟨⟨0, (), rfl, trivial, k_ret ht hI⟩, hS.F ht⟩) hS.2.2 dX6_isWindow_31
        · have c_14 := kn_lt rfl rfl c_14
          refine lv_iconst (v := 1) hx hb dX6_isWindow_26 (by decide) ?_
          refine lv_goto (tgt := 31) hx hb dX6_isWindow_27 (by decide) ?_
          exact W.zret (v := 1) hx hb hr rfl (fun t ht hW => ⟨⟨1, (), rfl, trivial, k_ret ht hI⟩, hS.F ht⟩) hS.2.2 dX6_isWindow_31
theorem tw_499 : q_g (.code yX7_hasRoomForFive cX7_hasRoomForFive 1 (some .boolean)) := ⟨(List.mem_append_right _ (List.mem_of_getElem? (i := 392) (by decide +kernel))), good_of_word (by decide +kernel)⟩
def ow_c_X7_hasRoomForFive : List Cond := [.fieldLink RX7 15 "DeadlineShare$Tape" "length" "I"]
def wq_c_X7_hasRoomForFive : List Cond := .code yX7_hasRoomForFive cX7_hasRoomForFive 1 (some .boolean) :: (ow_c_X7_hasRoomForFive ++ (u_ws RX7 TX7 2 ++ ([] : List Cond)))
theorem tb_c_X7_hasRoomForFive : ∀ w ∈ wq_c_X7_hasRoomForFive, q_g w := by
  unfold wq_c_X7_hasRoomForFive ow_c_X7_hasRoomForFive
  exact q_cons tw_499 (q_app (q_cons tw_190 q_nil) (q_app tu_X7 q_nil))
set_option maxHeartbeats 4000000 in
set_option maxRecDepth 100000 in
theorem c_X7_hasRoomForFive (l : Launch) (dC : Nat → ClassId) (dI : Nat → Nat → Nat) (g : kG) (A : Nat → Prop) (hG : kWf g) (f : Nat → va_E) (h0 : Nat) (i_h0 : ik g 7 h0) : Met l yX7_hasRoomForFive wq_c_X7_hasRoomForFive ({ frames := 0, cells := 0, slots := 0, locals := 0 } : Room) (va_Pc [.ref h0] (fun U => kIn dC dI g A f U)) (va_Qi (fun (r : Int32) (_ : Unit) => True) (fun (_ : Unit) t => Iv dC dI g A f t.heap) A) 0 0 A := by
  refine Met.ofW (cc := cX7_hasRoomForFive) (maxL := 1) (ret := (some .boolean)) (by decide) rfl ?_
  intro p e s m args below meth c s₁ B hml hv
  obtain ⟨rfl, hI, hK, hE⟩ := hv
  have hx := B.exec
  have hb := B.bytes
  have hr := B.returns
  have hts := atoms_spec (ws := wq_c_X7_hasRoomForFive) B.pre
  have hown : s.vm.findClass RX7 = some m.cls := findClass_of_methodNamed B.named
  have hlocks := B.notSynchronized
  have hS : va_S A s.heap s.heap [] := va_S.rf
  have hl := lv_entry ([.ref h0]) (n := 1) (Nat.le_of_ble_eq_true rfl)
  rw [lg_entry_eq]
  generalize (lg_sl ([.ref h0]) ++ List.replicate (1 - (lg_sl ([.ref h0])).length) Slot.unset).toArray = ls at hl ⊢
  have hl : lv_has ls 1 [(0, .ref h0)] := hl
  refine lv_aload_n hx hb dX7_hasRoomForFive_0 rfl (lv_at hl 0 rfl) ?_
  obtain ⟨x_2, k_1⟩ := op_7 hI i_h0
  refine k_get (ci := 7) (v := .int x_2) (C := RX7) (T := TX7) (N := 2) hx hb hts (fun _ h0_ => List.mem_cons_of_mem _ (List.mem_append_right _ (List.mem_append_left _ h0_))) hown hK hI i_h0.1 k_1 rfl 1 (by decide) (hts (.fieldLink RX7 15 "DeadlineShare$Tape" "length" "I") (List.mem_cons_of_mem _ (List.mem_append_left _ (List.mem_of_getElem? (i := 0) rfl)))) (fun _ h9 => h9) rfl dX7_hasRoomForFive_1 ?_
  refine lv_bipush (v := 20) hx hb dX7_hasRoomForFive_4 (by decide) ?_
  refine lv_iadd hx hb dX7_hasRoomForFive_6 ?_
  refine lv_topi (fun v_3 ev_3 => ?_)
  have tv_3 := k_ad x_2 20
  rw [← ev_3, show Int32.toInt 20 = 20 from by decide] at tv_3
  refine lv_sipush (v := 200) hx hb dX7_hasRoomForFive_7 (by decide) ?_
  refine lv_icmp_gt (tgt := 17) hx hb dX7_hasRoomForFive_10 (by decide) (fun c_4 => ?_) (fun c_4 => ?_)
  · have c_4 := kc_lt (by decide : Int32.toInt 200 = 200) rfl c_4
    refine lv_iconst (v := 0) hx hb dX7_hasRoomForFive_17 (by decide) ?_
    exact W.zret (v := 0) hx hb hr rfl (fun t ht hW => ⟨⟨0, (), rfl, trivial, k_ret ht hI⟩, hS.F ht⟩) hS.2.2 dX7_hasRoomForFive_18
  · have c_4 := kn_lt (by decide : Int32.toInt 200 = 200) rfl c_4
    refine lv_iconst (v := 1) hx hb dX7_hasRoomForFive_13 (by decide) ?_
    refine lv_goto (tgt := 18) hx hb dX7_hasRoomForFive_14 (by decide) ?_
    exact W.zret (v := 1) hx hb hr rfl (fun t ht hW => ⟨⟨1, (), rfl, trivial, k_ret ht hI⟩, hS.F ht⟩) hS.2.2 dX7_hasRoomForFive_18
theorem tw_500 : q_g (.code yX7_addFour cX7_addFour 2 none) := ⟨(List.mem_append_right _ (List.mem_of_getElem? (i := 396) (by decide +kernel))), good_of_word (by decide +kernel)⟩
def ow_c_X7_addFour : List Cond := [.methodLink RX7 19 yX7_add, .instanceMethod yX7_add, .selects RX7 yX7_add yX7_add, .initialized RX7]
def wq_c_X7_addFour : List Cond := .code yX7_addFour cX7_addFour 2 none :: (ow_c_X7_addFour ++ (wq_c_X7_add ++ ([] : List Cond)))
theorem tb_c_X7_addFour : ∀ w ∈ wq_c_X7_addFour, q_g w := by
  unfold wq_c_X7_addFour ow_c_X7_addFour
  exact q_cons tw_500 (q_app (q_cons tw_297 (q_cons tw_296 (q_cons tw_295 (q_cons tw_192 q_nil)))) (q_app tb_c_X7_add q_nil))
set_option maxHeartbeats 4000000 in
set_option maxRecDepth 100000 in
theorem c_X7_addFour (l : Launch) (dC : Nat → ClassId) (dI : Nat → Nat → Nat) (g : kG) (A : Nat → Prop) (hG : kWf g) (f : Nat → va_E) (h0 : Nat) (p1 : Int32) (i_h0 : ik g 7 h0) : Met l yX7_addFour wq_c_X7_addFour ({ frames := 1, cells := 0, slots := 0, locals := 21 } : Room) (va_Pc [.ref h0, .int p1] (fun U => kIn dC dI g A f U)) (va_Qv (fun (_ : Unit) => True) (fun (_ : Unit) t => ∃ f1 : Nat → va_E, Iv dC dI g A f1 t.heap ∧ Kp g [7, 25] f f1) A) 0 0 A := by
  refine Met.ofW (cc := cX7_addFour) (maxL := 2) (ret := none) (by decide) rfl ?_
  intro p e s m args below meth c s₁ B hml hv
  obtain ⟨rfl, hI, hK, hE⟩ := hv
  have hx := B.exec
  have hb := B.bytes
  have hr := B.returns
  have hts := atoms_spec (ws := wq_c_X7_addFour) B.pre
  have hown : s.vm.findClass RX7 = some m.cls := findClass_of_methodNamed B.named
  have hlocks := B.notSynchronized
  have hS : va_S A s.heap s.heap [] := va_S.rf
  have hk0 : Kp g [7, 25] f f := Kp.rf
  have hl := lv_entry ([.ref h0, .int p1]) (n := 2) (Nat.le_of_ble_eq_true rfl)
  rw [lg_entry_eq]
  generalize (lg_sl ([.ref h0, .int p1]) ++ List.replicate (2 - (lg_sl ([.ref h0, .int p1])).length) Slot.unset).toArray = ls at hl ⊢
  have hl : lv_has ls 2 [(0, .ref h0), (1, .int p1)] := hl
  refine lv_aload_n hx hb dX7_addFour_0 rfl (lv_at hl 0 rfl) ?_
  refine lv_iload_n hx hb dX7_addFour_1 rfl (lv_at hl 1 rfl) ?_
  refine lv_bipush (v := 24) hx hb dX7_addFour_2 (by decide) ?_
  refine lv_iushr hx hb dX7_addFour_4 rfl ?_
  refine lv_topi (fun v_1 ev_1 => ?_)
  obtain ⟨x_3, k_2⟩ := op_7 hI i_h0
  refine va_callv (va_runV (As := [.int v_1]) (rest := []) ⟨hx, hb, hml, hown, hts⟩ (c_X7_add l dC dI g A hG f h0 v_1 i_h0) (cwV 1 hts (gi_V (fun w_ h0_ => ⟨List.mem_cons_of_mem _ (List.mem_append_right _ (List.mem_append_left _ h0_)), (tb_c_X7_add w_ h0_).2⟩) (List.mem_cons_of_mem _ (List.mem_append_left _ (List.mem_of_getElem? (i := 0) rfl))) (List.mem_cons_of_mem _ (List.mem_append_left _ (List.mem_of_getElem? (i := 1) rfl))) (List.mem_cons_of_mem _ (List.mem_append_left _ (List.mem_of_getElem? (i := 2) rfl))) (List.mem_cons_of_mem _ (List.mem_append_left _ (List.mem_of_getElem? (i := 3) rfl)))) rfl rfl rfl (by decide +kernel) ⟨Nat.le_of_ble_eq_true rfl, Nat.le_of_ble_eq_true rfl⟩) ⟨fun a U g mk q => ⟨q.1, q.2.calling rfl rfl⟩, k_recv hK hI i_h0.1 k_2 (ci := 7) rfl, fun U hU hW => ⟨rfl, kIn.of hI hK hE hS hU hW⟩⟩ rfl rfl hl.1 rfl (lv_room (Nat.le_of_ble_eq_true rfl)) dX7_addFour_5 ⟨Nat.le_of_ble_eq_true rfl, Nat.le_of_ble_eq_true rfl⟩) hS (fun q _ h => h) (fun q h => h) (fun u t H1 locs ht hvm _ hB hz1 hk1 hS => ?_)
  obtain ⟨f_4, hI, kc_6⟩ := hB
  rw [ht] at hI
  have kp_7 := Kp.call hk0 kc_6 (by decide)
  generalize H1 = H at hI hS ⊢
  refine W.widen (k := 0) (n := 0) (Nat.le_of_ble_eq_true rfl) (Nat.le_of_ble_eq_true rfl) ?_
  refine lv_aload_n hx hb dX7_addFour_8 rfl (lv_at hl 0 rfl) ?_
  refine lv_iload_n hx hb dX7_addFour_9 rfl (lv_at hl 1 rfl) ?_
  refine lv_bipush (v := 16) hx hb dX7_addFour_10 (by decide) ?_
  refine lv_iushr hx hb dX7_addFour_12 rfl ?_
  refine lv_topi (fun v_8 ev_8 => ?_)
  obtain ⟨x_10, k_9⟩ := op_7 hI i_h0
  refine va_callv (va_runV (As := [.int v_8]) (rest := []) ⟨hx, hb, hml, hown, hts⟩ (c_X7_add l dC dI g A hG f_4 h0 v_8 i_h0) (cwV 1 hts (gi_V (fun w_ h0_ => ⟨List.mem_cons_of_mem _ (List.mem_append_right _ (List.mem_append_left _ h0_)), (tb_c_X7_add w_ h0_).2⟩) (List.mem_cons_of_mem _ (List.mem_append_left _ (List.mem_of_getElem? (i := 0) rfl))) (List.mem_cons_of_mem _ (List.mem_append_left _ (List.mem_of_getElem? (i := 1) rfl))) (List.mem_cons_of_mem _ (List.mem_append_left _ (List.mem_of_getElem? (i := 2) rfl))) (List.mem_cons_of_mem _ (List.mem_append_left _ (List.mem_of_getElem? (i := 3) rfl)))) rfl rfl rfl (by decide +kernel) ⟨Nat.le_of_ble_eq_true rfl, Nat.le_of_ble_eq_true rfl⟩) ⟨fun a U g mk q => ⟨q.1, q.2.calling rfl rfl⟩, k_recv hK hI i_h0.1 k_9 (ci := 7) rfl, fun U hU hW => ⟨rfl, kIn.of hI hK hE hS hU hW⟩⟩ rfl rfl hl.1 rfl (lv_room (Nat.le_of_ble_eq_true rfl)) dX7_addFour_13 ⟨Nat.le_of_ble_eq_true rfl, Nat.le_of_ble_eq_true rfl⟩) hS (fun q _ h => h) (fun q h => h) (fun u t H1 locs ht hvm _ hB hz1 hk1 hS => ?_)
  obtain ⟨f_11, hI, kc_13⟩ := hB
  rw [ht] at hI
  have kp_14 := Kp.call kp_7 kc_13 (by decide)
  generalize H1 = H at hI hS ⊢
  refine W.widen (k := 0) (n := 0) (Nat.le_of_ble_eq_true rfl) (Nat.le_of_ble_eq_true rfl) ?_
  refine lv_aload_n hx hb dX7_addFour_16 rfl (lv_at hl 0 rfl) ?_
  refine lv_iload_n hx hb dX7_addFour_17 rfl (lv_at hl 1 rfl) ?_
  refine lv_bipush (v := 8) hx hb dX7_addFour_18 (by decide) ?_
  refine lv_iushr hx hb dX7_addFour_20 rfl ?_
  refine lv_topi (fun v_15 ev_15 => ?_)
  obtain ⟨x_17, k_16⟩ := op_7 hI i_h0
  refine va_callv (va_runV (As := [.int v_15]) (rest := []) ⟨hx, hb, hml, hown, hts⟩ (c_X7_add l dC dI g A hG f_11 h0 v_15 i_h0) (cwV 1 hts (gi_V (fun w_ h0_ => ⟨List.mem_cons_of_mem _ (List.mem_append_right _ (List.mem_append_left _ h0_)), (tb_c_X7_add w_ h0_).2⟩) (List.mem_cons_of_mem _ (List.mem_append_left _ (List.mem_of_getElem? (i := 0) rfl))) (List.mem_cons_of_mem _ (List.mem_append_left _ (List.mem_of_getElem? (i := 1) rfl))) (List.mem_cons_of_mem _ (List.mem_append_left _ (List.mem_of_getElem? (i := 2) rfl))) (List.mem_cons_of_mem _ (List.mem_append_left _ (List.mem_of_getElem? (i := 3) rfl)))) rfl rfl rfl (by decide +kernel) ⟨Nat.le_of_ble_eq_true rfl, Nat.le_of_ble_eq_true rfl⟩) ⟨fun a U g mk q => ⟨q.1, q.2.calling rfl rfl⟩, k_recv hK hI i_h0.1 k_16 (ci := 7) rfl, fun U hU hW => ⟨rfl, kIn.of hI hK hE hS hU hW⟩⟩ rfl rfl hl.1 rfl (lv_room (Nat.le_of_ble_eq_true rfl)) dX7_addFour_21 ⟨Nat.le_of_ble_eq_true rfl, Nat.le_of_ble_eq_true rfl⟩) hS (fun q _ h => h) (fun q h => h) (fun u t H1 locs ht hvm _ hB hz1 hk1 hS => ?_)
  obtain ⟨f_18, hI, kc_20⟩ := hB
  rw [ht] at hI
  have kp_21 := Kp.call kp_14 kc_20 (by decide)
  generalize H1 = H at hI hS ⊢
  refine W.widen (k := 0) (n := 0) (Nat.le_of_ble_eq_true rfl) (Nat.le_of_ble_eq_true rfl) ?_
  refine lv_aload_n hx hb dX7_addFour_24 rfl (lv_at hl 0 rfl) ?_
  refine lv_iload_n hx hb dX7_addFour_25 rfl (lv_at hl 1 rfl) ?_
  obtain ⟨x_23, k_22⟩ := op_7 hI i_h0
  refine va_callv (va_runV (As := [.int p1]) (rest := []) ⟨hx, hb, hml, hown, hts⟩ (c_X7_add l dC dI g A hG f_18 h0 p1 i_h0) (cwV 1 hts (gi_V (fun w_ h0_ => ⟨List.mem_cons_of_mem _ (List.mem_append_right _ (List.mem_append_left _ h0_)), (tb_c_X7_add w_ h0_).2⟩) (List.mem_cons_of_mem _ (List.mem_append_left _ (List.mem_of_getElem? (i := 0) rfl))) (List.mem_cons_of_mem _ (List.mem_append_left _ (List.mem_of_getElem? (i := 1) rfl))) (List.mem_cons_of_mem _ (List.mem_append_left _ (List.mem_of_getElem? (i := 2) rfl))) (List.mem_cons_of_mem _ (List.mem_append_left _ (List.mem_of_getElem? (i := 3) rfl)))) rfl rfl rfl (by decide +kernel) ⟨Nat.le_of_ble_eq_true rfl, Nat.le_of_ble_eq_true rfl⟩) ⟨fun a U g mk q => ⟨q.1, q.2.calling rfl rfl⟩, k_recv hK hI i_h0.1 k_22 (ci := 7) rfl, fun U hU hW => ⟨rfl, kIn.of hI hK hE hS hU hW⟩⟩ rfl rfl hl.1 rfl (lv_room (Nat.le_of_ble_eq_true rfl)) dX7_addFour_26 ⟨Nat.le_of_ble_eq_true rfl, Nat.le_of_ble_eq_true rfl⟩) hS (fun q _ h => h) (fun q h => h) (fun u t H1 locs ht hvm _ hB hz1 hk1 hS => ?_)
  obtain ⟨f_24, hI, kc_26⟩ := hB
  rw [ht] at hI
  have kp_27 := Kp.call kp_21 kc_26 (by decide)
  generalize H1 = H at hI hS ⊢
  refine W.widen (k := 0) (n := 0) (Nat.le_of_ble_eq_true rfl) (Nat.le_of_ble_eq_true rfl) ?_
  exact W.vret hx hb hr (fun t ht hW => ⟨⟨(), rfl, trivial, ⟨f_24, k_ret ht hI, kp_27⟩⟩, hS.F ht⟩) hS.2.2 dX7_addFour_29
theorem tw_501 : q_g (.fieldLink RX8 132 "DeadlineShare$Script" "toRun" "I") := ⟨(List.mem_append_right _ (List.mem_of_getElem? (i := 85) (by decide +kernel))), good_of_word (by decide +kernel)⟩
theorem tw_502 : q_g (.selects RX5 yX5_holdsByRun yX5_holdsByRun) := ⟨(List.mem_append_right _ (List.mem_of_getElem? (i := 907) (by decide +kernel))), good_of_word (by decide +kernel)⟩
theorem tw_503 : q_g (.instanceMethod yX5_holdsByRun) := ⟨(List.mem_append_right _ (List.mem_of_getElem? (i := 906) (by decide +kernel))), good_of_word (by decide +kernel)⟩
theorem tw_504 : q_g (.methodLink RX8 129 yX5_holdsByRun) := ⟨(List.mem_append_right _ (List.mem_of_getElem? (i := 905) (by decide +kernel))), good_of_word (by decide +kernel)⟩
theorem tw_505 : q_g (.fieldLink RX8 126 "DeadlineShare$Script" "at" "I") := ⟨(List.mem_append_right _ (List.mem_of_getElem? (i := 82) (by decide +kernel))), good_of_word (by decide +kernel)⟩
theorem tw_506 : q_g (.methodLink RX8 123 yX5_isThere) := ⟨(List.mem_append_right _ (List.mem_of_getElem? (i := 904) (by decide +kernel))), good_of_word (by decide +kernel)⟩
theorem tw_507 : q_g (.methodLink RX8 119 yX8_isOn) := ⟨(List.mem_append_right _ (List.mem_of_getElem? (i := 903) (by decide +kernel))), good_of_word (by decide +kernel)⟩
theorem tw_508 : q_g (.code yX8_tell cX8_tell 2 (some .int)) := ⟨(List.mem_append_right _ (List.mem_of_getElem? (i := 902) (by decide +kernel))), good_of_word (by decide +kernel)⟩
def ow_c_X8_tell : List Cond := [.fieldLink RX8 32 "DeadlineShare$Task" "weight" "I", .fieldLink RX8 35 "DeadlineShare$Task" "slice" "I", .fieldLink RX8 38 "DeadlineShare$Task" "state" "I", .methodLink RX8 119 yX8_isOn, .instanceMethod yX8_isOn, .selects RX8 yX8_isOn yX8_isOn, .initialized RX8, .fieldLink RX8 45 "DeadlineShare$Task" "left" "I", .fieldLink RX8 55 "DeadlineShare$Task" "served" "I", .fieldLink RX8 58 "DeadlineShare$Task" "requests" "I", .fieldLink RX8 61 "DeadlineShare$Task" "late" "I", .fieldLink RX8 64 "DeadlineShare$Task" "wait" "I", .fieldLink RX8 67 "DeadlineShare$Task" "longest" "I", .fieldLink RX8 70 "DeadlineShare$Task" "napTill" "I", .fieldLink RX8 12 "DeadlineShare$Task" "script" "LDeadlineShare$Script;", .methodLink RX8 123 yX5_isThere, .instanceMethod yX5_isThere, .selects RX5 yX5_isThere yX5_isThere, .initialized RX5, .fieldLink RX8 126 "DeadlineShare$Script" "at" "I", .methodLink RX8 129 yX5_holdsByRun, .instanceMethod yX5_holdsByRun, .selects RX5 yX5_holdsByRun yX5_holdsByRun, .fieldLink RX8 132 "DeadlineShare$Script" "toRun" "I", .fieldLink RX8 84 "DeadlineShare$Task" "budget" "I", .fieldLink RX8 87 "DeadlineShare$Task" "quota" "I", .fieldLink RX8 90 "DeadlineShare$Task" "period" "I"]
def wq_c_X8_tell : List Cond := .code yX8_tell cX8_tell 2 (some .int) :: (ow_c_X8_tell ++ (u_ws RX8 TX8 18 ++ (wq_c_X8_isOn ++ (wq_c_X5_isThere ++ (u_ws RX5 TX5 5 ++ (wq_c_X5_holdsByRun ++ ([] : List Cond)))))))
theorem tb_c_X8_tell : ∀ w ∈ wq_c_X8_tell, q_g w := by
  unfold wq_c_X8_tell ow_c_X8_tell
  exact q_cons tw_508 (q_app (q_cons tw_57 (q_cons tw_132 (q_cons tw_5 (q_cons tw_507 (q_cons tw_10 (q_cons tw_9 (q_cons tw_8 (q_cons tw_58 (q_cons tw_126 (q_cons tw_125 (q_cons tw_124 (q_cons tw_123 (q_cons tw_122 (q_cons tw_121 (q_cons tw_137 (q_cons tw_506 (q_cons tw_347 (q_cons tw_346 (q_cons tw_133 (q_cons tw_505 (q_cons tw_504 (q_cons tw_503 (q_cons tw_502 (q_cons tw_501 (q_cons tw_120 (q_cons tw_119 (q_cons tw_118 q_nil))))))))))))))))))))))))))) (q_app tu_X8 (q_app tb_c_X8_isOn (q_app tb_c_X5_isThere (q_app tu_X5 (q_app tb_c_X5_holdsByRun q_nil))))))
set_option maxHeartbeats 4000000 in
set_option maxRecDepth 100000 in
theorem c_X8_tell (l : Launch) (dC : Nat → ClassId) (dI : Nat → Nat → Nat) (g : kG) (A : Nat → Prop) (hG : kWf g) (f : Nat → va_E) (h0 : Nat) (p1 : Int32) (i_h0 : ik g 8 h0) : Met l yX8_tell wq_c_X8_tell ({ frames := 2, cells := 0, slots := 0, locals := 41 } : Room) (va_Pc [.ref h0, .int p1] (fun U => kIn dC dI g A f U)) (va_Qi (fun (r : Int32) (_ : Unit) => True) (fun (_ : Unit) t => Iv dC dI g A f t.heap) A) 0 0 A := by
  refine Met.ofW (cc := cX8_tell) (maxL := 2) (ret := (some .int)) (by decide) rfl ?_
  intro p e s m args below meth c s₁ B hml hv
  obtain ⟨rfl, hI, hK, hE⟩ := hv
  have hx := B.exec
  have hb := B.bytes
  have hr := B.returns
  have hts := atoms_spec (ws := wq_c_X8_tell) B.pre
  have hown : s.vm.findClass RX8 = some m.cls := findClass_of_methodNamed B.named
  have hlocks := B.notSynchronized
  have hS : va_S A s.heap s.heap [] := va_S.rf
  have hl := lv_entry ([.ref h0, .int p1]) (n := 2) (Nat.le_of_ble_eq_true rfl)
  rw [lg_entry_eq]
  generalize (lg_sl ([.ref h0, .int p1]) ++ List.replicate (2 - (lg_sl ([.ref h0, .int p1])).length) Slot.unset).toArray = ls at hl ⊢
  have hl : lv_has ls 2 [(0, .ref h0), (1, .int p1)] := hl
  refine lv_iload_n hx hb dX8_tell_0 rfl (lv_at hl 1 rfl) ?_
  by_cases h_1 : p1 = 0
  · refine k_topi (y := 0) h_1 ?_
    refine lv_tableIn (tgt := 76) hx hb dX8_tell_1 (by decide) (by decide) rfl (by decide) ?_
    have h_1 := kc_eq rfl (by decide : Int32.toInt 0 = 0) h_1
    refine lv_aload_n hx hb dX8_tell_76 rfl (lv_at hl 0 rfl) ?_
    obtain ⟨x_3, x_4, x_5, x_6, x_7, x_8, x_9, x_10, x_11, x_12, x_13, x_14, x_15, x_16, x_17, x_18, k_2⟩ := op_8 hI i_h0
    refine k_get (ci := 8) (v := .int x_4) (C := RX8) (T := TX8) (N := 18) hx hb hts (fun _ h0_ => List.mem_cons_of_mem _ (List.mem_append_right _ (List.mem_append_left _ h0_))) hown hK hI i_h0.1 k_2 rfl 2 (by decide) (hts (.fieldLink RX8 32 "DeadlineShare$Task" "weight" "I") (List.mem_cons_of_mem _ (List.mem_append_left _ (List.mem_of_getElem? (i := 0) rfl)))) (fun _ h9 => h9) rfl dX8_tell_77 ?_
    exact W.iret (v := x_4) hx hb hr (fun t ht hW => ⟨⟨x_4, (), rfl, trivial, k_ret ht hI⟩, hS.F ht⟩) hS.2.2 dX8_tell_80
  by_cases h_19 : p1 = 1
  · refine k_topi (y := 1) h_19 ?_
    refine lv_tableIn (tgt := 81) hx hb dX8_tell_1 (by decide) (by decide) rfl (by decide) ?_
    have h_19 := kc_eq rfl (by decide : Int32.toInt 1 = 1) h_19
    refine lv_aload_n hx hb dX8_tell_81 rfl (lv_at hl 0 rfl) ?_
    obtain ⟨x_21, x_22, x_23, x_24, x_25, x_26, x_27, x_28, x_29, x_30, x_31, x_32, x_33, x_34, x_35, x_36, k_20⟩ := op_8 hI i_h0
    refine k_get (ci := 8) (v := .int x_23) (C := RX8) (T := TX8) (N := 18) hx hb hts (fun _ h0_ => List.mem_cons_of_mem _ (List.mem_append_right _ (List.mem_append_left _ h0_))) hown hK hI i_h0.1 k_20 rfl 3 (by decide) (hts (.fieldLink RX8 35 "DeadlineShare$Task" "slice" "I") (List.mem_cons_of_mem _ (List.mem_append_left _ (List.mem_of_getElem? (i := 1) rfl)))) (fun _ h9 => h9) rfl dX8_tell_82 ?_
    exact W.iret (v := x_23) hx hb hr (fun t ht hW => ⟨⟨x_23, (), rfl, trivial, k_ret ht hI⟩, hS.F ht⟩) hS.2.2 dX8_tell_85
  by_cases h_37 : p1 = 2
  · refine k_topi (y := 2) h_37 ?_
    refine lv_tableIn (tgt := 86) hx hb dX8_tell_1 (by decide) (by decide) rfl (by decide) ?_
    have h_37 := kc_eq rfl (by decide : Int32.toInt 2 = 2) h_37
    refine lv_aload_n hx hb dX8_tell_86 rfl (lv_at hl 0 rfl) ?_
    obtain ⟨x_39, x_40, x_41, x_42, x_43, x_44, x_45, x_46, x_47, x_48, x_49, x_50, x_51, x_52, x_53, x_54, k_38⟩ := op_8 hI i_h0
    refine k_get (ci := 8) (v := .int x_42) (C := RX8) (T := TX8) (N := 18) hx hb hts (fun _ h0_ => List.mem_cons_of_mem _ (List.mem_append_right _ (List.mem_append_left _ h0_))) hown hK hI i_h0.1 k_38 rfl 4 (by decide) (hts (.fieldLink RX8 38 "DeadlineShare$Task" "state" "I") (List.mem_cons_of_mem _ (List.mem_append_left _ (List.mem_of_getElem? (i := 2) rfl)))) (fun _ h9 => h9) rfl dX8_tell_87 ?_
    exact W.iret (v := x_42) hx hb hr (fun t ht hW => ⟨⟨x_42, (), rfl, trivial, k_ret ht hI⟩, hS.F ht⟩) hS.2.2 dX8_tell_90
  by_cases h_55 : p1 = 3
  · refine k_topi (y := 3) h_55 ?_
    refine lv_tableIn (tgt := 91) hx hb dX8_tell_1 (by decide) (by decide) rfl (by decide) ?_
    have h_55 := kc_eq rfl (by decide : Int32.toInt 3 = 3) h_55
    refine lv_aload_n hx hb dX8_tell_91 rfl (lv_at hl 0 rfl) ?_
    obtain ⟨x_57, x_58, x_59, x_60, x_61, x_62, x_63, x_64, x_65, x_66, x_67, x_68, x_69, x_70, x_71, x_72, k_56⟩ := op_8 hI i_h0
    refine va_calli (va_runV (As := []) (rest := []) ⟨hx, hb, hml, hown, hts⟩ (c_X8_isOn l dC dI g A hG f h0 i_h0) (cwV 0 hts (gi_V (fun w_ h0_ => ⟨List.mem_cons_of_mem _ (List.mem_append_right _ (List.mem_append_right _ (List.mem_append_left _ h0_))), (tb_c_X8_isOn w_ h0_).2⟩) (List.mem_cons_of_mem _ (List.mem_append_left _ (List.mem_of_getElem? (i := 3) rfl))) (List.mem_cons_of_mem _ (List.mem_append_left _ (List.mem_of_getElem? (i := 4) rfl))) (List.mem_cons_of_mem _ (List.mem_append_left _ (List.mem_of_getElem? (i := 5) rfl))) (List.mem_cons_of_mem _ (List.mem_append_left _ (List.mem_of_getElem? (i := 6) rfl)))) rfl rfl rfl (by decide +kernel) ⟨Nat.le_of_ble_eq_true rfl, Nat.le_of_ble_eq_true rfl⟩) ⟨fun a U g mk q => ⟨q.1, q.2.calling rfl rfl⟩, k_recv hK hI i_h0.1 k_56 (ci := 8) rfl, fun U hU hW => ⟨rfl, kIn.of hI hK hE hS hU hW⟩⟩ rfl rfl hl.1 rfl (lv_room (Nat.le_of_ble_eq_true rfl)) dX8_tell_92 ⟨Nat.le_of_ble_eq_true rfl, Nat.le_of_ble_eq_true rfl⟩) hS (fun q _ h => h) (fun q h => h) (fun r_74 u t H1 locs ht hvm w_73 hB hz1 hk1 hS => ?_)
    have hI : Iv dC dI g A f t.heap := hB
    rw [ht] at hI
    generalize H1 = H at hI hS ⊢
    refine W.widen (k := 0) (n := 0) (Nat.le_of_ble_eq_true rfl) (Nat.le_of_ble_eq_true rfl) ?_
    refine lv_if_eq (tgt := 105) hx hb dX8_tell_95 (by decide) (fun c_75 => ?_) (fun c_75 => ?_)
    · have c_75 := kc_eq rfl (by decide : Int32.toInt 0 = 0) c_75
      refine lv_iconst (v := (-1)) hx hb dX8_tell_105 (by decide) ?_
      exact W.iret (v := (-1)) hx hb hr (fun t ht hW => ⟨⟨(-1), (), rfl, trivial, k_ret ht hI⟩, hS.F ht⟩) hS.2.2 dX8_tell_106
    · have c_75 := kn_eq rfl (by decide : Int32.toInt 0 = 0) c_75
      refine lv_aload_n hx hb dX8_tell_98 rfl (lv_at hl 0 rfl) ?_
      refine k_get (ci := 8) (v := .int x_62) (C := RX8) (T := TX8) (N := 18) hx hb hts (fun _ h0_ => List.mem_cons_of_mem _ (List.mem_append_right _ (List.mem_append_left _ h0_))) hown hK hI i_h0.1 k_56 rfl 6 (by decide) (hts (.fieldLink RX8 45 "DeadlineShare$Task" "left" "I") (List.mem_cons_of_mem _ (List.mem_append_left _ (List.mem_of_getElem? (i := 7) rfl)))) (fun _ h9 => h9) rfl dX8_tell_99 ?_
      refine lv_goto (tgt := 106) hx hb dX8_tell_102 (by decide) ?_
      exact W.iret (v := x_62) hx hb hr (fun t ht hW => ⟨⟨x_62, (), rfl, trivial, k_ret ht hI⟩, hS.F ht⟩) hS.2.2 dX8_tell_106
  by_cases h_76 : p1 = 4
  · refine k_topi (y := 4) h_76 ?_
    refine lv_tableIn (tgt := 107) hx hb dX8_tell_1 (by decide) (by decide) rfl (by decide) ?_
    have h_76 := kc_eq rfl (by decide : Int32.toInt 4 = 4) h_76
    refine lv_aload_n hx hb dX8_tell_107 rfl (lv_at hl 0 rfl) ?_
    obtain ⟨x_78, x_79, x_80, x_81, x_82, x_83, x_84, x_85, x_86, x_87, x_88, x_89, x_90, x_91, x_92, x_93, k_77⟩ := op_8 hI i_h0
    refine k_get (ci := 8) (v := .int x_85) (C := RX8) (T := TX8) (N := 18) hx hb hts (fun _ h0_ => List.mem_cons_of_mem _ (List.mem_append_right _ (List.mem_append_left _ h0_))) hown hK hI i_h0.1 k_77 rfl 9 (by decide) (hts (.fieldLink RX8 55 "DeadlineShare$Task" "served" "I") (List.mem_cons_of_mem _ (List.mem_append_left _ (List.mem_of_getElem? (i := 8) rfl)))) (fun _ h9 => h9) rfl dX8_tell_108 ?_
    exact W.iret (v := x_85) hx hb hr (fun t ht hW => ⟨⟨x_85, (), rfl, trivial, k_ret ht hI⟩, hS.F ht⟩) hS.2.2 dX8_tell_111
  by_cases h_94 : p1 = 5
  · refine k_topi (y := 5) h_94 ?_
    refine lv_tableIn (tgt := 112) hx hb dX8_tell_1 (by decide) (by decide) rfl (by decide) ?_
    have h_94 := kc_eq rfl (by decide : Int32.toInt 5 = 5) h_94
    refine lv_aload_n hx hb dX8_tell_112 rfl (lv_at hl 0 rfl) ?_
    obtain ⟨x_96, x_97, x_98, x_99, x_100, x_101, x_102, x_103, x_104, x_105, x_106, x_107, x_108, x_109, x_110, x_111, k_95⟩ := op_8 hI i_h0
    refine k_get (ci := 8) (v := .int x_104) (C := RX8) (T := TX8) (N := 18) hx hb hts (fun _ h0_ => List.mem_cons_of_mem _ (List.mem_append_right _ (List.mem_append_left _ h0_))) hown hK hI i_h0.1 k_95 rfl 10 (by decide) (hts (.fieldLink RX8 58 "DeadlineShare$Task" "requests" "I") (List.mem_cons_of_mem _ (List.mem_append_left _ (List.mem_of_getElem? (i := 9) rfl)))) (fun _ h9 => h9) rfl dX8_tell_113 ?_
    exact W.iret (v := x_104) hx hb hr (fun t ht hW => ⟨⟨x_104, (), rfl, trivial, k_ret ht hI⟩, hS.F ht⟩) hS.2.2 dX8_tell_116
  by_cases h_112 : p1 = 6
  · refine k_topi (y := 6) h_112 ?_
    refine lv_tableIn (tgt := 117) hx hb dX8_tell_1 (by decide) (by decide) rfl (by decide) ?_
    have h_112 := kc_eq rfl (by decide : Int32.toInt 6 = 6) h_112
    refine lv_aload_n hx hb dX8_tell_117 rfl (lv_at hl 0 rfl) ?_
    obtain ⟨x_114, x_115, x_116, x_117, x_118, x_119, x_120, x_121, x_122, x_123, x_124, x_125, x_126, x_127, x_128, x_129, k_113⟩ := op_8 hI i_h0
    refine k_get (ci := 8) (v := .int x_123) (C := RX8) (T := TX8) (N := 18) hx hb hts (fun _ h0_ => List.mem_cons_of_mem _ (List.mem_append_right _ (List.mem_append_left _ h0_))) hown hK hI i_h0.1 k_113 rfl 11 (by decide) (hts (.fieldLink RX8 61 "DeadlineShare$Task" "late" "I") (List.mem_cons_of_mem _ (List.mem_append_left _ (List.mem_of_getElem? (i := 10) rfl)))) (fun _ h9 => h9) rfl dX8_tell_118 ?_
    exact W.iret (v := x_123) hx hb hr (fun t ht hW => ⟨⟨x_123, (), rfl, trivial, k_ret ht hI⟩, hS.F ht⟩) hS.2.2 dX8_tell_121
  by_cases h_130 : p1 = 7
  · refine k_topi (y := 7) h_130 ?_
    refine lv_tableIn (tgt := 122) hx hb dX8_tell_1 (by decide) (by decide) rfl (by decide) ?_
    have h_130 := kc_eq rfl (by decide : Int32.toInt 7 = 7) h_130
    refine lv_aload_n hx hb dX8_tell_122 rfl (lv_at hl 0 rfl) ?_
    obtain ⟨x_132, x_133, x_134, x_135, x_136, x_137, x_138, x_139, x_140, x_141, x_142, x_143, x_144, x_145, x_146, x_147, k_131⟩ := op_8 hI i_h0
    refine va_calli (va_runV (As := []) (rest := []) ⟨hx, hb, hml, hown, hts⟩ (c_X8_isOn l dC dI g A hG f h0 i_h0) (cwV 0 hts (gi_V (fun w_ h0_ => ⟨List.mem_cons_of_mem _ (List.mem_append_right _ (List.mem_append_right _ (List.mem_append_left _ h0_))), (tb_c_X8_isOn w_ h0_).2⟩) (List.mem_cons_of_mem _ (List.mem_append_left _ (List.mem_of_getElem? (i := 3) rfl))) (List.mem_cons_of_mem _ (List.mem_append_left _ (List.mem_of_getElem? (i := 4) rfl))) (List.mem_cons_of_mem _ (List.mem_append_left _ (List.mem_of_getElem? (i := 5) rfl))) (List.mem_cons_of_mem _ (List.mem_append_left _ (List.mem_of_getElem? (i := 6) rfl)))) rfl rfl rfl (by decide +kernel) ⟨Nat.le_of_ble_eq_true rfl, Nat.le_of_ble_eq_true rfl⟩) ⟨fun a U g mk q => ⟨q.1, q.2.calling rfl rfl⟩, k_recv hK hI i_h0.1 k_131 (ci := 8) rfl, fun U hU hW => ⟨rfl, kIn.of hI hK hE hS hU hW⟩⟩ rfl rfl hl.1 rfl (lv_room (Nat.le_of_ble_eq_true rfl)) dX8_tell_123 ⟨Nat.le_of_ble_eq_true rfl, Nat.le_of_ble_eq_true rfl⟩) hS (fun q _ h => h) (fun q h => h) (fun r_149 u t H1 locs ht hvm w_148 hB hz1 hk1 hS => ?_)
    have hI : Iv dC dI g A f t.heap := hB
    rw [ht] at hI
    generalize H1 = H at hI hS ⊢
    refine W.widen (k := 0) (n := 0) (Nat.le_of_ble_eq_true rfl) (Nat.le_of_ble_eq_true rfl) ?_
    refine lv_if_eq (tgt := 136) hx hb dX8_tell_126 (by decide) (fun c_150 => ?_) (fun c_150 => ?_)
    · have c_150 := kc_eq rfl (by decide : Int32.toInt 0 = 0) c_150
      refine lv_iconst (v := (-1)) hx hb dX8_tell_136 (by decide) ?_
      exact W.iret (v := (-1)) hx hb hr (fun t ht hW => ⟨⟨(-1), (), rfl, trivial, k_ret ht hI⟩, hS.F ht⟩) hS.2.2 dX8_tell_137
    · have c_150 := kn_eq rfl (by decide : Int32.toInt 0 = 0) c_150
      refine lv_aload_n hx hb dX8_tell_129 rfl (lv_at hl 0 rfl) ?_
      refine k_get (ci := 8) (v := .int x_142) (C := RX8) (T := TX8) (N := 18) hx hb hts (fun _ h0_ => List.mem_cons_of_mem _ (List.mem_append_right _ (List.mem_append_left _ h0_))) hown hK hI i_h0.1 k_131 rfl 12 (by decide) (hts (.fieldLink RX8 64 "DeadlineShare$Task" "wait" "I") (List.mem_cons_of_mem _ (List.mem_append_left _ (List.mem_of_getElem? (i := 11) rfl)))) (fun _ h9 => h9) rfl dX8_tell_130 ?_
      refine lv_goto (tgt := 137) hx hb dX8_tell_133 (by decide) ?_
      exact W.iret (v := x_142) hx hb hr (fun t ht hW => ⟨⟨x_142, (), rfl, trivial, k_ret ht hI⟩, hS.F ht⟩) hS.2.2 dX8_tell_137
  by_cases h_151 : p1 = 8
  · refine k_topi (y := 8) h_151 ?_
    refine lv_tableIn (tgt := 138) hx hb dX8_tell_1 (by decide) (by decide) rfl (by decide) ?_
    have h_151 := kc_eq rfl (by decide : Int32.toInt 8 = 8) h_151
    refine lv_aload_n hx hb dX8_tell_138 rfl (lv_at hl 0 rfl) ?_
    obtain ⟨x_153, x_154, x_155, x_156, x_157, x_158, x_159, x_160, x_161, x_162, x_163, x_164, x_165, x_166, x_167, x_168, k_152⟩ := op_8 hI i_h0
    refine k_get (ci := 8) (v := .int x_164) (C := RX8) (T := TX8) (N := 18) hx hb hts (fun _ h0_ => List.mem_cons_of_mem _ (List.mem_append_right _ (List.mem_append_left _ h0_))) hown hK hI i_h0.1 k_152 rfl 13 (by decide) (hts (.fieldLink RX8 67 "DeadlineShare$Task" "longest" "I") (List.mem_cons_of_mem _ (List.mem_append_left _ (List.mem_of_getElem? (i := 12) rfl)))) (fun _ h9 => h9) rfl dX8_tell_139 ?_
    exact W.iret (v := x_164) hx hb hr (fun t ht hW => ⟨⟨x_164, (), rfl, trivial, k_ret ht hI⟩, hS.F ht⟩) hS.2.2 dX8_tell_142
  by_cases h_169 : p1 = 9
  · refine k_topi (y := 9) h_169 ?_
    refine lv_tableIn (tgt := 143) hx hb dX8_tell_1 (by decide) (by decide) rfl (by decide) ?_
    have h_169 := kc_eq rfl (by decide : Int32.toInt 9 = 9) h_169
    refine lv_aload_n hx hb dX8_tell_143 rfl (lv_at hl 0 rfl) ?_
    obtain ⟨x_171, x_172, x_173, x_174, x_175, x_176, x_177, x_178, x_179, x_180, x_181, x_182, x_183, x_184, x_185, x_186, k_170⟩ := op_8 hI i_h0
    refine k_get (ci := 8) (v := .int x_174) (C := RX8) (T := TX8) (N := 18) hx hb hts (fun _ h0_ => List.mem_cons_of_mem _ (List.mem_append_right _ (List.mem_append_left _ h0_))) hown hK hI i_h0.1 k_170 rfl 4 (by decide) (hts (.fieldLink RX8 38 "DeadlineShare$Task" "state" "I") (List.mem_cons_of_mem _ (List.mem_append_left _ (List.mem_of_getElem? (i := 2) rfl)))) (fun _ h9 => h9) rfl dX8_tell_144 ?_
    refine lv_iconst (v := 2) hx hb dX8_tell_147 (by decide) ?_
    refine lv_icmp_ne (tgt := 158) hx hb dX8_tell_148 (by decide) (fun c_187 => ?_) (fun c_187 => ?_)
    · have c_187 := kn_eq rfl (by decide : Int32.toInt 2 = 2) c_187
      refine lv_iconst (v := (-1)) hx hb dX8_tell_158 (by decide) ?_
      exact W.iret (v := (-1)) hx hb hr (fun t ht hW => ⟨⟨(-1), (), rfl, trivial, k_ret ht hI⟩, hS.F ht⟩) hS.2.2 dX8_tell_159
    · have c_187 := kc_eq rfl (by decide : Int32.toInt 2 = 2) c_187
      refine lv_aload_n hx hb dX8_tell_151 rfl (lv_at hl 0 rfl) ?_
      refine k_get (ci := 8) (v := .int x_183) (C := RX8) (T := TX8) (N := 18) hx hb hts (fun _ h0_ => List.mem_cons_of_mem _ (List.mem_append_right _ (List.mem_append_left _ h0_))) hown hK hI i_h0.1 k_170 rfl 14 (by decide) (hts (.fieldLink RX8 70 "DeadlineShare$Task" "napTill" "I") (List.mem_cons_of_mem _ (List.mem_append_left _ (List.mem_of_getElem? (i := 13) rfl)))) (fun _ h9 => h9) rfl dX8_tell_152 ?_
      refine lv_goto (tgt := 159) hx hb dX8_tell_155 (by decide) ?_
      exact W.iret (v := x_183) hx hb hr (fun t ht hW => ⟨⟨x_183, (), rfl, trivial, k_ret ht hI⟩, hS.F ht⟩) hS.2.2 dX8_tell_159
  by_cases h_188 : p1 = 10
  · refine k_topi (y := 10) h_188 ?_
    refine lv_tableIn (tgt := 160) hx hb dX8_tell_1 (by decide) (by decide) rfl (by decide) ?_
    have h_188 := kc_eq rfl (by decide : Int32.toInt 10 = 10) h_188
    refine lv_aload_n hx hb dX8_tell_160 rfl (lv_at hl 0 rfl) ?_
    obtain ⟨x_190, x_191, x_192, x_193, x_194, x_195, x_196, x_197, x_198, x_199, x_200, x_201, x_202, x_203, x_204, x_205, k_189⟩ := op_8 hI i_h0
    refine k_get (ci := 8) (v := .ref (gr g h0 1)) (C := RX8) (T := TX8) (N := 18) hx hb hts (fun _ h0_ => List.mem_cons_of_mem _ (List.mem_append_right _ (List.mem_append_left _ h0_))) hown hK hI i_h0.1 k_189 rfl 1 (by decide) (hts (.fieldLink RX8 12 "DeadlineShare$Task" "script" "LDeadlineShare$Script;") (List.mem_cons_of_mem _ (List.mem_append_left _ (List.mem_of_getElem? (i := 14) rfl)))) (fun _ h9 => h9) rfl dX8_tell_161 ?_
    have i_207 := kw_8_1 hG i_h0
    obtain ⟨x_209, x_210, x_211, x_212, k_208, b_213, b_214⟩ := op_5 hI i_207
    refine va_calli (va_runV (As := []) (rest := []) ⟨hx, hb, hml, hown, hts⟩ (c_X5_isThere l dC dI g A hG f (gr g h0 1) i_207) (cwV 0 hts (gi_V (fun w_ h0_ => ⟨List.mem_cons_of_mem _ (List.mem_append_right _ (List.mem_append_right _ (List.mem_append_right _ (List.mem_append_left _ h0_)))), (tb_c_X5_isThere w_ h0_).2⟩) (List.mem_cons_of_mem _ (List.mem_append_left _ (List.mem_of_getElem? (i := 15) rfl))) (List.mem_cons_of_mem _ (List.mem_append_left _ (List.mem_of_getElem? (i := 16) rfl))) (List.mem_cons_of_mem _ (List.mem_append_left _ (List.mem_of_getElem? (i := 17) rfl))) (List.mem_cons_of_mem _ (List.mem_append_left _ (List.mem_of_getElem? (i := 18) rfl)))) rfl rfl rfl (by decide +kernel) ⟨Nat.le_of_ble_eq_true rfl, Nat.le_of_ble_eq_true rfl⟩) ⟨fun a U g mk q => ⟨q.1, q.2.calling rfl rfl⟩, k_recv hK hI i_207.1 k_208 (ci := 5) rfl, fun U hU hW => ⟨rfl, kIn.of hI hK hE hS hU hW⟩⟩ rfl rfl hl.1 rfl (lv_room (Nat.le_of_ble_eq_true rfl)) dX8_tell_164 ⟨Nat.le_of_ble_eq_true rfl, Nat.le_of_ble_eq_true rfl⟩) hS (fun q _ h => h) (fun q h => h) (fun r_216 u t H1 locs ht hvm w_215 hB hz1 hk1 hS => ?_)
    have hI : Iv dC dI g A f t.heap := hB
    rw [ht] at hI
    generalize H1 = H at hI hS ⊢
    refine W.widen (k := 0) (n := 0) (Nat.le_of_ble_eq_true rfl) (Nat.le_of_ble_eq_true rfl) ?_
    refine lv_if_eq (tgt := 180) hx hb dX8_tell_167 (by decide) (fun c_217 => ?_) (fun c_217 => ?_)
    · have c_217 := kc_eq rfl (by decide : Int32.toInt 0 = 0) c_217
      refine lv_iconst (v := (-1)) hx hb dX8_tell_180 (by decide) ?_
      exact W.iret (v := (-1)) hx hb hr (fun t ht hW => ⟨⟨(-1), (), rfl, trivial, k_ret ht hI⟩, hS.F ht⟩) hS.2.2 dX8_tell_181
    · have c_217 := kn_eq rfl (by decide : Int32.toInt 0 = 0) c_217
      refine lv_aload_n hx hb dX8_tell_170 rfl (lv_at hl 0 rfl) ?_
      refine k_get (ci := 8) (v := .ref (gr g h0 1)) (C := RX8) (T := TX8) (N := 18) hx hb hts (fun _ h0_ => List.mem_cons_of_mem _ (List.mem_append_right _ (List.mem_append_left _ h0_))) hown hK hI i_h0.1 k_189 rfl 1 (by decide) (hts (.fieldLink RX8 12 "DeadlineShare$Task" "script" "LDeadlineShare$Script;") (List.mem_cons_of_mem _ (List.mem_append_left _ (List.mem_of_getElem? (i := 14) rfl)))) (fun _ h9 => h9) rfl dX8_tell_171 ?_
      refine k_get (ci := 5) (v := .int x_210) (C := RX5) (T := TX5) (N := 5) hx hb hts (fun _ h0_ => List.mem_cons_of_mem _ (List.mem_append_right _ (List.mem_append_right _ (List.mem_append_right _ (List.mem_append_right _ (List.mem_append_left _ h0_)))))) hown hK hI i_207.1 k_208 rfl 2 (by decide) (hts (.fieldLink RX8 126 "DeadlineShare$Script" "at" "I") (List.mem_cons_of_mem _ (List.mem_append_left _ (List.mem_of_getElem? (i := 19) rfl)))) (fun _ h9 => h9) rfl dX8_tell_174 ?_
      refine lv_goto (tgt := 181) hx hb dX8_tell_177 (by decide) ?_
      exact W.iret (v := x_210) hx hb hr (fun t ht hW => ⟨⟨x_210, (), rfl, trivial, k_ret ht hI⟩, hS.F ht⟩) hS.2.2 dX8_tell_181
  by_cases h_220 : p1 = 11
  · refine k_topi (y := 11) h_220 ?_
    refine lv_tableIn (tgt := 182) hx hb dX8_tell_1 (by decide) (by decide) rfl (by decide) ?_
    have h_220 := kc_eq rfl (by decide : Int32.toInt 11 = 11) h_220
    refine lv_aload_n hx hb dX8_tell_182 rfl (lv_at hl 0 rfl) ?_
    obtain ⟨x_222, x_223, x_224, x_225, x_226, x_227, x_228, x_229, x_230, x_231, x_232, x_233, x_234, x_235, x_236, x_237, k_221⟩ := op_8 hI i_h0
    refine k_get (ci := 8) (v := .ref (gr g h0 1)) (C := RX8) (T := TX8) (N := 18) hx hb hts (fun _ h0_ => List.mem_cons_of_mem _ (List.mem_append_right _ (List.mem_append_left _ h0_))) hown hK hI i_h0.1 k_221 rfl 1 (by decide) (hts (.fieldLink RX8 12 "DeadlineShare$Task" "script" "LDeadlineShare$Script;") (List.mem_cons_of_mem _ (List.mem_append_left _ (List.mem_of_getElem? (i := 14) rfl)))) (fun _ h9 => h9) rfl dX8_tell_183 ?_
    have i_239 := kw_8_1 hG i_h0
    obtain ⟨x_241, x_242, x_243, x_244, k_240, b_245, b_246⟩ := op_5 hI i_239
    refine va_calli (va_runV (As := []) (rest := []) ⟨hx, hb, hml, hown, hts⟩ (c_X5_holdsByRun l dC dI g A hG f (gr g h0 1) i_239) (cwV 0 hts (gi_V (fun w_ h0_ => ⟨List.mem_cons_of_mem _ (List.mem_append_right _ (List.mem_append_right _ (List.mem_append_right _ (List.mem_append_right _ (List.mem_append_right _ (List.mem_append_left _ h0_)))))), (tb_c_X5_holdsByRun w_ h0_).2⟩) (List.mem_cons_of_mem _ (List.mem_append_left _ (List.mem_of_getElem? (i := 20) rfl))) (List.mem_cons_of_mem _ (List.mem_append_left _ (List.mem_of_getElem? (i := 21) rfl))) (List.mem_cons_of_mem _ (List.mem_append_left _ (List.mem_of_getElem? (i := 22) rfl))) (List.mem_cons_of_mem _ (List.mem_append_left _ (List.mem_of_getElem? (i := 18) rfl)))) rfl rfl rfl (by decide +kernel) ⟨Nat.le_of_ble_eq_true rfl, Nat.le_of_ble_eq_true rfl⟩) ⟨fun a U g mk q => ⟨q.1, q.2.calling rfl rfl⟩, k_recv hK hI i_239.1 k_240 (ci := 5) rfl, fun U hU hW => ⟨rfl, kIn.of hI hK hE hS hU hW⟩⟩ rfl rfl hl.1 rfl (lv_room (Nat.le_of_ble_eq_true rfl)) dX8_tell_186 ⟨Nat.le_of_ble_eq_true rfl, Nat.le_of_ble_eq_true rfl⟩) hS (fun q _ h => h) (fun q h => h) (fun r_248 u t H1 locs ht hvm w_247 hB hz1 hk1 hS => ?_)
    have hI : Iv dC dI g A f t.heap := hB
    rw [ht] at hI
    generalize H1 = H at hI hS ⊢
    refine W.widen (k := 0) (n := 0) (Nat.le_of_ble_eq_true rfl) (Nat.le_of_ble_eq_true rfl) ?_
    refine lv_if_eq (tgt := 202) hx hb dX8_tell_189 (by decide) (fun c_249 => ?_) (fun c_249 => ?_)
    · have c_249 := kc_eq rfl (by decide : Int32.toInt 0 = 0) c_249
      refine lv_iconst (v := (-1)) hx hb dX8_tell_202 (by decide) ?_
      exact W.iret (v := (-1)) hx hb hr (fun t ht hW => ⟨⟨(-1), (), rfl, trivial, k_ret ht hI⟩, hS.F ht⟩) hS.2.2 dX8_tell_203
    · have c_249 := kn_eq rfl (by decide : Int32.toInt 0 = 0) c_249
      refine lv_aload_n hx hb dX8_tell_192 rfl (lv_at hl 0 rfl) ?_
      refine k_get (ci := 8) (v := .ref (gr g h0 1)) (C := RX8) (T := TX8) (N := 18) hx hb hts (fun _ h0_ => List.mem_cons_of_mem _ (List.mem_append_right _ (List.mem_append_left _ h0_))) hown hK hI i_h0.1 k_221 rfl 1 (by decide) (hts (.fieldLink RX8 12 "DeadlineShare$Task" "script" "LDeadlineShare$Script;") (List.mem_cons_of_mem _ (List.mem_append_left _ (List.mem_of_getElem? (i := 14) rfl)))) (fun _ h9 => h9) rfl dX8_tell_193 ?_
      refine k_get (ci := 5) (v := .int x_243) (C := RX5) (T := TX5) (N := 5) hx hb hts (fun _ h0_ => List.mem_cons_of_mem _ (List.mem_append_right _ (List.mem_append_right _ (List.mem_append_right _ (List.mem_append_right _ (List.mem_append_left _ h0_)))))) hown hK hI i_239.1 k_240 rfl 3 (by decide) (hts (.fieldLink RX8 132 "DeadlineShare$Script" "toRun" "I") (List.mem_cons_of_mem _ (List.mem_append_left _ (List.mem_of_getElem? (i := 23) rfl)))) (fun _ h9 => h9) rfl dX8_tell_196 ?_
      refine lv_goto (tgt := 203) hx hb dX8_tell_199 (by decide) ?_
      exact W.iret (v := x_243) hx hb hr (fun t ht hW => ⟨⟨x_243, (), rfl, trivial, k_ret ht hI⟩, hS.F ht⟩) hS.2.2 dX8_tell_203
  by_cases h_252 : p1 = 12
  · refine k_topi (y := 12) h_252 ?_
    refine lv_tableIn (tgt := 204) hx hb dX8_tell_1 (by decide) (by decide) rfl (by decide) ?_
    have h_252 := kc_eq rfl (by decide : Int32.toInt 12 = 12) h_252
    refine lv_aload_n hx hb dX8_tell_204 rfl (lv_at hl 0 rfl) ?_
    obtain ⟨x_254, x_255, x_256, x_257, x_258, x_259, x_260, x_261, x_262, x_263, x_264, x_265, x_266, x_267, x_268, x_269, k_253⟩ := op_8 hI i_h0
    refine k_get (ci := 8) (v := .int x_267) (C := RX8) (T := TX8) (N := 18) hx hb hts (fun _ h0_ => List.mem_cons_of_mem _ (List.mem_append_right _ (List.mem_append_left _ h0_))) hown hK hI i_h0.1 k_253 rfl 15 (by decide) (hts (.fieldLink RX8 84 "DeadlineShare$Task" "budget" "I") (List.mem_cons_of_mem _ (List.mem_append_left _ (List.mem_of_getElem? (i := 24) rfl)))) (fun _ h9 => h9) rfl dX8_tell_205 ?_
    exact W.iret (v := x_267) hx hb hr (fun t ht hW => ⟨⟨x_267, (), rfl, trivial, k_ret ht hI⟩, hS.F ht⟩) hS.2.2 dX8_tell_208
  by_cases h_270 : p1 = 13
  · refine k_topi (y := 13) h_270 ?_
    refine lv_tableIn (tgt := 209) hx hb dX8_tell_1 (by decide) (by decide) rfl (by decide) ?_
    have h_270 := kc_eq rfl (by decide : Int32.toInt 13 = 13) h_270
    refine lv_aload_n hx hb dX8_tell_209 rfl (lv_at hl 0 rfl) ?_
    obtain ⟨x_272, x_273, x_274, x_275, x_276, x_277, x_278, x_279, x_280, x_281, x_282, x_283, x_284, x_285, x_286, x_287, k_271⟩ := op_8 hI i_h0
    refine k_get (ci := 8) (v := .int x_286) (C := RX8) (T := TX8) (N := 18) hx hb hts (fun _ h0_ => List.mem_cons_of_mem _ (List.mem_append_right _ (List.mem_append_left _ h0_))) hown hK hI i_h0.1 k_271 rfl 16 (by decide) (hts (.fieldLink RX8 87 "DeadlineShare$Task" "quota" "I") (List.mem_cons_of_mem _ (List.mem_append_left _ (List.mem_of_getElem? (i := 25) rfl)))) (fun _ h9 => h9) rfl dX8_tell_210 ?_
    exact W.iret (v := x_286) hx hb hr (fun t ht hW => ⟨⟨x_286, (), rfl, trivial, k_ret ht hI⟩, hS.F ht⟩) hS.2.2 dX8_tell_213
  by_cases h_288 : p1 = 14
  · refine k_topi (y := 14) h_288 ?_
    refine lv_tableIn (tgt := 214) hx hb dX8_tell_1 (by decide) (by decide) rfl (by decide) ?_
    have h_288 := kc_eq rfl (by decide : Int32.toInt 14 = 14) h_288
    refine lv_aload_n hx hb dX8_tell_214 rfl (lv_at hl 0 rfl) ?_
    obtain ⟨x_290, x_291, x_292, x_293, x_294, x_295, x_296, x_297, x_298, x_299, x_300, x_301, x_302, x_303, x_304, x_305, k_289⟩ := op_8 hI i_h0
    refine k_get (ci := 8) (v := .int x_305) (C := RX8) (T := TX8) (N := 18) hx hb hts (fun _ h0_ => List.mem_cons_of_mem _ (List.mem_append_right _ (List.mem_append_left _ h0_))) hown hK hI i_h0.1 k_289 rfl 17 (by decide) (hts (.fieldLink RX8 90 "DeadlineShare$Task" "period" "I") (List.mem_cons_of_mem _ (List.mem_append_left _ (List.mem_of_getElem? (i := 26) rfl)))) (fun _ h9 => h9) rfl dX8_tell_215 ?_
    exact W.iret (v := x_305) hx hb hr (fun t ht hW => ⟨⟨x_305, (), rfl, trivial, k_ret ht hI⟩, hS.F ht⟩) hS.2.2 dX8_tell_218
  have h_1 := kn_eq rfl (by decide : Int32.toInt 0 = 0) h_1
  have h_19 := kn_eq rfl (by decide : Int32.toInt 1 = 1) h_19
  have h_37 := kn_eq rfl (by decide : Int32.toInt 2 = 2) h_37
  have h_55 := kn_eq rfl (by decide : Int32.toInt 3 = 3) h_55
  have h_76 := kn_eq rfl (by decide : Int32.toInt 4 = 4) h_76
  have h_94 := kn_eq rfl (by decide : Int32.toInt 5 = 5) h_94
  have h_112 := kn_eq rfl (by decide : Int32.toInt 6 = 6) h_112
  have h_130 := kn_eq rfl (by decide : Int32.toInt 7 = 7) h_130
  have h_151 := kn_eq rfl (by decide : Int32.toInt 8 = 8) h_151
  have h_169 := kn_eq rfl (by decide : Int32.toInt 9 = 9) h_169
  have h_188 := kn_eq rfl (by decide : Int32.toInt 10 = 10) h_188
  have h_220 := kn_eq rfl (by decide : Int32.toInt 11 = 11) h_220
  have h_252 := kn_eq rfl (by decide : Int32.toInt 12 = 12) h_252
  have h_270 := kn_eq rfl (by decide : Int32.toInt 13 = 13) h_270
  have h_288 := kn_eq rfl (by decide : Int32.toInt 14 = 14) h_288
  refine lv_tableOut (tgt := 219) hx hb dX8_tell_1 (by omega) (by decide) ?_
  refine lv_iconst (v := (-1)) hx hb dX8_tell_219 (by decide) ?_
  exact W.iret (v := (-1)) hx hb hr (fun t ht hW => ⟨⟨(-1), (), rfl, trivial, k_ret ht hI⟩, hS.F ht⟩) hS.2.2 dX8_tell_220
theorem tw_509 : q_g (.constant RX9 16 (1000000)) := ⟨(List.mem_append_right _ (List.mem_of_getElem? (i := 365) (by decide +kernel))), good_of_word (by decide +kernel)⟩
theorem tw_510 : q_g (.code yX9_allows cX9_allows 3 (some .boolean)) := ⟨(List.mem_append_right _ (List.mem_of_getElem? (i := 364) (by decide +kernel))), good_of_word (by decide +kernel)⟩
def ow_c_X9_allows : List Cond := [.constant RX9 16 (1000000)]
def wq_c_X9_allows : List Cond := .code yX9_allows cX9_allows 3 (some .boolean) :: (ow_c_X9_allows ++ ([] : List Cond))
theorem tb_c_X9_allows : ∀ w ∈ wq_c_X9_allows, q_g w := by
  unfold wq_c_X9_allows ow_c_X9_allows
  exact q_cons tw_510 (q_app (q_cons tw_509 q_nil) q_nil)
set_option maxHeartbeats 4000000 in
set_option maxRecDepth 100000 in
theorem c_X9_allows (l : Launch) (dC : Nat → ClassId) (dI : Nat → Nat → Nat) (g : kG) (A : Nat → Prop) (hG : kWf g) (f : Nat → va_E) (h0 : Nat) (p1 : Int32) (p2 : Int32) (i_h0 : ik g 9 h0) : Met l yX9_allows wq_c_X9_allows ({ frames := 0, cells := 0, slots := 0, locals := 0 } : Room) (va_Pc [.ref h0, .int p1, .int p2] (fun U => kIn dC dI g A f U)) (va_Qi (fun (r : Int32) (_ : Unit) => (r.toInt = 1 ∧ tAl p1.toInt p2.toInt) ∨ (r.toInt = 0 ∧ ¬ tAl p1.toInt p2.toInt)) (fun (_ : Unit) t => Iv dC dI g A f t.heap) A) 0 0 A := by
  refine Met.ofW (cc := cX9_allows) (maxL := 3) (ret := (some .boolean)) (by decide) rfl ?_
  intro p e s m args below meth c s₁ B hml hv
  obtain ⟨rfl, hI, hK, hE⟩ := hv
  have hx := B.exec
  have hb := B.bytes
  have hr := B.returns
  have hts := atoms_spec (ws := wq_c_X9_allows) B.pre
  have hown : s.vm.findClass RX9 = some m.cls := findClass_of_methodNamed B.named
  have hlocks := B.notSynchronized
  have hS : va_S A s.heap s.heap [] := va_S.rf
  have hl := lv_entry ([.ref h0, .int p1, .int p2]) (n := 3) (Nat.le_of_ble_eq_true rfl)
  rw [lg_entry_eq]
  generalize (lg_sl ([.ref h0, .int p1, .int p2]) ++ List.replicate (3 - (lg_sl ([.ref h0, .int p1, .int p2])).length) Slot.unset).toArray = ls at hl ⊢
  have hl : lv_has ls 3 [(0, .ref h0), (1, .int p1), (2, .int p2)] := hl
  refine lv_iload_n hx hb dX9_allows_0 rfl (lv_at hl 1 rfl) ?_
  by_cases h_1 : p1 = 0
  · refine k_topi (y := 0) h_1 ?_
    refine lv_tableIn (tgt := 28) hx hb dX9_allows_1 (by decide) (by decide) rfl (by decide) ?_
    have h_1 := kc_eq rfl (by decide : Int32.toInt 0 = 0) h_1
    refine lv_iload_n hx hb dX9_allows_28 rfl (lv_at hl 2 rfl) ?_
    refine lv_if_lt (tgt := 41) hx hb dX9_allows_29 (by decide) (fun c_2 => ?_) (fun c_2 => ?_)
    · have c_2 := kc_lt rfl (by decide : Int32.toInt 0 = 0) c_2
      refine lv_iconst (v := 0) hx hb dX9_allows_41 (by decide) ?_
      exact W.zret (v := 0) hx hb hr rfl (fun t ht hW => ⟨⟨0, (), rfl, (Or.inr ⟨by decide, by unfold tAl; omega⟩), k_ret ht hI⟩, hS.F ht⟩) hS.2.2 dX9_allows_42
    · have c_2 := kn_lt rfl (by decide : Int32.toInt 0 = 0) c_2
      refine lv_iload_n hx hb dX9_allows_32 rfl (lv_at hl 2 rfl) ?_
      refine lv_iconst (v := 1) hx hb dX9_allows_33 (by decide) ?_
      refine lv_icmp_gt (tgt := 41) hx hb dX9_allows_34 (by decide) (fun c_3 => ?_) (fun c_3 => ?_)
      · have c_3 := kc_lt (by decide : Int32.toInt 1 = 1) rfl c_3
        refine lv_iconst (v := 0) hx hb dX9_allows_41 (by decide) ?_
        exact W.zret (v := 0) hx hb hr rfl (fun t ht hW => ⟨⟨0, (), rfl, (Or.inr ⟨by decide, by unfold tAl; omega⟩), k_ret ht hI⟩, hS.F ht⟩) hS.2.2 dX9_allows_42
      · have c_3 := kn_lt (by decide : Int32.toInt 1 = 1) rfl c_3
        refine lv_iconst (v := 1) hx hb dX9_allows_37 (by decide) ?_
        refine lv_goto (tgt := 42) hx hb dX9_allows_38 (by decide) ?_
        exact W.zret (v := 1) hx hb hr rfl (fun t ht hW => ⟨⟨1, (), rfl, (Or.inl ⟨by decide, by unfold tAl; omega⟩), k_ret ht hI⟩, hS.F ht⟩) hS.2.2 dX9_allows_42
  by_cases h_4 : p1 = 1
  · refine k_topi (y := 1) h_4 ?_
    refine lv_tableIn (tgt := 43) hx hb dX9_allows_1 (by decide) (by decide) rfl (by decide) ?_
    have h_4 := kc_eq rfl (by decide : Int32.toInt 1 = 1) h_4
    refine lv_iload_n hx hb dX9_allows_43 rfl (lv_at hl 2 rfl) ?_
    refine lv_if_lt (tgt := 56) hx hb dX9_allows_44 (by decide) (fun c_5 => ?_) (fun c_5 => ?_)
    · have c_5 := kc_lt rfl (by decide : Int32.toInt 0 = 0) c_5
      refine lv_iconst (v := 0) hx hb dX9_allows_56 (by decide) ?_
      exact W.zret (v := 0) hx hb hr rfl (fun t ht hW => ⟨⟨0, (), rfl, (Or.inr ⟨by decide, by unfold tAl; omega⟩), k_ret ht hI⟩, hS.F ht⟩) hS.2.2 dX9_allows_57
    · have c_5 := kn_lt rfl (by decide : Int32.toInt 0 = 0) c_5
      refine lv_iload_n hx hb dX9_allows_47 rfl (lv_at hl 2 rfl) ?_
      refine lv_iconst (v := 3) hx hb dX9_allows_48 (by decide) ?_
      refine lv_icmp_gt (tgt := 56) hx hb dX9_allows_49 (by decide) (fun c_6 => ?_) (fun c_6 => ?_)
      · have c_6 := kc_lt (by decide : Int32.toInt 3 = 3) rfl c_6
        refine lv_iconst (v := 0) hx hb dX9_allows_56 (by decide) ?_
        exact W.zret (v := 0) hx hb hr rfl (fun t ht hW => ⟨⟨0, (), rfl, (Or.inr ⟨by decide, by unfold tAl; omega⟩), k_ret ht hI⟩, hS.F ht⟩) hS.2.2 dX9_allows_57
      · have c_6 := kn_lt (by decide : Int32.toInt 3 = 3) rfl c_6
        refine lv_iconst (v := 1) hx hb dX9_allows_52 (by decide) ?_
        refine lv_goto (tgt := 57) hx hb dX9_allows_53 (by decide) ?_
        exact W.zret (v := 1) hx hb hr rfl (fun t ht hW => ⟨⟨1, (), rfl, (Or.inl ⟨by decide, by unfold tAl; omega⟩), k_ret ht hI⟩, hS.F ht⟩) hS.2.2 dX9_allows_57
  by_cases h_7 : p1 = 2
  · refine k_topi (y := 2) h_7 ?_
    refine lv_tableIn (tgt := 58) hx hb dX9_allows_1 (by decide) (by decide) rfl (by decide) ?_
    have h_7 := kc_eq rfl (by decide : Int32.toInt 2 = 2) h_7
    refine lv_iload_n hx hb dX9_allows_58 rfl (lv_at hl 2 rfl) ?_
    refine lv_if_lt (tgt := 72) hx hb dX9_allows_59 (by decide) (fun c_8 => ?_) (fun c_8 => ?_)
    · have c_8 := kc_lt rfl (by decide : Int32.toInt 0 = 0) c_8
      refine lv_iconst (v := 0) hx hb dX9_allows_72 (by decide) ?_
      exact W.zret (v := 0) hx hb hr rfl (fun t ht hW => ⟨⟨0, (), rfl, (Or.inr ⟨by decide, by unfold tAl; omega⟩), k_ret ht hI⟩, hS.F ht⟩) hS.2.2 dX9_allows_73
    · have c_8 := kn_lt rfl (by decide : Int32.toInt 0 = 0) c_8
      refine lv_iload_n hx hb dX9_allows_62 rfl (lv_at hl 2 rfl) ?_
      refine lv_ldc hx hb hown (hts (.constant RX9 16 (1000000)) (List.mem_cons_of_mem _ (List.mem_append_left _ (List.mem_of_getElem? (i := 0) rfl)))) dX9_allows_63 ?_
      refine lv_icmp_gt (tgt := 72) hx hb dX9_allows_65 (by decide) (fun c_9 => ?_) (fun c_9 => ?_)
      · have c_9 := kc_lt (by decide : Int32.toInt 1000000 = 1000000) rfl c_9
        refine lv_iconst (v := 0) hx hb dX9_allows_72 (by decide) ?_
        exact W.zret (v := 0) hx hb hr rfl (fun t ht hW => ⟨⟨0, (), rfl, (Or.inr ⟨by decide, by unfold tAl; omega⟩), k_ret ht hI⟩, hS.F ht⟩) hS.2.2 dX9_allows_73
      · have c_9 := kn_lt (by decide : Int32.toInt 1000000 = 1000000) rfl c_9
        refine lv_iconst (v := 1) hx hb dX9_allows_68 (by decide) ?_
        refine lv_goto (tgt := 73) hx hb dX9_allows_69 (by decide) ?_
        exact W.zret (v := 1) hx hb hr rfl (fun t ht hW => ⟨⟨1, (), rfl, (Or.inl ⟨by decide, by unfold tAl; omega⟩), k_ret ht hI⟩, hS.F ht⟩) hS.2.2 dX9_allows_73
  have h_1 := kn_eq rfl (by decide : Int32.toInt 0 = 0) h_1
  have h_4 := kn_eq rfl (by decide : Int32.toInt 1 = 1) h_4
  have h_7 := kn_eq rfl (by decide : Int32.toInt 2 = 2) h_7
  refine lv_tableOut (tgt := 74) hx hb dX9_allows_1 (by omega) (by decide) ?_
  refine lv_iconst (v := 0) hx hb dX9_allows_74 (by decide) ?_
  exact W.zret (v := 0) hx hb hr rfl (fun t ht hW => ⟨⟨0, (), rfl, (Or.inr ⟨by decide, by unfold tAl; omega⟩), k_ret ht hI⟩, hS.F ht⟩) hS.2.2 dX9_allows_75
theorem tw_511 : q_g (.fieldLink RX9 13 "DeadlineShare$Terms" "seed" "I") := ⟨(List.mem_append_right _ (List.mem_of_getElem? (i := 40) (by decide +kernel))), good_of_word (by decide +kernel)⟩
theorem tw_512 : q_g (.fieldLink RX9 7 "DeadlineShare$Terms" "carry" "I") := ⟨(List.mem_append_right _ (List.mem_of_getElem? (i := 37) (by decide +kernel))), good_of_word (by decide +kernel)⟩
theorem tw_513 : q_g (.fieldLink RX9 17 "DeadlineShare$Terms" "mode" "I") := ⟨(List.mem_append_right _ (List.mem_of_getElem? (i := 34) (by decide +kernel))), good_of_word (by decide +kernel)⟩
theorem tw_514 : q_g (.code yX9_get cX9_get 2 (some .int)) := ⟨(List.mem_append_right _ (List.mem_of_getElem? (i := 376) (by decide +kernel))), good_of_word (by decide +kernel)⟩
def ow_c_X9_get : List Cond := [.fieldLink RX9 17 "DeadlineShare$Terms" "mode" "I", .fieldLink RX9 7 "DeadlineShare$Terms" "carry" "I", .fieldLink RX9 13 "DeadlineShare$Terms" "seed" "I"]
def wq_c_X9_get : List Cond := .code yX9_get cX9_get 2 (some .int) :: (ow_c_X9_get ++ (u_ws RX9 TX9 3 ++ ([] : List Cond)))
theorem tb_c_X9_get : ∀ w ∈ wq_c_X9_get, q_g w := by
  unfold wq_c_X9_get ow_c_X9_get
  exact q_cons tw_514 (q_app (q_cons tw_513 (q_cons tw_512 (q_cons tw_511 q_nil))) (q_app tu_X9 q_nil))
set_option maxHeartbeats 4000000 in
set_option maxRecDepth 100000 in
theorem c_X9_get (l : Launch) (dC : Nat → ClassId) (dI : Nat → Nat → Nat) (g : kG) (A : Nat → Prop) (hG : kWf g) (f : Nat → va_E) (h0 : Nat) (p1 : Int32) (ta0 : Int32) (ta1 : Int32) (ta2 : Int32) (i_h0 : ik g 9 h0) (hc0 : f h0 = .inr (9, [.int ta0, .int ta1, .int ta2])) : Met l yX9_get wq_c_X9_get ({ frames := 0, cells := 0, slots := 0, locals := 0 } : Room) (va_Pc [.ref h0, .int p1] (fun U => kIn dC dI g A f U)) (va_Qi (fun (r : Int32) (_ : Unit) => tGet p1.toInt ta0.toInt ta1.toInt ta2.toInt r.toInt) (fun (_ : Unit) t => Iv dC dI g A f t.heap) A) 0 0 A := by
  refine Met.ofW (cc := cX9_get) (maxL := 2) (ret := (some .int)) (by decide) rfl ?_
  intro p e s m args below meth c s₁ B hml hv
  obtain ⟨rfl, hI, hK, hE⟩ := hv
  have hx := B.exec
  have hb := B.bytes
  have hr := B.returns
  have hts := atoms_spec (ws := wq_c_X9_get) B.pre
  have hown : s.vm.findClass RX9 = some m.cls := findClass_of_methodNamed B.named
  have hlocks := B.notSynchronized
  have hS : va_S A s.heap s.heap [] := va_S.rf
  have hl := lv_entry ([.ref h0, .int p1]) (n := 2) (Nat.le_of_ble_eq_true rfl)
  rw [lg_entry_eq]
  generalize (lg_sl ([.ref h0, .int p1]) ++ List.replicate (2 - (lg_sl ([.ref h0, .int p1])).length) Slot.unset).toArray = ls at hl ⊢
  have hl : lv_has ls 2 [(0, .ref h0), (1, .int p1)] := hl
  refine lv_iload_n hx hb dX9_get_0 rfl (lv_at hl 1 rfl) ?_
  by_cases h_1 : p1 = 0
  · refine k_topi (y := 0) h_1 ?_
    refine lv_lookup (tgt := 28) hx hb dX9_get_1 (by decide) rfl (by decide) ?_
    have h_1 := kc_eq rfl (by decide : Int32.toInt 0 = 0) h_1
    refine lv_aload_n hx hb dX9_get_28 rfl (lv_at hl 0 rfl) ?_
    refine k_get (ci := 9) (v := .int ta0) (C := RX9) (T := TX9) (N := 3) hx hb hts (fun _ h0_ => List.mem_cons_of_mem _ (List.mem_append_right _ (List.mem_append_left _ h0_))) hown hK hI i_h0.1 hc0 rfl 0 (by decide) (hts (.fieldLink RX9 17 "DeadlineShare$Terms" "mode" "I") (List.mem_cons_of_mem _ (List.mem_append_left _ (List.mem_of_getElem? (i := 0) rfl)))) (fun _ h9 => h9) rfl dX9_get_29 ?_
    exact W.iret (v := ta0) hx hb hr (fun t ht hW => ⟨⟨ta0, (), rfl, (by unfold tGet; omega), k_ret ht hI⟩, hS.F ht⟩) hS.2.2 dX9_get_32
  by_cases h_2 : p1 = 1
  · refine k_topi (y := 1) h_2 ?_
    refine lv_lookup (tgt := 33) hx hb dX9_get_1 (by decide) rfl (by decide) ?_
    have h_2 := kc_eq rfl (by decide : Int32.toInt 1 = 1) h_2
    refine lv_aload_n hx hb dX9_get_33 rfl (lv_at hl 0 rfl) ?_
    refine k_get (ci := 9) (v := .int ta1) (C := RX9) (T := TX9) (N := 3) hx hb hts (fun _ h0_ => List.mem_cons_of_mem _ (List.mem_append_right _ (List.mem_append_left _ h0_))) hown hK hI i_h0.1 hc0 rfl 1 (by decide) (hts (.fieldLink RX9 7 "DeadlineShare$Terms" "carry" "I") (List.mem_cons_of_mem _ (List.mem_append_left _ (List.mem_of_getElem? (i := 1) rfl)))) (fun _ h9 => h9) rfl dX9_get_34 ?_
    exact W.iret (v := ta1) hx hb hr (fun t ht hW => ⟨⟨ta1, (), rfl, (by unfold tGet; omega), k_ret ht hI⟩, hS.F ht⟩) hS.2.2 dX9_get_37
  refine lv_lookup (off := 37) (tgt := 38) hx hb dX9_get_1 (by decide) ((lv_osw h_1 (by decide)).trans ((lv_osw h_2 (by decide)).trans rfl)) (by decide) ?_
  have h_1 := kn_eq rfl (by decide : Int32.toInt 0 = 0) h_1
  have h_2 := kn_eq rfl (by decide : Int32.toInt 1 = 1) h_2
  refine lv_aload_n hx hb dX9_get_38 rfl (lv_at hl 0 rfl) ?_
  refine k_get (ci := 9) (v := .int ta2) (C := RX9) (T := TX9) (N := 3) hx hb hts (fun _ h0_ => List.mem_cons_of_mem _ (List.mem_append_right _ (List.mem_append_left _ h0_))) hown hK hI i_h0.1 hc0 rfl 2 (by decide) (hts (.fieldLink RX9 13 "DeadlineShare$Terms" "seed" "I") (List.mem_cons_of_mem _ (List.mem_append_left _ (List.mem_of_getElem? (i := 2) rfl)))) (fun _ h9 => h9) rfl dX9_get_39 ?_
  exact W.iret (v := ta2) hx hb hr (fun t ht hW => ⟨⟨ta2, (), rfl, (by unfold tGet; omega), k_ret ht hI⟩, hS.F ht⟩) hS.2.2 dX9_get_42
theorem tw_515 : q_g (.code yX9_set cX9_set 3 none) := ⟨(List.mem_append_right _ (List.mem_of_getElem? (i := 380) (by decide +kernel))), good_of_word (by decide +kernel)⟩
def ow_c_X9_set : List Cond := [.fieldLink RX9 17 "DeadlineShare$Terms" "mode" "I", .fieldLink RX9 7 "DeadlineShare$Terms" "carry" "I", .fieldLink RX9 13 "DeadlineShare$Terms" "seed" "I"]
def wq_c_X9_set : List Cond := .code yX9_set cX9_set 3 none :: (ow_c_X9_set ++ (u_ws RX9 TX9 3 ++ ([] : List Cond)))
theorem tb_c_X9_set : ∀ w ∈ wq_c_X9_set, q_g w := by
  unfold wq_c_X9_set ow_c_X9_set
  exact q_cons tw_515 (q_app (q_cons tw_513 (q_cons tw_512 (q_cons tw_511 q_nil))) (q_app tu_X9 q_nil))
set_option maxHeartbeats 4000000 in
set_option maxRecDepth 100000 in
theorem c_X9_set (l : Launch) (dC : Nat → ClassId) (dI : Nat → Nat → Nat) (g : kG) (A : Nat → Prop) (hG : kWf g) (f : Nat → va_E) (h0 : Nat) (p1 : Int32) (p2 : Int32) (ta0 : Int32) (ta1 : Int32) (ta2 : Int32) (i_h0 : ik g 9 h0) (hc0 : f h0 = .inr (9, [.int ta0, .int ta1, .int ta2])) : Met l yX9_set wq_c_X9_set ({ frames := 0, cells := 0, slots := 0, locals := 0 } : Room) (va_Pc [.ref h0, .int p1, .int p2] (fun U => kIn dC dI g A f U)) (va_Qv (fun (_ : Unit) => True) (fun (_ : Unit) t => ∃ f1 : Nat → va_E, Iv dC dI g A f1 t.heap ∧ Kp g [9] f f1 ∧ ∃ (tb0 : Int32) (tb1 : Int32) (tb2 : Int32), (f1 h0 = .inr (9, [.int tb0, .int tb1, .int tb2])) ∧ (tSet p1.toInt p2.toInt ta0.toInt ta1.toInt ta2.toInt tb0.toInt tb1.toInt tb2.toInt)) A) 0 0 A := by
  refine Met.ofW (cc := cX9_set) (maxL := 3) (ret := none) (by decide) rfl ?_
  intro p e s m args below meth c s₁ B hml hv
  obtain ⟨rfl, hI, hK, hE⟩ := hv
  have hx := B.exec
  have hb := B.bytes
  have hr := B.returns
  have hts := atoms_spec (ws := wq_c_X9_set) B.pre
  have hown : s.vm.findClass RX9 = some m.cls := findClass_of_methodNamed B.named
  have hlocks := B.notSynchronized
  have hS : va_S A s.heap s.heap [] := va_S.rf
  have hk0 : Kp g [9] f f := Kp.rf
  have hl := lv_entry ([.ref h0, .int p1, .int p2]) (n := 3) (Nat.le_of_ble_eq_true rfl)
  rw [lg_entry_eq]
  generalize (lg_sl ([.ref h0, .int p1, .int p2]) ++ List.replicate (3 - (lg_sl ([.ref h0, .int p1, .int p2])).length) Slot.unset).toArray = ls at hl ⊢
  have hl : lv_has ls 3 [(0, .ref h0), (1, .int p1), (2, .int p2)] := hl
  refine lv_iload_n hx hb dX9_set_0 rfl (lv_at hl 1 rfl) ?_
  by_cases h_1 : p1 = 0
  · refine k_topi (y := 0) h_1 ?_
    refine lv_lookup (tgt := 28) hx hb dX9_set_1 (by decide) rfl (by decide) ?_
    have h_1 := kc_eq rfl (by decide : Int32.toInt 0 = 0) h_1
    refine lv_aload_n hx hb dX9_set_28 rfl (lv_at hl 0 rfl) ?_
    refine lv_iload_n hx hb dX9_set_29 rfl (lv_at hl 2 rfl) ?_
    refine k_put (ci := 9) (v := .int p2) (ty := .int) (C := RX9) (T := TX9) (N := 3) hx hb hts (fun _ h0_ => List.mem_cons_of_mem _ (List.mem_append_right _ (List.mem_append_left _ h0_))) tyX9 tyX9_ok nmX9 hown hK hI hS i_h0.1 hc0 rfl 0 (by decide) (hts (.fieldLink RX9 17 "DeadlineShare$Terms" "mode" "I") (List.mem_cons_of_mem _ (List.mem_append_left _ (List.mem_of_getElem? (i := 0) rfl)))) (fun _ h9 => h9) rfl (by decide +kernel) rfl rfl (Nat.le_of_ble_eq_true rfl) rfl (cl_9 i_h0) dX9_set_30 (fun f_2 H locs e_3 hI hS => ?_)
    have k_5 : f_2 h0 = .inr (9, [.int p2, .int ta1, .int ta2]) := by rw [e_3]; exact va_up_self _ _ _
    have kp_4 := Kp.put hk0 i_h0 (by decide) e_3
    refine lv_goto (tgt := 49) hx hb dX9_set_33 (by decide) ?_
    exact W.vret hx hb hr (fun t ht hW => ⟨⟨(), rfl, trivial, ⟨f_2, k_ret ht hI, kp_4, p2, ta1, ta2, k_5, (by unfold tSet; omega)⟩⟩, hS.F ht⟩) hS.2.2 dX9_set_49
  by_cases h_6 : p1 = 1
  · refine k_topi (y := 1) h_6 ?_
    refine lv_lookup (tgt := 36) hx hb dX9_set_1 (by decide) rfl (by decide) ?_
    have h_6 := kc_eq rfl (by decide : Int32.toInt 1 = 1) h_6
    refine lv_aload_n hx hb dX9_set_36 rfl (lv_at hl 0 rfl) ?_
    refine lv_iload_n hx hb dX9_set_37 rfl (lv_at hl 2 rfl) ?_
    refine k_put (ci := 9) (v := .int p2) (ty := .int) (C := RX9) (T := TX9) (N := 3) hx hb hts (fun _ h0_ => List.mem_cons_of_mem _ (List.mem_append_right _ (List.mem_append_left _ h0_))) tyX9 tyX9_ok nmX9 hown hK hI hS i_h0.1 hc0 rfl 1 (by decide) (hts (.fieldLink RX9 7 "DeadlineShare$Terms" "carry" "I") (List.mem_cons_of_mem _ (List.mem_append_left _ (List.mem_of_getElem? (i := 1) rfl)))) (fun _ h9 => h9) rfl (by decide +kernel) rfl rfl (Nat.le_of_ble_eq_true rfl) rfl (cl_9 i_h0) dX9_set_38 (fun f_7 H locs e_8 hI hS => ?_)
    have k_10 : f_7 h0 = .inr (9, [.int ta0, .int p2, .int ta2]) := by rw [e_8]; exact va_up_self _ _ _
    have kp_9 := Kp.put hk0 i_h0 (by decide) e_8
    refine lv_goto (tgt := 49) hx hb dX9_set_41 (by decide) ?_
    exact W.vret hx hb hr (fun t ht hW => ⟨⟨(), rfl, trivial, ⟨f_7, k_ret ht hI, kp_9, ta0, p2, ta2, k_10, (by unfold tSet; omega)⟩⟩, hS.F ht⟩) hS.2.2 dX9_set_49
  refine lv_lookup (off := 43) (tgt := 44) hx hb dX9_set_1 (by decide) ((lv_osw h_1 (by decide)).trans ((lv_osw h_6 (by decide)).trans rfl)) (by decide) ?_
  have h_1 := kn_eq rfl (by decide : Int32.toInt 0 = 0) h_1
  have h_6 := kn_eq rfl (by decide : Int32.toInt 1 = 1) h_6
  refine lv_aload_n hx hb dX9_set_44 rfl (lv_at hl 0 rfl) ?_
  refine lv_iload_n hx hb dX9_set_45 rfl (lv_at hl 2 rfl) ?_
  refine k_put (ci := 9) (v := .int p2) (ty := .int) (C := RX9) (T := TX9) (N := 3) hx hb hts (fun _ h0_ => List.mem_cons_of_mem _ (List.mem_append_right _ (List.mem_append_left _ h0_))) tyX9 tyX9_ok nmX9 hown hK hI hS i_h0.1 hc0 rfl 2 (by decide) (hts (.fieldLink RX9 13 "DeadlineShare$Terms" "seed" "I") (List.mem_cons_of_mem _ (List.mem_append_left _ (List.mem_of_getElem? (i := 2) rfl)))) (fun _ h9 => h9) rfl (by decide +kernel) rfl rfl (Nat.le_of_ble_eq_true rfl) rfl (cl_9 i_h0) dX9_set_46 (fun f_11 H locs e_12 hI hS => ?_)
  have k_14 : f_11 h0 = .inr (9, [.int ta0, .int ta1, .int p2]) := by rw [e_12]; exact va_up_self _ _ _
  have kp_13 := Kp.put hk0 i_h0 (by decide) e_12
  exact W.vret hx hb hr (fun t ht hW => ⟨⟨(), rfl, trivial, ⟨f_11, k_ret ht hI, kp_13, ta0, ta1, p2, k_14, (by unfold tSet; omega)⟩⟩, hS.F ht⟩) hS.2.2 dX9_set_49
theorem tu_X11 : ∀ w ∈ u_ws RX11 TX11 12, q_g w := by
  intro w h
  unfold u_ws at h
  obtain ⟨j, hj, rfl⟩ := List.mem_map.mp h
  have hj := List.mem_range.mp hj
  match j, hj with
  | 0, _ => exact ⟨(List.mem_append_right _ (List.mem_of_getElem? (i := 332) (by decide +kernel))), good_of_word (by decide +kernel)⟩
  | 1, _ => exact ⟨(List.mem_append_right _ (List.mem_of_getElem? (i := 334) (by decide +kernel))), good_of_word (by decide +kernel)⟩
  | 2, _ => exact ⟨(List.mem_append_right _ (List.mem_of_getElem? (i := 336) (by decide +kernel))), good_of_word (by decide +kernel)⟩
  | 3, _ => exact ⟨(List.mem_append_right _ (List.mem_of_getElem? (i := 338) (by decide +kernel))), good_of_word (by decide +kernel)⟩
  | 4, _ => exact ⟨(List.mem_append_right _ (List.mem_of_getElem? (i := 340) (by decide +kernel))), good_of_word (by decide +kernel)⟩
  | 5, _ => exact ⟨(List.mem_append_right _ (List.mem_of_getElem? (i := 342) (by decide +kernel))), good_of_word (by decide +kernel)⟩
  | 6, _ => exact ⟨(List.mem_append_right _ (List.mem_of_getElem? (i := 344) (by decide +kernel))), good_of_word (by decide +kernel)⟩
  | 7, _ => exact ⟨(List.mem_append_right _ (List.mem_of_getElem? (i := 346) (by decide +kernel))), good_of_word (by decide +kernel)⟩
  | 8, _ => exact ⟨(List.mem_append_right _ (List.mem_of_getElem? (i := 348) (by decide +kernel))), good_of_word (by decide +kernel)⟩
  | 9, _ => exact ⟨(List.mem_append_right _ (List.mem_of_getElem? (i := 350) (by decide +kernel))), good_of_word (by decide +kernel)⟩
  | 10, _ => exact ⟨(List.mem_append_right _ (List.mem_of_getElem? (i := 352) (by decide +kernel))), good_of_word (by decide +kernel)⟩
  | 11, _ => exact ⟨(List.mem_append_right _ (List.mem_of_getElem? (i := 354) (by decide +kernel))), good_of_word (by decide +kernel)⟩
  | (j9 + 12), h9 => exact absurd h9 (by omega)
theorem tw_516 : q_g (.selects RX4 yX4_add yX4_add) := ⟨(List.mem_append_right _ (List.mem_of_getElem? (i := 368) (by decide +kernel))), good_of_word (by decide +kernel)⟩
theorem tw_517 : q_g (.instanceMethod yX4_add) := ⟨(List.mem_append_right _ (List.mem_of_getElem? (i := 367) (by decide +kernel))), good_of_word (by decide +kernel)⟩
theorem tw_518 : q_g (.methodLink RX11 84 yX4_add) := ⟨(List.mem_append_right _ (List.mem_of_getElem? (i := 366) (by decide +kernel))), good_of_word (by decide +kernel)⟩
theorem tw_519 : q_g (.selects RX4 yX4_none yX4_none) := ⟨(List.mem_append_right _ (List.mem_of_getElem? (i := 383) (by decide +kernel))), good_of_word (by decide +kernel)⟩
theorem tw_520 : q_g (.instanceMethod yX4_none) := ⟨(List.mem_append_right _ (List.mem_of_getElem? (i := 382) (by decide +kernel))), good_of_word (by decide +kernel)⟩
theorem tw_521 : q_g (.methodLink RX11 95 yX4_none) := ⟨(List.mem_append_right _ (List.mem_of_getElem? (i := 381) (by decide +kernel))), good_of_word (by decide +kernel)⟩
theorem tw_522 : q_g (.fieldLink RX11 72 "DeadlineShare" "refusals" "LDeadlineShare$Refusals;") := ⟨(List.mem_append_right _ (List.mem_of_getElem? (i := 330) (by decide +kernel))), good_of_word (by decide +kernel)⟩
theorem tw_523 : q_g (.selects RX9 yX9_set yX9_set) := ⟨(List.mem_append_right _ (List.mem_of_getElem? (i := 379) (by decide +kernel))), good_of_word (by decide +kernel)⟩
theorem tw_524 : q_g (.instanceMethod yX9_set) := ⟨(List.mem_append_right _ (List.mem_of_getElem? (i := 378) (by decide +kernel))), good_of_word (by decide +kernel)⟩
theorem tw_525 : q_g (.methodLink RX11 91 yX9_set) := ⟨(List.mem_append_right _ (List.mem_of_getElem? (i := 377) (by decide +kernel))), good_of_word (by decide +kernel)⟩
theorem tw_526 : q_g (.selects RX9 yX9_get yX9_get) := ⟨(List.mem_append_right _ (List.mem_of_getElem? (i := 375) (by decide +kernel))), good_of_word (by decide +kernel)⟩
theorem tw_527 : q_g (.instanceMethod yX9_get) := ⟨(List.mem_append_right _ (List.mem_of_getElem? (i := 374) (by decide +kernel))), good_of_word (by decide +kernel)⟩
theorem tw_528 : q_g (.methodLink RX11 88 yX9_get) := ⟨(List.mem_append_right _ (List.mem_of_getElem? (i := 373) (by decide +kernel))), good_of_word (by decide +kernel)⟩
theorem tw_529 : q_g (.initialized RX9) := ⟨(List.mem_append_right _ (List.mem_of_getElem? (i := 2) (by decide +kernel))), good_of_word (by decide +kernel)⟩
theorem tw_530 : q_g (.selects RX9 yX9_allows yX9_allows) := ⟨(List.mem_append_right _ (List.mem_of_getElem? (i := 363) (by decide +kernel))), good_of_word (by decide +kernel)⟩
theorem tw_531 : q_g (.instanceMethod yX9_allows) := ⟨(List.mem_append_right _ (List.mem_of_getElem? (i := 362) (by decide +kernel))), good_of_word (by decide +kernel)⟩
theorem tw_532 : q_g (.methodLink RX11 80 yX9_allows) := ⟨(List.mem_append_right _ (List.mem_of_getElem? (i := 361) (by decide +kernel))), good_of_word (by decide +kernel)⟩
theorem tw_533 : q_g (.fieldLink RX11 12 "DeadlineShare" "terms" "LDeadlineShare$Terms;") := ⟨(List.mem_append_right _ (List.mem_of_getElem? (i := 320) (by decide +kernel))), good_of_word (by decide +kernel)⟩
theorem tw_534 : q_g (.code yX11_terms cX11_terms 4 (some .int)) := ⟨(List.mem_append_right _ (List.mem_of_getElem? (i := 360) (by decide +kernel))), good_of_word (by decide +kernel)⟩
def ow_c_X11_terms : List Cond := [.fieldLink RX11 12 "DeadlineShare" "terms" "LDeadlineShare$Terms;", .methodLink RX11 80 yX9_allows, .instanceMethod yX9_allows, .selects RX9 yX9_allows yX9_allows, .initialized RX9, .methodLink RX11 88 yX9_get, .instanceMethod yX9_get, .selects RX9 yX9_get yX9_get, .methodLink RX11 91 yX9_set, .instanceMethod yX9_set, .selects RX9 yX9_set yX9_set, .fieldLink RX11 72 "DeadlineShare" "refusals" "LDeadlineShare$Refusals;", .methodLink RX11 95 yX4_none, .instanceMethod yX4_none, .selects RX4 yX4_none yX4_none, .initialized RX4, .methodLink RX11 84 yX4_add, .instanceMethod yX4_add, .selects RX4 yX4_add yX4_add]
def wq_c_X11_terms : List Cond := .code yX11_terms cX11_terms 4 (some .int) :: (ow_c_X11_terms ++ (u_ws RX11 TX11 12 ++ (wq_c_X9_allows ++ (wq_c_X9_get ++ (wq_c_X9_set ++ (wq_c_X4_none ++ (wq_c_X4_add ++ ([] : List Cond))))))))
theorem tb_c_X11_terms : ∀ w ∈ wq_c_X11_terms, q_g w := by
  unfold wq_c_X11_terms ow_c_X11_terms
  exact q_cons tw_534 (q_app (q_cons tw_533 (q_cons tw_532 (q_cons tw_531 (q_cons tw_530 (q_cons tw_529 (q_cons tw_528 (q_cons tw_527 (q_cons tw_526 (q_cons tw_525 (q_cons tw_524 (q_cons tw_523 (q_cons tw_522 (q_cons tw_521 (q_cons tw_520 (q_cons tw_519 (q_cons tw_273 (q_cons tw_518 (q_cons tw_517 (q_cons tw_516 q_nil))))))))))))))))))) (q_app tu_X11 (q_app tb_c_X9_allows (q_app tb_c_X9_get (q_app tb_c_X9_set (q_app tb_c_X4_none (q_app tb_c_X4_add q_nil)))))))
set_option maxHeartbeats 4000000 in
set_option maxRecDepth 100000 in
theorem c_X11_terms (l : Launch) (dC : Nat → ClassId) (dI : Nat → Nat → Nat) (g : kG) (A : Nat → Prop) (hG : kWf g) (f : Nat → va_E) (h0 : Nat) (p1 : Int32) (p2 : Int32) (ta0 : Int32) (ta1 : Int32) (ta2 : Int32) (i_h0 : ik g 11 h0) (hc0 : f (gr g h0 0) = .inr (9, [.int ta0, .int ta1, .int ta2])) : Met l yX11_terms wq_c_X11_terms ({ frames := 2, cells := 0, slots := 0, locals := 41 } : Room) (va_Pc [.ref h0, .int p1, .int p2] (fun U => kIn dC dI g A f U)) (va_Qi (fun (r : Int32) (_ : Unit) => (tAl p1.toInt p2.toInt ∧ tGet p1.toInt ta0.toInt ta1.toInt ta2.toInt r.toInt) ∨ (¬ tAl p1.toInt p2.toInt ∧ r.toInt = -1)) (fun (_ : Unit) t => ∃ f1 : Nat → va_E, Iv dC dI g A f1 t.heap ∧ Kp g [4, 9, 28] f f1 ∧ ∃ (tb0 : Int32) (tb1 : Int32) (tb2 : Int32), (f1 (gr g h0 0) = .inr (9, [.int tb0, .int tb1, .int tb2])) ∧ ((tAl p1.toInt p2.toInt ∧ tSet p1.toInt p2.toInt ta0.toInt ta1.toInt ta2.toInt tb0.toInt tb1.toInt tb2.toInt) ∨ (¬ tAl p1.toInt p2.toInt ∧ tb0.toInt = ta0.toInt ∧ tb1.toInt = ta1.toInt ∧ tb2.toInt = ta2.toInt))) A) 0 0 A := by
  refine Met.ofW (cc := cX11_terms) (maxL := 4) (ret := (some .int)) (by decide) rfl ?_
  intro p e s m args below meth c s₁ B hml hv
  obtain ⟨rfl, hI, hK, hE⟩ := hv
  have hx := B.exec
  have hb := B.bytes
  have hr := B.returns
  have hts := atoms_spec (ws := wq_c_X11_terms) B.pre
  have hown : s.vm.findClass RX11 = some m.cls := findClass_of_methodNamed B.named
  have hlocks := B.notSynchronized
  have hS : va_S A s.heap s.heap [] := va_S.rf
  have hk0 : Kp g [4, 9, 28] f f := Kp.rf
  have hl := lv_entry ([.ref h0, .int p1, .int p2]) (n := 4) (Nat.le_of_ble_eq_true rfl)
  rw [lg_entry_eq]
  generalize (lg_sl ([.ref h0, .int p1, .int p2]) ++ List.replicate (4 - (lg_sl ([.ref h0, .int p1, .int p2])).length) Slot.unset).toArray = ls at hl ⊢
  have hl : lv_has ls 4 [(0, .ref h0), (1, .int p1), (2, .int p2)] := hl
  have i_1 := kw_11_0 hG i_h0
  refine lv_aload_n hx hb dX11_terms_0 rfl (lv_at hl 0 rfl) ?_
  obtain ⟨x_3, k_2⟩ := op_11 hI i_h0
  refine k_get (ci := 11) (v := .ref (gr g h0 0)) (C := RX11) (T := TX11) (N := 12) hx hb hts (fun _ h0_ => List.mem_cons_of_mem _ (List.mem_append_right _ (List.mem_append_left _ h0_))) hown hK hI i_h0.1 k_2 rfl 0 (by decide) (hts (.fieldLink RX11 12 "DeadlineShare" "terms" "LDeadlineShare$Terms;") (List.mem_cons_of_mem _ (List.mem_append_left _ (List.mem_of_getElem? (i := 0) rfl)))) (fun _ h9 => h9) rfl dX11_terms_1 ?_
  refine lv_iload_n hx hb dX11_terms_4 rfl (lv_at hl 1 rfl) ?_
  refine lv_iload_n hx hb dX11_terms_5 rfl (lv_at hl 2 rfl) ?_
  refine va_calli (va_runV (As := [.int p1, .int p2]) (rest := []) ⟨hx, hb, hml, hown, hts⟩ (c_X9_allows l dC dI g A hG f (gr g h0 0) p1 p2 i_1) (cwV 2 hts (gi_V (fun w_ h0_ => ⟨List.mem_cons_of_mem _ (List.mem_append_right _ (List.mem_append_right _ (List.mem_append_left _ h0_))), (tb_c_X9_allows w_ h0_).2⟩) (List.mem_cons_of_mem _ (List.mem_append_left _ (List.mem_of_getElem? (i := 1) rfl))) (List.mem_cons_of_mem _ (List.mem_append_left _ (List.mem_of_getElem? (i := 2) rfl))) (List.mem_cons_of_mem _ (List.mem_append_left _ (List.mem_of_getElem? (i := 3) rfl))) (List.mem_cons_of_mem _ (List.mem_append_left _ (List.mem_of_getElem? (i := 4) rfl)))) rfl rfl rfl (by decide +kernel) ⟨Nat.le_of_ble_eq_true rfl, Nat.le_of_ble_eq_true rfl⟩) ⟨fun a U g mk q => ⟨q.1, q.2.calling rfl rfl⟩, k_recv hK hI i_1.1 hc0 (ci := 9) rfl, fun U hU hW => ⟨rfl, kIn.of hI hK hE hS hU hW⟩⟩ rfl rfl hl.1 rfl (lv_room (Nat.le_of_ble_eq_true rfl)) dX11_terms_6 ⟨Nat.le_of_ble_eq_true rfl, Nat.le_of_ble_eq_true rfl⟩) hS (fun q _ h => h) (fun q h => h) (fun r_7 u t H1 locs ht hvm w_6 hB hz1 hk1 hS => ?_)
  have hI : Iv dC dI g A f t.heap := hB
  rw [ht] at hI
  generalize H1 = H at hI hS ⊢
  refine W.widen (k := 0) (n := 0) (Nat.le_of_ble_eq_true rfl) (Nat.le_of_ble_eq_true rfl) ?_
  have w_6 : (r_7.toInt = 1 ∧ tAl p1.toInt p2.toInt) ∨ (r_7.toInt = 0 ∧ ¬ tAl p1.toInt p2.toInt) := w_6
  refine lv_if_ne (tgt := 21) hx hb dX11_terms_9 (by decide) (fun c_8 => ?_) (fun c_8 => ?_)
  · have c_8 := kn_eq rfl (by decide : Int32.toInt 0 = 0) c_8
    refine lv_aload_n hx hb dX11_terms_21 rfl (lv_at hl 0 rfl) ?_
    refine k_get (ci := 11) (v := .ref (gr g h0 0)) (C := RX11) (T := TX11) (N := 12) hx hb hts (fun _ h0_ => List.mem_cons_of_mem _ (List.mem_append_right _ (List.mem_append_left _ h0_))) hown hK hI i_h0.1 k_2 rfl 0 (by decide) (hts (.fieldLink RX11 12 "DeadlineShare" "terms" "LDeadlineShare$Terms;") (List.mem_cons_of_mem _ (List.mem_append_left _ (List.mem_of_getElem? (i := 0) rfl)))) (fun _ h9 => h9) rfl dX11_terms_22 ?_
    refine lv_iload_n hx hb dX11_terms_25 rfl (lv_at hl 1 rfl) ?_
    refine va_calli (va_runV (As := [.int p1]) (rest := []) ⟨hx, hb, hml, hown, hts⟩ (c_X9_get l dC dI g A hG f (gr g h0 0) p1 ta0 ta1 ta2 i_1 hc0) (cwV 1 hts (gi_V (fun w_ h0_ => ⟨List.mem_cons_of_mem _ (List.mem_append_right _ (List.mem_append_right _ (List.mem_append_right _ (List.mem_append_left _ h0_)))), (tb_c_X9_get w_ h0_).2⟩) (List.mem_cons_of_mem _ (List.mem_append_left _ (List.mem_of_getElem? (i := 5) rfl))) (List.mem_cons_of_mem _ (List.mem_append_left _ (List.mem_of_getElem? (i := 6) rfl))) (List.mem_cons_of_mem _ (List.mem_append_left _ (List.mem_of_getElem? (i := 7) rfl))) (List.mem_cons_of_mem _ (List.mem_append_left _ (List.mem_of_getElem? (i := 4) rfl)))) rfl rfl rfl (by decide +kernel) ⟨Nat.le_of_ble_eq_true rfl, Nat.le_of_ble_eq_true rfl⟩) ⟨fun a U g mk q => ⟨q.1, q.2.calling rfl rfl⟩, k_recv hK hI i_1.1 hc0 (ci := 9) rfl, fun U hU hW => ⟨rfl, kIn.of hI hK hE hS hU hW⟩⟩ rfl rfl hl.1 rfl (lv_room (Nat.le_of_ble_eq_true rfl)) dX11_terms_26 ⟨Nat.le_of_ble_eq_true rfl, Nat.le_of_ble_eq_true rfl⟩) hS (fun q _ h => h) (fun q h => h) (fun r_12 u t H1 locs ht hvm w_11 hB hz1 hk1 hS => ?_)
    have hI : Iv dC dI g A f t.heap := hB
    rw [ht] at hI
    generalize H1 = H at hI hS ⊢
    refine W.widen (k := 0) (n := 0) (Nat.le_of_ble_eq_true rfl) (Nat.le_of_ble_eq_true rfl) ?_
    have w_11 : tGet p1.toInt ta0.toInt ta1.toInt ta2.toInt r_12.toInt := w_11
    refine lv_istore_n (lv' := [(3, .int r_12), (0, .ref h0), (1, .int p1), (2, .int p2)]) hx hb dX11_terms_29 rfl hl (by decide) rfl (fun ls hl => ?_)
    refine lv_aload_n hx hb dX11_terms_30 rfl (lv_at hl 1 rfl) ?_
    refine k_get (ci := 11) (v := .ref (gr g h0 0)) (C := RX11) (T := TX11) (N := 12) hx hb hts (fun _ h0_ => List.mem_cons_of_mem _ (List.mem_append_right _ (List.mem_append_left _ h0_))) hown hK hI i_h0.1 k_2 rfl 0 (by decide) (hts (.fieldLink RX11 12 "DeadlineShare" "terms" "LDeadlineShare$Terms;") (List.mem_cons_of_mem _ (List.mem_append_left _ (List.mem_of_getElem? (i := 0) rfl)))) (fun _ h9 => h9) rfl dX11_terms_31 ?_
    refine lv_iload_n hx hb dX11_terms_34 rfl (lv_at hl 2 rfl) ?_
    refine lv_iload_n hx hb dX11_terms_35 rfl (lv_at hl 3 rfl) ?_
    refine va_callv (va_runV (As := [.int p1, .int p2]) (rest := []) ⟨hx, hb, hml, hown, hts⟩ (c_X9_set l dC dI g A hG f (gr g h0 0) p1 p2 ta0 ta1 ta2 i_1 hc0) (cwV 2 hts (gi_V (fun w_ h0_ => ⟨List.mem_cons_of_mem _ (List.mem_append_right _ (List.mem_append_right _ (List.mem_append_right _ (List.mem_append_right _ (List.mem_append_left _ h0_))))), (tb_c_X9_set w_ h0_).2⟩) (List.mem_cons_of_mem _ (List.mem_append_left _ (List.mem_of_getElem? (i := 8) rfl))) (List.mem_cons_of_mem _ (List.mem_append_left _ (List.mem_of_getElem? (i := 9) rfl))) (List.mem_cons_of_mem _ (List.mem_append_left _ (List.mem_of_getElem? (i := 10) rfl))) (List.mem_cons_of_mem _ (List.mem_append_left _ (List.mem_of_getElem? (i := 4) rfl)))) rfl rfl rfl (by decide +kernel) ⟨Nat.le_of_ble_eq_true rfl, Nat.le_of_ble_eq_true rfl⟩) ⟨fun a U g mk q => ⟨q.1, q.2.calling rfl rfl⟩, k_recv hK hI i_1.1 hc0 (ci := 9) rfl, fun U hU hW => ⟨rfl, kIn.of hI hK hE hS hU hW⟩⟩ rfl rfl hl.1 rfl (lv_room (Nat.le_of_ble_eq_true rfl)) dX11_terms_36 ⟨Nat.le_of_ble_eq_true rfl, Nat.le_of_ble_eq_true rfl⟩) hS (fun q _ h => h) (fun q h => h) (fun u t H1 locs ht hvm _ hB hz1 hk1 hS => ?_)
    obtain ⟨f_15, hI, kc_17, tb0_18, tb1_19, tb2_20, k_21, z_22⟩ := hB
    rw [ht] at hI
    have k_23 : f_15 h0 = .inr (11, [.ref (gr g h0 0), .ref (gr g h0 1), .ref (gr g h0 2), .ref (gr g h0 3), .ref (gr g h0 4), .ref (gr g h0 5), .ref (gr g h0 6), .ref (gr g h0 7), .ref (gr g h0 8), .ref (gr g h0 9), .ref (gr g h0 10), .int x_3]) := Kp.at kc_17 i_h0 (by decide) k_2
    have k_21 : f_15 (gr g h0 0) = .inr (9, [.int tb0_18, .int tb1_19, .int tb2_20]) := k_21
    have z_22 : tSet p1.toInt p2.toInt ta0.toInt ta1.toInt ta2.toInt tb0_18.toInt tb1_19.toInt tb2_20.toInt := z_22
    have kp_24 := Kp.call hk0 kc_17 (by decide)
    generalize H1 = H at hI hS ⊢
    refine W.widen (k := 0) (n := 0) (Nat.le_of_ble_eq_true rfl) (Nat.le_of_ble_eq_true rfl) ?_
    refine lv_aload_n hx hb dX11_terms_39 rfl (lv_at hl 1 rfl) ?_
    refine k_get (ci := 11) (v := .ref (gr g h0 10)) (C := RX11) (T := TX11) (N := 12) hx hb hts (fun _ h0_ => List.mem_cons_of_mem _ (List.mem_append_right _ (List.mem_append_left _ h0_))) hown hK hI i_h0.1 k_23 rfl 10 (by decide) (hts (.fieldLink RX11 72 "DeadlineShare" "refusals" "LDeadlineShare$Refusals;") (List.mem_cons_of_mem _ (List.mem_append_left _ (List.mem_of_getElem? (i := 11) rfl)))) (fun _ h9 => h9) rfl dX11_terms_40 ?_
    have i_26 := kw_11_10 hG i_h0
    refine lv_iload_n hx hb dX11_terms_43 rfl (lv_at hl 0 rfl) ?_
    obtain ⟨x_28, k_27⟩ := op_4 hI i_26
    refine va_calli (va_runV (As := [.int r_12]) (rest := []) ⟨hx, hb, hml, hown, hts⟩ (c_X4_none l dC dI g A hG f_15 (gr g h0 10) r_12 i_26) (cwV 1 hts (gi_V (fun w_ h0_ => ⟨List.mem_cons_of_mem _ (List.mem_append_right _ (List.mem_append_right _ (List.mem_append_right _ (List.mem_append_right _ (List.mem_append_right _ (List.mem_append_left _ h0_)))))), (tb_c_X4_none w_ h0_).2⟩) (List.mem_cons_of_mem _ (List.mem_append_left _ (List.mem_of_getElem? (i := 12) rfl))) (List.mem_cons_of_mem _ (List.mem_append_left _ (List.mem_of_getElem? (i := 13) rfl))) (List.mem_cons_of_mem _ (List.mem_append_left _ (List.mem_of_getElem? (i := 14) rfl))) (List.mem_cons_of_mem _ (List.mem_append_left _ (List.mem_of_getElem? (i := 15) rfl)))) rfl rfl rfl (by decide +kernel) ⟨Nat.le_of_ble_eq_true rfl, Nat.le_of_ble_eq_true rfl⟩) ⟨fun a U g mk q => ⟨q.1, q.2.calling rfl rfl⟩, k_recv hK hI i_26.1 k_27 (ci := 4) rfl, fun U hU hW => ⟨rfl, kIn.of hI hK hE hS hU hW⟩⟩ rfl rfl hl.1 rfl (lv_room (Nat.le_of_ble_eq_true rfl)) dX11_terms_44 ⟨Nat.le_of_ble_eq_true rfl, Nat.le_of_ble_eq_true rfl⟩) hS (fun q _ h => h) (fun q h => h) (fun r_31 u t H1 locs ht hvm w_30 hB hz1 hk1 hS => ?_)
    obtain ⟨f_29, hI, kc_32⟩ := hB
    rw [ht] at hI
    have k_33 : f_29 h0 = .inr (11, [.ref (gr g h0 0), .ref (gr g h0 1), .ref (gr g h0 2), .ref (gr g h0 3), .ref (gr g h0 4), .ref (gr g h0 5), .ref (gr g h0 6), .ref (gr g h0 7), .ref (gr g h0 8), .ref (gr g h0 9), .ref (gr g h0 10), .int x_3]) := Kp.at kc_32 i_h0 (by decide) k_23
    have k_34 : f_29 (gr g h0 0) = .inr (9, [.int tb0_18, .int tb1_19, .int tb2_20]) := Kp.at kc_32 i_1 (by decide) k_21
    have kp_35 := Kp.call kp_24 kc_32 (by decide)
    generalize H1 = H at hI hS ⊢
    refine W.widen (k := 0) (n := 0) (Nat.le_of_ble_eq_true rfl) (Nat.le_of_ble_eq_true rfl) ?_
    have w_30 : r_31.toInt = r_12.toInt := w_30
    exact W.iret (v := r_31) hx hb hr (fun t ht hW => ⟨⟨r_31, (), rfl, (Or.inl ⟨tal1 w_6 (by omega), by rw [w_30]; exact w_11⟩), ⟨f_29, k_ret ht hI, kp_35, tb0_18, tb1_19, tb2_20, k_34, (Or.inl ⟨tal1 w_6 (by omega), z_22⟩)⟩⟩, hS.F ht⟩) hS.2.2 dX11_terms_47
  · have c_8 := kc_eq rfl (by decide : Int32.toInt 0 = 0) c_8
    refine lv_aload_n hx hb dX11_terms_12 rfl (lv_at hl 0 rfl) ?_
    refine k_get (ci := 11) (v := .ref (gr g h0 10)) (C := RX11) (T := TX11) (N := 12) hx hb hts (fun _ h0_ => List.mem_cons_of_mem _ (List.mem_append_right _ (List.mem_append_left _ h0_))) hown hK hI i_h0.1 k_2 rfl 10 (by decide) (hts (.fieldLink RX11 72 "DeadlineShare" "refusals" "LDeadlineShare$Refusals;") (List.mem_cons_of_mem _ (List.mem_append_left _ (List.mem_of_getElem? (i := 11) rfl)))) (fun _ h9 => h9) rfl dX11_terms_13 ?_
    have i_37 := kw_11_10 hG i_h0
    refine lv_iconst (v := (-1)) hx hb dX11_terms_16 (by decide) ?_
    obtain ⟨x_39, k_38⟩ := op_4 hI i_37
    refine va_calli (va_runV (As := [.int (-1)]) (rest := []) ⟨hx, hb, hml, hown, hts⟩ (c_X4_add l dC dI g A hG f (gr g h0 10) (-1) i_37) (cwV 1 hts (gi_V (fun w_ h0_ => ⟨List.mem_cons_of_mem _ (List.mem_append_right _ (List.mem_append_right _ (List.mem_append_right _ (List.mem_append_right _ (List.mem_append_right _ (List.mem_append_right _ (List.mem_append_left _ h0_))))))), (tb_c_X4_add w_ h0_).2⟩) (List.mem_cons_of_mem _ (List.mem_append_left _ (List.mem_of_getElem? (i := 16) rfl))) (List.mem_cons_of_mem _ (List.mem_append_left _ (List.mem_of_getElem? (i := 17) rfl))) (List.mem_cons_of_mem _ (List.mem_append_left _ (List.mem_of_getElem? (i := 18) rfl))) (List.mem_cons_of_mem _ (List.mem_append_left _ (List.mem_of_getElem? (i := 15) rfl)))) rfl rfl rfl (by decide +kernel) ⟨Nat.le_of_ble_eq_true rfl, Nat.le_of_ble_eq_true rfl⟩) ⟨fun a U g mk q => ⟨q.1, q.2.calling rfl rfl⟩, k_recv hK hI i_37.1 k_38 (ci := 4) rfl, fun U hU hW => ⟨rfl, kIn.of hI hK hE hS hU hW⟩⟩ rfl rfl hl.1 rfl (lv_room (Nat.le_of_ble_eq_true rfl)) dX11_terms_17 ⟨Nat.le_of_ble_eq_true rfl, Nat.le_of_ble_eq_true rfl⟩) hS (fun q _ h => h) (fun q h => h) (fun r_42 u t H1 locs ht hvm w_41 hB hz1 hk1 hS => ?_)
    obtain ⟨f_40, hI, kc_43⟩ := hB
    rw [ht] at hI
    have k_44 : f_40 (gr g h0 0) = .inr (9, [.int ta0, .int ta1, .int ta2]) := Kp.at kc_43 i_1 (by decide) hc0
    have k_45 : f_40 h0 = .inr (11, [.ref (gr g h0 0), .ref (gr g h0 1), .ref (gr g h0 2), .ref (gr g h0 3), .ref (gr g h0 4), .ref (gr g h0 5), .ref (gr g h0 6), .ref (gr g h0 7), .ref (gr g h0 8), .ref (gr g h0 9), .ref (gr g h0 10), .int x_3]) := Kp.at kc_43 i_h0 (by decide) k_2
    have kp_46 := Kp.call hk0 kc_43 (by decide)
    generalize H1 = H at hI hS ⊢
    refine W.widen (k := 0) (n := 0) (Nat.le_of_ble_eq_true rfl) (Nat.le_of_ble_eq_true rfl) ?_
    have w_41 : r_42.toInt = (-1 : Int32).toInt := w_41
    exact W.iret (v := r_42) hx hb hr (fun t ht hW => ⟨⟨r_42, (), rfl, (Or.inr ⟨tal0 w_6 (by omega), by rw [w_41]; decide⟩), ⟨f_40, k_ret ht hI, kp_46, ta0, ta1, ta2, k_44, (Or.inr ⟨tal0 w_6 (by omega), rfl, rfl, rfl⟩)⟩⟩, hS.F ht⟩) hS.2.2 dX11_terms_20
theorem tw_535 : q_g (.fieldLink RX11 106 "DeadlineShare$Tape" "length" "I") := ⟨(List.mem_append_right _ (List.mem_of_getElem? (i := 59) (by decide +kernel))), good_of_word (by decide +kernel)⟩
theorem tw_536 : q_g (.selects RX7 yX7_addFour yX7_addFour) := ⟨(List.mem_append_right _ (List.mem_of_getElem? (i := 395) (by decide +kernel))), good_of_word (by decide +kernel)⟩
theorem tw_537 : q_g (.instanceMethod yX7_addFour) := ⟨(List.mem_append_right _ (List.mem_of_getElem? (i := 394) (by decide +kernel))), good_of_word (by decide +kernel)⟩
theorem tw_538 : q_g (.methodLink RX11 102 yX7_addFour) := ⟨(List.mem_append_right _ (List.mem_of_getElem? (i := 393) (by decide +kernel))), good_of_word (by decide +kernel)⟩
theorem tw_539 : q_g (.selects RX7 yX7_hasRoomForFive yX7_hasRoomForFive) := ⟨(List.mem_append_right _ (List.mem_of_getElem? (i := 391) (by decide +kernel))), good_of_word (by decide +kernel)⟩
theorem tw_540 : q_g (.instanceMethod yX7_hasRoomForFive) := ⟨(List.mem_append_right _ (List.mem_of_getElem? (i := 390) (by decide +kernel))), good_of_word (by decide +kernel)⟩
theorem tw_541 : q_g (.methodLink RX11 98 yX7_hasRoomForFive) := ⟨(List.mem_append_right _ (List.mem_of_getElem? (i := 389) (by decide +kernel))), good_of_word (by decide +kernel)⟩
theorem tw_542 : q_g (.fieldLink RX11 21 "DeadlineShare" "tape" "LDeadlineShare$Tape;") := ⟨(List.mem_append_right _ (List.mem_of_getElem? (i := 321) (by decide +kernel))), good_of_word (by decide +kernel)⟩
theorem tw_543 : q_g (.code yX11_feed cX11_feed 6 (some .int)) := ⟨(List.mem_append_right _ (List.mem_of_getElem? (i := 388) (by decide +kernel))), good_of_word (by decide +kernel)⟩
def ow_c_X11_feed : List Cond := [.fieldLink RX11 21 "DeadlineShare" "tape" "LDeadlineShare$Tape;", .methodLink RX11 98 yX7_hasRoomForFive, .instanceMethod yX7_hasRoomForFive, .selects RX7 yX7_hasRoomForFive yX7_hasRoomForFive, .initialized RX7, .methodLink RX11 102 yX7_addFour, .instanceMethod yX7_addFour, .selects RX7 yX7_addFour yX7_addFour, .fieldLink RX11 106 "DeadlineShare$Tape" "length" "I"]
def wq_c_X11_feed : List Cond := .code yX11_feed cX11_feed 6 (some .int) :: (ow_c_X11_feed ++ (u_ws RX11 TX11 12 ++ (wq_c_X7_hasRoomForFive ++ (wq_c_X7_addFour ++ (u_ws RX7 TX7 2 ++ ([] : List Cond))))))
theorem tb_c_X11_feed : ∀ w ∈ wq_c_X11_feed, q_g w := by
  unfold wq_c_X11_feed ow_c_X11_feed
  exact q_cons tw_543 (q_app (q_cons tw_542 (q_cons tw_541 (q_cons tw_540 (q_cons tw_539 (q_cons tw_192 (q_cons tw_538 (q_cons tw_537 (q_cons tw_536 (q_cons tw_535 q_nil))))))))) (q_app tu_X11 (q_app tb_c_X7_hasRoomForFive (q_app tb_c_X7_addFour (q_app tu_X7 q_nil)))))
set_option maxHeartbeats 4000000 in
set_option maxRecDepth 100000 in
theorem c_X11_feed (l : Launch) (dC : Nat → ClassId) (dI : Nat → Nat → Nat) (g : kG) (A : Nat → Prop) (hG : kWf g) (f : Nat → va_E) (h0 : Nat) (p1 : Int32) (p2 : Int32) (p3 : Int32) (p4 : Int32) (p5 : Int32) (i_h0 : ik g 11 h0) : Met l yX11_feed wq_c_X11_feed ({ frames := 2, cells := 0, slots := 0, locals := 42 } : Room) (va_Pc [.ref h0, .int p1, .int p2, .int p3, .int p4, .int p5] (fun U => kIn dC dI g A f U)) (va_Qi (fun (r : Int32) (_ : Unit) => True) (fun (_ : Unit) t => ∃ f1 : Nat → va_E, Iv dC dI g A f1 t.heap ∧ Kp g [7, 25] f f1) A) 0 0 A := by
  refine Met.ofW (cc := cX11_feed) (maxL := 6) (ret := (some .int)) (by decide) rfl ?_
  intro p e s m args below meth c s₁ B hml hv
  obtain ⟨rfl, hI, hK, hE⟩ := hv
  have hx := B.exec
  have hb := B.bytes
  have hr := B.returns
  have hts := atoms_spec (ws := wq_c_X11_feed) B.pre
  have hown : s.vm.findClass RX11 = some m.cls := findClass_of_methodNamed B.named
  have hlocks := B.notSynchronized
  have hS : va_S A s.heap s.heap [] := va_S.rf
  have hk0 : Kp g [7, 25] f f := Kp.rf
  have hl := lv_entry ([.ref h0, .int p1, .int p2, .int p3, .int p4, .int p5]) (n := 6) (Nat.le_of_ble_eq_true rfl)
  rw [lg_entry_eq]
  generalize (lg_sl ([.ref h0, .int p1, .int p2, .int p3, .int p4, .int p5]) ++ List.replicate (6 - (lg_sl ([.ref h0, .int p1, .int p2, .int p3, .int p4, .int p5])).length) Slot.unset).toArray = ls at hl ⊢
  have hl : lv_has ls 6 [(0, .ref h0), (1, .int p1), (2, .int p2), (3, .int p3), (4, .int p4), (5, .int p5)] := hl
  refine lv_aload_n hx hb dX11_feed_0 rfl (lv_at hl 0 rfl) ?_
  obtain ⟨x_2, k_1⟩ := op_11 hI i_h0
  refine k_get (ci := 11) (v := .ref (gr g h0 1)) (C := RX11) (T := TX11) (N := 12) hx hb hts (fun _ h0_ => List.mem_cons_of_mem _ (List.mem_append_right _ (List.mem_append_left _ h0_))) hown hK hI i_h0.1 k_1 rfl 1 (by decide) (hts (.fieldLink RX11 21 "DeadlineShare" "tape" "LDeadlineShare$Tape;") (List.mem_cons_of_mem _ (List.mem_append_left _ (List.mem_of_getElem? (i := 0) rfl)))) (fun _ h9 => h9) rfl dX11_feed_1 ?_
  have i_4 := kw_11_1 hG i_h0
  obtain ⟨x_6, k_5⟩ := op_7 hI i_4
  refine va_calli (va_runV (As := []) (rest := []) ⟨hx, hb, hml, hown, hts⟩ (c_X7_hasRoomForFive l dC dI g A hG f (gr g h0 1) i_4) (cwV 0 hts (gi_V (fun w_ h0_ => ⟨List.mem_cons_of_mem _ (List.mem_append_right _ (List.mem_append_right _ (List.mem_append_left _ h0_))), (tb_c_X7_hasRoomForFive w_ h0_).2⟩) (List.mem_cons_of_mem _ (List.mem_append_left _ (List.mem_of_getElem? (i := 1) rfl))) (List.mem_cons_of_mem _ (List.mem_append_left _ (List.mem_of_getElem? (i := 2) rfl))) (List.mem_cons_of_mem _ (List.mem_append_left _ (List.mem_of_getElem? (i := 3) rfl))) (List.mem_cons_of_mem _ (List.mem_append_left _ (List.mem_of_getElem? (i := 4) rfl)))) rfl rfl rfl (by decide +kernel) ⟨Nat.le_of_ble_eq_true rfl, Nat.le_of_ble_eq_true rfl⟩) ⟨fun a U g mk q => ⟨q.1, q.2.calling rfl rfl⟩, k_recv hK hI i_4.1 k_5 (ci := 7) rfl, fun U hU hW => ⟨rfl, kIn.of hI hK hE hS hU hW⟩⟩ rfl rfl hl.1 rfl (lv_room (Nat.le_of_ble_eq_true rfl)) dX11_feed_4 ⟨Nat.le_of_ble_eq_true rfl, Nat.le_of_ble_eq_true rfl⟩) hS (fun q _ h => h) (fun q h => h) (fun r_8 u t H1 locs ht hvm w_7 hB hz1 hk1 hS => ?_)
  have hI : Iv dC dI g A f t.heap := hB
  rw [ht] at hI
  generalize H1 = H at hI hS ⊢
  refine W.widen (k := 0) (n := 0) (Nat.le_of_ble_eq_true rfl) (Nat.le_of_ble_eq_true rfl) ?_
  refine lv_if_ne (tgt := 12) hx hb dX11_feed_7 (by decide) (fun c_9 => ?_) (fun c_9 => ?_)
  · have c_9 := kn_eq rfl (by decide : Int32.toInt 0 = 0) c_9
    refine lv_aload_n hx hb dX11_feed_12 rfl (lv_at hl 0 rfl) ?_
    refine k_get (ci := 11) (v := .ref (gr g h0 1)) (C := RX11) (T := TX11) (N := 12) hx hb hts (fun _ h0_ => List.mem_cons_of_mem _ (List.mem_append_right _ (List.mem_append_left _ h0_))) hown hK hI i_h0.1 k_1 rfl 1 (by decide) (hts (.fieldLink RX11 21 "DeadlineShare" "tape" "LDeadlineShare$Tape;") (List.mem_cons_of_mem _ (List.mem_append_left _ (List.mem_of_getElem? (i := 0) rfl)))) (fun _ h9 => h9) rfl dX11_feed_13 ?_
    refine lv_iload_n hx hb dX11_feed_16 rfl (lv_at hl 1 rfl) ?_
    refine va_callv (va_runV (As := [.int p1]) (rest := []) ⟨hx, hb, hml, hown, hts⟩ (c_X7_addFour l dC dI g A hG f (gr g h0 1) p1 i_4) (cwV 1 hts (gi_V (fun w_ h0_ => ⟨List.mem_cons_of_mem _ (List.mem_append_right _ (List.mem_append_right _ (List.mem_append_right _ (List.mem_append_left _ h0_)))), (tb_c_X7_addFour w_ h0_).2⟩) (List.mem_cons_of_mem _ (List.mem_append_left _ (List.mem_of_getElem? (i := 5) rfl))) (List.mem_cons_of_mem _ (List.mem_append_left _ (List.mem_of_getElem? (i := 6) rfl))) (List.mem_cons_of_mem _ (List.mem_append_left _ (List.mem_of_getElem? (i := 7) rfl))) (List.mem_cons_of_mem _ (List.mem_append_left _ (List.mem_of_getElem? (i := 4) rfl)))) rfl rfl rfl (by decide +kernel) ⟨Nat.le_of_ble_eq_true rfl, Nat.le_of_ble_eq_true rfl⟩) ⟨fun a U g mk q => ⟨q.1, q.2.calling rfl rfl⟩, k_recv hK hI i_4.1 k_5 (ci := 7) rfl, fun U hU hW => ⟨rfl, kIn.of hI hK hE hS hU hW⟩⟩ rfl rfl hl.1 rfl (lv_room (Nat.le_of_ble_eq_true rfl)) dX11_feed_17 ⟨Nat.le_of_ble_eq_true rfl, Nat.le_of_ble_eq_true rfl⟩) hS (fun q _ h => h) (fun q h => h) (fun u t H1 locs ht hvm _ hB hz1 hk1 hS => ?_)
    obtain ⟨f_12, hI, kc_14⟩ := hB
    rw [ht] at hI
    have k_15 : f_12 h0 = .inr (11, [.ref (gr g h0 0), .ref (gr g h0 1), .ref (gr g h0 2), .ref (gr g h0 3), .ref (gr g h0 4), .ref (gr g h0 5), .ref (gr g h0 6), .ref (gr g h0 7), .ref (gr g h0 8), .ref (gr g h0 9), .ref (gr g h0 10), .int x_2]) := Kp.at kc_14 i_h0 (by decide) k_1
    have kp_16 := Kp.call hk0 kc_14 (by decide)
    generalize H1 = H at hI hS ⊢
    refine W.widen (k := 0) (n := 0) (Nat.le_of_ble_eq_true rfl) (Nat.le_of_ble_eq_true rfl) ?_
    refine lv_aload_n hx hb dX11_feed_20 rfl (lv_at hl 0 rfl) ?_
    refine k_get (ci := 11) (v := .ref (gr g h0 1)) (C := RX11) (T := TX11) (N := 12) hx hb hts (fun _ h0_ => List.mem_cons_of_mem _ (List.mem_append_right _ (List.mem_append_left _ h0_))) hown hK hI i_h0.1 k_15 rfl 1 (by decide) (hts (.fieldLink RX11 21 "DeadlineShare" "tape" "LDeadlineShare$Tape;") (List.mem_cons_of_mem _ (List.mem_append_left _ (List.mem_of_getElem? (i := 0) rfl)))) (fun _ h9 => h9) rfl dX11_feed_21 ?_
    refine lv_iload_n hx hb dX11_feed_24 rfl (lv_at hl 2 rfl) ?_
    obtain ⟨x_20, k_19⟩ := op_7 hI i_4
    refine va_callv (va_runV (As := [.int p2]) (rest := []) ⟨hx, hb, hml, hown, hts⟩ (c_X7_addFour l dC dI g A hG f_12 (gr g h0 1) p2 i_4) (cwV 1 hts (gi_V (fun w_ h0_ => ⟨List.mem_cons_of_mem _ (List.mem_append_right _ (List.mem_append_right _ (List.mem_append_right _ (List.mem_append_left _ h0_)))), (tb_c_X7_addFour w_ h0_).2⟩) (List.mem_cons_of_mem _ (List.mem_append_left _ (List.mem_of_getElem? (i := 5) rfl))) (List.mem_cons_of_mem _ (List.mem_append_left _ (List.mem_of_getElem? (i := 6) rfl))) (List.mem_cons_of_mem _ (List.mem_append_left _ (List.mem_of_getElem? (i := 7) rfl))) (List.mem_cons_of_mem _ (List.mem_append_left _ (List.mem_of_getElem? (i := 4) rfl)))) rfl rfl rfl (by decide +kernel) ⟨Nat.le_of_ble_eq_true rfl, Nat.le_of_ble_eq_true rfl⟩) ⟨fun a U g mk q => ⟨q.1, q.2.calling rfl rfl⟩, k_recv hK hI i_4.1 k_19 (ci := 7) rfl, fun U hU hW => ⟨rfl, kIn.of hI hK hE hS hU hW⟩⟩ rfl rfl hl.1 rfl (lv_room (Nat.le_of_ble_eq_true rfl)) dX11_feed_25 ⟨Nat.le_of_ble_eq_true rfl, Nat.le_of_ble_eq_true rfl⟩) hS (fun q _ h => h) (fun q h => h) (fun u t H1 locs ht hvm _ hB hz1 hk1 hS => ?_)
    obtain ⟨f_21, hI, kc_23⟩ := hB
    rw [ht] at hI
    have k_24 : f_21 h0 = .inr (11, [.ref (gr g h0 0), .ref (gr g h0 1), .ref (gr g h0 2), .ref (gr g h0 3), .ref (gr g h0 4), .ref (gr g h0 5), .ref (gr g h0 6), .ref (gr g h0 7), .ref (gr g h0 8), .ref (gr g h0 9), .ref (gr g h0 10), .int x_2]) := Kp.at kc_23 i_h0 (by decide) k_15
    have kp_25 := Kp.call kp_16 kc_23 (by decide)
    generalize H1 = H at hI hS ⊢
    refine W.widen (k := 0) (n := 0) (Nat.le_of_ble_eq_true rfl) (Nat.le_of_ble_eq_true rfl) ?_
    refine lv_aload_n hx hb dX11_feed_28 rfl (lv_at hl 0 rfl) ?_
    refine k_get (ci := 11) (v := .ref (gr g h0 1)) (C := RX11) (T := TX11) (N := 12) hx hb hts (fun _ h0_ => List.mem_cons_of_mem _ (List.mem_append_right _ (List.mem_append_left _ h0_))) hown hK hI i_h0.1 k_24 rfl 1 (by decide) (hts (.fieldLink RX11 21 "DeadlineShare" "tape" "LDeadlineShare$Tape;") (List.mem_cons_of_mem _ (List.mem_append_left _ (List.mem_of_getElem? (i := 0) rfl)))) (fun _ h9 => h9) rfl dX11_feed_29 ?_
    refine lv_iload_n hx hb dX11_feed_32 rfl (lv_at hl 3 rfl) ?_
    obtain ⟨x_29, k_28⟩ := op_7 hI i_4
    refine va_callv (va_runV (As := [.int p3]) (rest := []) ⟨hx, hb, hml, hown, hts⟩ (c_X7_addFour l dC dI g A hG f_21 (gr g h0 1) p3 i_4) (cwV 1 hts (gi_V (fun w_ h0_ => ⟨List.mem_cons_of_mem _ (List.mem_append_right _ (List.mem_append_right _ (List.mem_append_right _ (List.mem_append_left _ h0_)))), (tb_c_X7_addFour w_ h0_).2⟩) (List.mem_cons_of_mem _ (List.mem_append_left _ (List.mem_of_getElem? (i := 5) rfl))) (List.mem_cons_of_mem _ (List.mem_append_left _ (List.mem_of_getElem? (i := 6) rfl))) (List.mem_cons_of_mem _ (List.mem_append_left _ (List.mem_of_getElem? (i := 7) rfl))) (List.mem_cons_of_mem _ (List.mem_append_left _ (List.mem_of_getElem? (i := 4) rfl)))) rfl rfl rfl (by decide +kernel) ⟨Nat.le_of_ble_eq_true rfl, Nat.le_of_ble_eq_true rfl⟩) ⟨fun a U g mk q => ⟨q.1, q.2.calling rfl rfl⟩, k_recv hK hI i_4.1 k_28 (ci := 7) rfl, fun U hU hW => ⟨rfl, kIn.of hI hK hE hS hU hW⟩⟩ rfl rfl hl.1 rfl (lv_room (Nat.le_of_ble_eq_true rfl)) dX11_feed_33 ⟨Nat.le_of_ble_eq_true rfl, Nat.le_of_ble_eq_true rfl⟩) hS (fun q _ h => h) (fun q h => h) (fun u t H1 locs ht hvm _ hB hz1 hk1 hS => ?_)
    obtain ⟨f_30, hI, kc_32⟩ := hB
    rw [ht] at hI
    have k_33 : f_30 h0 = .inr (11, [.ref (gr g h0 0), .ref (gr g h0 1), .ref (gr g h0 2), .ref (gr g h0 3), .ref (gr g h0 4), .ref (gr g h0 5), .ref (gr g h0 6), .ref (gr g h0 7), .ref (gr g h0 8), .ref (gr g h0 9), .ref (gr g h0 10), .int x_2]) := Kp.at kc_32 i_h0 (by decide) k_24
    have kp_34 := Kp.call kp_25 kc_32 (by decide)
    generalize H1 = H at hI hS ⊢
    refine W.widen (k := 0) (n := 0) (Nat.le_of_ble_eq_true rfl) (Nat.le_of_ble_eq_true rfl) ?_
    refine lv_aload_n hx hb dX11_feed_36 rfl (lv_at hl 0 rfl) ?_
    refine k_get (ci := 11) (v := .ref (gr g h0 1)) (C := RX11) (T := TX11) (N := 12) hx hb hts (fun _ h0_ => List.mem_cons_of_mem _ (List.mem_append_right _ (List.mem_append_left _ h0_))) hown hK hI i_h0.1 k_33 rfl 1 (by decide) (hts (.fieldLink RX11 21 "DeadlineShare" "tape" "LDeadlineShare$Tape;") (List.mem_cons_of_mem _ (List.mem_append_left _ (List.mem_of_getElem? (i := 0) rfl)))) (fun _ h9 => h9) rfl dX11_feed_37 ?_
    refine lv_iload hx hb dX11_feed_40 (lv_at hl 4 rfl) ?_
    obtain ⟨x_38, k_37⟩ := op_7 hI i_4
    refine va_callv (va_runV (As := [.int p4]) (rest := []) ⟨hx, hb, hml, hown, hts⟩ (c_X7_addFour l dC dI g A hG f_30 (gr g h0 1) p4 i_4) (cwV 1 hts (gi_V (fun w_ h0_ => ⟨List.mem_cons_of_mem _ (List.mem_append_right _ (List.mem_append_right _ (List.mem_append_right _ (List.mem_append_left _ h0_)))), (tb_c_X7_addFour w_ h0_).2⟩) (List.mem_cons_of_mem _ (List.mem_append_left _ (List.mem_of_getElem? (i := 5) rfl))) (List.mem_cons_of_mem _ (List.mem_append_left _ (List.mem_of_getElem? (i := 6) rfl))) (List.mem_cons_of_mem _ (List.mem_append_left _ (List.mem_of_getElem? (i := 7) rfl))) (List.mem_cons_of_mem _ (List.mem_append_left _ (List.mem_of_getElem? (i := 4) rfl)))) rfl rfl rfl (by decide +kernel) ⟨Nat.le_of_ble_eq_true rfl, Nat.le_of_ble_eq_true rfl⟩) ⟨fun a U g mk q => ⟨q.1, q.2.calling rfl rfl⟩, k_recv hK hI i_4.1 k_37 (ci := 7) rfl, fun U hU hW => ⟨rfl, kIn.of hI hK hE hS hU hW⟩⟩ rfl rfl hl.1 rfl (lv_room (Nat.le_of_ble_eq_true rfl)) dX11_feed_42 ⟨Nat.le_of_ble_eq_true rfl, Nat.le_of_ble_eq_true rfl⟩) hS (fun q _ h => h) (fun q h => h) (fun u t H1 locs ht hvm _ hB hz1 hk1 hS => ?_)
    obtain ⟨f_39, hI, kc_41⟩ := hB
    rw [ht] at hI
    have k_42 : f_39 h0 = .inr (11, [.ref (gr g h0 0), .ref (gr g h0 1), .ref (gr g h0 2), .ref (gr g h0 3), .ref (gr g h0 4), .ref (gr g h0 5), .ref (gr g h0 6), .ref (gr g h0 7), .ref (gr g h0 8), .ref (gr g h0 9), .ref (gr g h0 10), .int x_2]) := Kp.at kc_41 i_h0 (by decide) k_33
    have kp_43 := Kp.call kp_34 kc_41 (by decide)
    generalize H1 = H at hI hS ⊢
    refine W.widen (k := 0) (n := 0) (Nat.le_of_ble_eq_true rfl) (Nat.le_of_ble_eq_true rfl) ?_
    refine lv_aload_n hx hb dX11_feed_45 rfl (lv_at hl 0 rfl) ?_
    refine k_get (ci := 11) (v := .ref (gr g h0 1)) (C := RX11) (T := TX11) (N := 12) hx hb hts (fun _ h0_ => List.mem_cons_of_mem _ (List.mem_append_right _ (List.mem_append_left _ h0_))) hown hK hI i_h0.1 k_42 rfl 1 (by decide) (hts (.fieldLink RX11 21 "DeadlineShare" "tape" "LDeadlineShare$Tape;") (List.mem_cons_of_mem _ (List.mem_append_left _ (List.mem_of_getElem? (i := 0) rfl)))) (fun _ h9 => h9) rfl dX11_feed_46 ?_
    refine lv_iload hx hb dX11_feed_49 (lv_at hl 5 rfl) ?_
    obtain ⟨x_47, k_46⟩ := op_7 hI i_4
    refine va_callv (va_runV (As := [.int p5]) (rest := []) ⟨hx, hb, hml, hown, hts⟩ (c_X7_addFour l dC dI g A hG f_39 (gr g h0 1) p5 i_4) (cwV 1 hts (gi_V (fun w_ h0_ => ⟨List.mem_cons_of_mem _ (List.mem_append_right _ (List.mem_append_right _ (List.mem_append_right _ (List.mem_append_left _ h0_)))), (tb_c_X7_addFour w_ h0_).2⟩) (List.mem_cons_of_mem _ (List.mem_append_left _ (List.mem_of_getElem? (i := 5) rfl))) (List.mem_cons_of_mem _ (List.mem_append_left _ (List.mem_of_getElem? (i := 6) rfl))) (List.mem_cons_of_mem _ (List.mem_append_left _ (List.mem_of_getElem? (i := 7) rfl))) (List.mem_cons_of_mem _ (List.mem_append_left _ (List.mem_of_getElem? (i := 4) rfl)))) rfl rfl rfl (by decide +kernel) ⟨Nat.le_of_ble_eq_true rfl, Nat.le_of_ble_eq_true rfl⟩) ⟨fun a U g mk q => ⟨q.1, q.2.calling rfl rfl⟩, k_recv hK hI i_4.1 k_46 (ci := 7) rfl, fun U hU hW => ⟨rfl, kIn.of hI hK hE hS hU hW⟩⟩ rfl rfl hl.1 rfl (lv_room (Nat.le_of_ble_eq_true rfl)) dX11_feed_51 ⟨Nat.le_of_ble_eq_true rfl, Nat.le_of_ble_eq_true rfl⟩) hS (fun q _ h => h) (fun q h => h) (fun u t H1 locs ht hvm _ hB hz1 hk1 hS => ?_)
    obtain ⟨f_48, hI, kc_50⟩ := hB
    rw [ht] at hI
    have k_51 : f_48 h0 = .inr (11, [.ref (gr g h0 0), .ref (gr g h0 1), .ref (gr g h0 2), .ref (gr g h0 3), .ref (gr g h0 4), .ref (gr g h0 5), .ref (gr g h0 6), .ref (gr g h0 7), .ref (gr g h0 8), .ref (gr g h0 9), .ref (gr g h0 10), .int x_2]) := Kp.at kc_50 i_h0 (by decide) k_42
    have kp_52 := Kp.call kp_43 kc_50 (by decide)
    generalize H1 = H at hI hS ⊢
    refine W.widen (k := 0) (n := 0) (Nat.le_of_ble_eq_true rfl) (Nat.le_of_ble_eq_true rfl) ?_
    refine lv_aload_n hx hb dX11_feed_54 rfl (lv_at hl 0 rfl) ?_
    refine k_get (ci := 11) (v := .ref (gr g h0 1)) (C := RX11) (T := TX11) (N := 12) hx hb hts (fun _ h0_ => List.mem_cons_of_mem _ (List.mem_append_right _ (List.mem_append_left _ h0_))) hown hK hI i_h0.1 k_51 rfl 1 (by decide) (hts (.fieldLink RX11 21 "DeadlineShare" "tape" "LDeadlineShare$Tape;") (List.mem_cons_of_mem _ (List.mem_append_left _ (List.mem_of_getElem? (i := 0) rfl)))) (fun _ h9 => h9) rfl dX11_feed_55 ?_
    obtain ⟨x_56, k_55⟩ := op_7 hI i_4
    refine k_get (ci := 7) (v := .int x_56) (C := RX7) (T := TX7) (N := 2) hx hb hts (fun _ h0_ => List.mem_cons_of_mem _ (List.mem_append_right _ (List.mem_append_right _ (List.mem_append_right _ (List.mem_append_right _ (List.mem_append_left _ h0_)))))) hown hK hI i_4.1 k_55 rfl 1 (by decide) (hts (.fieldLink RX11 106 "DeadlineShare$Tape" "length" "I") (List.mem_cons_of_mem _ (List.mem_append_left _ (List.mem_of_getElem? (i := 8) rfl)))) (fun _ h9 => h9) rfl dX11_feed_58 ?_
    exact W.iret (v := x_56) hx hb hr (fun t ht hW => ⟨⟨x_56, (), rfl, trivial, ⟨f_48, k_ret ht hI, kp_52⟩⟩, hS.F ht⟩) hS.2.2 dX11_feed_61
  · have c_9 := kc_eq rfl (by decide : Int32.toInt 0 = 0) c_9
    refine lv_iconst (v := (-1)) hx hb dX11_feed_10 (by decide) ?_
    exact W.iret (v := (-1)) hx hb hr (fun t ht hW => ⟨⟨(-1), (), rfl, trivial, ⟨f, k_ret ht hI, hk0⟩⟩, hS.F ht⟩) hS.2.2 dX11_feed_11
theorem tw_544 : q_g (.code yX11_end cX11_end 2 (some .int)) := ⟨(List.mem_append_right _ (List.mem_of_getElem? (i := 404) (by decide +kernel))), good_of_word (by decide +kernel)⟩
def ow_c_X11_end : List Cond := [.fieldLink RX11 21 "DeadlineShare" "tape" "LDeadlineShare$Tape;", .fieldLink RX11 106 "DeadlineShare$Tape" "length" "I"]
def wq_c_X11_end : List Cond := .code yX11_end cX11_end 2 (some .int) :: (ow_c_X11_end ++ (u_ws RX11 TX11 12 ++ (u_ws RX7 TX7 2 ++ ([] : List Cond))))
theorem tb_c_X11_end : ∀ w ∈ wq_c_X11_end, q_g w := by
  unfold wq_c_X11_end ow_c_X11_end
  exact q_cons tw_544 (q_app (q_cons tw_542 (q_cons tw_535 q_nil)) (q_app tu_X11 (q_app tu_X7 q_nil)))
set_option maxHeartbeats 4000000 in
set_option maxRecDepth 100000 in
theorem c_X11_end (l : Launch) (dC : Nat → ClassId) (dI : Nat → Nat → Nat) (g : kG) (A : Nat → Prop) (hG : kWf g) (f : Nat → va_E) (h0 : Nat) (p1 : Int32) (i_h0 : ik g 11 h0) : Met l yX11_end wq_c_X11_end ({ frames := 0, cells := 0, slots := 0, locals := 0 } : Room) (va_Pc [.ref h0, .int p1] (fun U => kIn dC dI g A f U)) (va_Qi (fun (r : Int32) (_ : Unit) => True) (fun (_ : Unit) t => ∃ f1 : Nat → va_E, Iv dC dI g A f1 t.heap ∧ Kp g [7] f f1) A) 0 0 A := by
  refine Met.ofW (cc := cX11_end) (maxL := 2) (ret := (some .int)) (by decide) rfl ?_
  intro p e s m args below meth c s₁ B hml hv
  obtain ⟨rfl, hI, hK, hE⟩ := hv
  have hx := B.exec
  have hb := B.bytes
  have hr := B.returns
  have hts := atoms_spec (ws := wq_c_X11_end) B.pre
  have hown : s.vm.findClass RX11 = some m.cls := findClass_of_methodNamed B.named
  have hlocks := B.notSynchronized
  have hS : va_S A s.heap s.heap [] := va_S.rf
  have hk0 : Kp g [7] f f := Kp.rf
  have hl := lv_entry ([.ref h0, .int p1]) (n := 2) (Nat.le_of_ble_eq_true rfl)
  rw [lg_entry_eq]
  generalize (lg_sl ([.ref h0, .int p1]) ++ List.replicate (2 - (lg_sl ([.ref h0, .int p1])).length) Slot.unset).toArray = ls at hl ⊢
  have hl : lv_has ls 2 [(0, .ref h0), (1, .int p1)] := hl
  refine lv_iload_n hx hb dX11_end_0 rfl (lv_at hl 1 rfl) ?_
  refine lv_if_lt (tgt := 15) hx hb dX11_end_1 (by decide) (fun c_1 => ?_) (fun c_1 => ?_)
  · have c_1 := kc_lt rfl (by decide : Int32.toInt 0 = 0) c_1
    refine lv_iconst (v := (-1)) hx hb dX11_end_15 (by decide) ?_
    exact W.iret (v := (-1)) hx hb hr (fun t ht hW => ⟨⟨(-1), (), rfl, trivial, ⟨f, k_ret ht hI, hk0⟩⟩, hS.F ht⟩) hS.2.2 dX11_end_16
  · have c_1 := kn_lt rfl (by decide : Int32.toInt 0 = 0) c_1
    refine lv_iload_n hx hb dX11_end_4 rfl (lv_at hl 1 rfl) ?_
    refine lv_aload_n hx hb dX11_end_5 rfl (lv_at hl 0 rfl) ?_
    obtain ⟨x_3, k_2⟩ := op_11 hI i_h0
    refine k_get (ci := 11) (v := .ref (gr g h0 1)) (C := RX11) (T := TX11) (N := 12) hx hb hts (fun _ h0_ => List.mem_cons_of_mem _ (List.mem_append_right _ (List.mem_append_left _ h0_))) hown hK hI i_h0.1 k_2 rfl 1 (by decide) (hts (.fieldLink RX11 21 "DeadlineShare" "tape" "LDeadlineShare$Tape;") (List.mem_cons_of_mem _ (List.mem_append_left _ (List.mem_of_getElem? (i := 0) rfl)))) (fun _ h9 => h9) rfl dX11_end_6 ?_
    have i_5 := kw_11_1 hG i_h0
    obtain ⟨x_7, k_6⟩ := op_7 hI i_5
    refine k_get (ci := 7) (v := .int x_7) (C := RX7) (T := TX7) (N := 2) hx hb hts (fun _ h0_ => List.mem_cons_of_mem _ (List.mem_append_right _ (List.mem_append_right _ (List.mem_append_left _ h0_)))) hown hK hI i_5.1 k_6 rfl 1 (by decide) (hts (.fieldLink RX11 106 "DeadlineShare$Tape" "length" "I") (List.mem_cons_of_mem _ (List.mem_append_left _ (List.mem_of_getElem? (i := 1) rfl)))) (fun _ h9 => h9) rfl dX11_end_9 ?_
    refine lv_icmp_le (tgt := 17) hx hb dX11_end_12 (by decide) (fun c_8 => ?_) (fun c_8 => ?_)
    · have c_8 := kc_le rfl rfl c_8
      refine lv_aload_n hx hb dX11_end_17 rfl (lv_at hl 0 rfl) ?_
      refine k_get (ci := 11) (v := .ref (gr g h0 1)) (C := RX11) (T := TX11) (N := 12) hx hb hts (fun _ h0_ => List.mem_cons_of_mem _ (List.mem_append_right _ (List.mem_append_left _ h0_))) hown hK hI i_h0.1 k_2 rfl 1 (by decide) (hts (.fieldLink RX11 21 "DeadlineShare" "tape" "LDeadlineShare$Tape;") (List.mem_cons_of_mem _ (List.mem_append_left _ (List.mem_of_getElem? (i := 0) rfl)))) (fun _ h9 => h9) rfl dX11_end_18 ?_
      refine lv_iload_n hx hb dX11_end_21 rfl (lv_at hl 1 rfl) ?_
      refine k_put (ci := 7) (v := .int p1) (ty := .int) (C := RX7) (T := TX7) (N := 2) hx hb hts (fun _ h0_ => List.mem_cons_of_mem _ (List.mem_append_right _ (List.mem_append_right _ (List.mem_append_left _ h0_)))) tyX7 tyX7_ok nmX7 hown hK hI hS i_5.1 k_6 rfl 1 (by decide) (hts (.fieldLink RX11 106 "DeadlineShare$Tape" "length" "I") (List.mem_cons_of_mem _ (List.mem_append_left _ (List.mem_of_getElem? (i := 1) rfl)))) (fun _ h9 => h9) rfl (by decide +kernel) rfl rfl (Nat.le_of_ble_eq_true rfl) rfl (cl_7 i_5) dX11_end_22 (fun f_11 H locs e_12 hI hS => ?_)
      have k_14 : f_11 h0 = .inr (11, [.ref (gr g h0 0), .ref (gr g h0 1), .ref (gr g h0 2), .ref (gr g h0 3), .ref (gr g h0 4), .ref (gr g h0 5), .ref (gr g h0 6), .ref (gr g h0 7), .ref (gr g h0 8), .ref (gr g h0 9), .ref (gr g h0 10), .int x_3]) := by rw [e_12, va_up_ne _ _ (ik_ne i_h0 i_5 (by decide))]; exact k_2
      have k_15 : f_11 (gr g h0 1) = .inr (7, [.ref (gr g (gr g h0 1) 0), .int p1]) := by rw [e_12]; exact va_up_self _ _ _
      have kp_13 := Kp.put hk0 i_5 (by decide) e_12
      refine lv_iload_n hx hb dX11_end_25 rfl (lv_at hl 1 rfl) ?_
      exact W.iret (v := p1) hx hb hr (fun t ht hW => ⟨⟨p1, (), rfl, trivial, ⟨f_11, k_ret ht hI, kp_13⟩⟩, hS.F ht⟩) hS.2.2 dX11_end_26
    · have c_8 := kn_le rfl rfl c_8
      refine lv_iconst (v := (-1)) hx hb dX11_end_15 (by decide) ?_
      exact W.iret (v := (-1)) hx hb hr (fun t ht hW => ⟨⟨(-1), (), rfl, trivial, ⟨f, k_ret ht hI, hk0⟩⟩, hS.F ht⟩) hS.2.2 dX11_end_16
theorem tw_545 : q_g (.methodLink RX11 109 yX7_byteAt) := ⟨(List.mem_append_right _ (List.mem_of_getElem? (i := 409) (by decide +kernel))), good_of_word (by decide +kernel)⟩
theorem tw_546 : q_g (.code yX11_tape cX11_tape 2 (some .int)) := ⟨(List.mem_append_right _ (List.mem_of_getElem? (i := 408) (by decide +kernel))), good_of_word (by decide +kernel)⟩
def ow_c_X11_tape : List Cond := [.fieldLink RX11 21 "DeadlineShare" "tape" "LDeadlineShare$Tape;", .methodLink RX11 109 yX7_byteAt, .instanceMethod yX7_byteAt, .selects RX7 yX7_byteAt yX7_byteAt, .initialized RX7]
def wq_c_X11_tape : List Cond := .code yX11_tape cX11_tape 2 (some .int) :: (ow_c_X11_tape ++ (u_ws RX11 TX11 12 ++ (wq_c_X7_byteAt ++ ([] : List Cond))))
theorem tb_c_X11_tape : ∀ w ∈ wq_c_X11_tape, q_g w := by
  unfold wq_c_X11_tape ow_c_X11_tape
  exact q_cons tw_546 (q_app (q_cons tw_542 (q_cons tw_545 (q_cons tw_194 (q_cons tw_193 (q_cons tw_192 q_nil))))) (q_app tu_X11 (q_app tb_c_X7_byteAt q_nil)))
set_option maxHeartbeats 4000000 in
set_option maxRecDepth 100000 in
theorem c_X11_tape (l : Launch) (dC : Nat → ClassId) (dI : Nat → Nat → Nat) (g : kG) (A : Nat → Prop) (hG : kWf g) (f : Nat → va_E) (h0 : Nat) (p1 : Int32) (i_h0 : ik g 11 h0) : Met l yX11_tape wq_c_X11_tape ({ frames := 1, cells := 0, slots := 0, locals := 21 } : Room) (va_Pc [.ref h0, .int p1] (fun U => kIn dC dI g A f U)) (va_Qi (fun (r : Int32) (_ : Unit) => True) (fun (_ : Unit) t => Iv dC dI g A f t.heap) A) 0 0 A := by
  refine Met.ofW (cc := cX11_tape) (maxL := 2) (ret := (some .int)) (by decide) rfl ?_
  intro p e s m args below meth c s₁ B hml hv
  obtain ⟨rfl, hI, hK, hE⟩ := hv
  have hx := B.exec
  have hb := B.bytes
  have hr := B.returns
  have hts := atoms_spec (ws := wq_c_X11_tape) B.pre
  have hown : s.vm.findClass RX11 = some m.cls := findClass_of_methodNamed B.named
  have hlocks := B.notSynchronized
  have hS : va_S A s.heap s.heap [] := va_S.rf
  have hl := lv_entry ([.ref h0, .int p1]) (n := 2) (Nat.le_of_ble_eq_true rfl)
  rw [lg_entry_eq]
  generalize (lg_sl ([.ref h0, .int p1]) ++ List.replicate (2 - (lg_sl ([.ref h0, .int p1])).length) Slot.unset).toArray = ls at hl ⊢
  have hl : lv_has ls 2 [(0, .ref h0), (1, .int p1)] := hl
  refine lv_aload_n hx hb dX11_tape_0 rfl (lv_at hl 0 rfl) ?_
  obtain ⟨x_2, k_1⟩ := op_11 hI i_h0
  refine k_get (ci := 11) (v := .ref (gr g h0 1)) (C := RX11) (T := TX11) (N := 12) hx hb hts (fun _ h0_ => List.mem_cons_of_mem _ (List.mem_append_right _ (List.mem_append_left _ h0_))) hown hK hI i_h0.1 k_1 rfl 1 (by decide) (hts (.fieldLink RX11 21 "DeadlineShare" "tape" "LDeadlineShare$Tape;") (List.mem_cons_of_mem _ (List.mem_append_left _ (List.mem_of_getElem? (i := 0) rfl)))) (fun _ h9 => h9) rfl dX11_tape_1 ?_
  have i_4 := kw_11_1 hG i_h0
  refine lv_iload_n hx hb dX11_tape_4 rfl (lv_at hl 1 rfl) ?_
  obtain ⟨x_6, k_5⟩ := op_7 hI i_4
  refine va_calli (va_runV (As := [.int p1]) (rest := []) ⟨hx, hb, hml, hown, hts⟩ (c_X7_byteAt l dC dI g A hG f (gr g h0 1) p1 i_4) (cwV 1 hts (gi_V (fun w_ h0_ => ⟨List.mem_cons_of_mem _ (List.mem_append_right _ (List.mem_append_right _ (List.mem_append_left _ h0_))), (tb_c_X7_byteAt w_ h0_).2⟩) (List.mem_cons_of_mem _ (List.mem_append_left _ (List.mem_of_getElem? (i := 1) rfl))) (List.mem_cons_of_mem _ (List.mem_append_left _ (List.mem_of_getElem? (i := 2) rfl))) (List.mem_cons_of_mem _ (List.mem_append_left _ (List.mem_of_getElem? (i := 3) rfl))) (List.mem_cons_of_mem _ (List.mem_append_left _ (List.mem_of_getElem? (i := 4) rfl)))) rfl rfl rfl (by decide +kernel) ⟨Nat.le_of_ble_eq_true rfl, Nat.le_of_ble_eq_true rfl⟩) ⟨fun a U g mk q => ⟨q.1, q.2.calling rfl rfl⟩, k_recv hK hI i_4.1 k_5 (ci := 7) rfl, fun U hU hW => ⟨rfl, kIn.of hI hK hE hS hU hW⟩⟩ rfl rfl hl.1 rfl (lv_room (Nat.le_of_ble_eq_true rfl)) dX11_tape_5 ⟨Nat.le_of_ble_eq_true rfl, Nat.le_of_ble_eq_true rfl⟩) hS (fun q _ h => h) (fun q h => h) (fun r_8 u t H1 locs ht hvm w_7 hB hz1 hk1 hS => ?_)
  have hI : Iv dC dI g A f t.heap := hB
  rw [ht] at hI
  generalize H1 = H at hI hS ⊢
  refine W.widen (k := 0) (n := 0) (Nat.le_of_ble_eq_true rfl) (Nat.le_of_ble_eq_true rfl) ?_
  exact W.iret (v := r_8) hx hb hr (fun t ht hW => ⟨⟨r_8, (), rfl, trivial, k_ret ht hI⟩, hS.F ht⟩) hS.2.2 dX11_tape_8
theorem tw_547 : q_g (.code yX11_isWeight cX11_isWeight 1 (some .boolean)) := ⟨(List.mem_append_right _ (List.mem_of_getElem? (i := 419) (by decide +kernel))), good_of_word (by decide +kernel)⟩
def ow_c_X11_isWeight : List Cond := []
def wq_c_X11_isWeight : List Cond := .code yX11_isWeight cX11_isWeight 1 (some .boolean) :: (ow_c_X11_isWeight ++ ([] : List Cond))
theorem tb_c_X11_isWeight : ∀ w ∈ wq_c_X11_isWeight, q_g w := by
  unfold wq_c_X11_isWeight ow_c_X11_isWeight
  exact q_cons tw_547 (q_app q_nil q_nil)
set_option maxHeartbeats 4000000 in
set_option maxRecDepth 100000 in
theorem c_X11_isWeight (l : Launch) (dC : Nat → ClassId) (dI : Nat → Nat → Nat) (g : kG) (A : Nat → Prop) (hG : kWf g) (f : Nat → va_E) (p1 : Int32) : Met l yX11_isWeight wq_c_X11_isWeight ({ frames := 0, cells := 0, slots := 0, locals := 0 } : Room) (va_Pc [.int p1] (fun U => kIn dC dI g A f U)) (va_Qi (fun (r : Int32) (_ : Unit) => True) (fun (_ : Unit) t => Iv dC dI g A f t.heap) A) 0 0 A := by
  refine Met.ofW (cc := cX11_isWeight) (maxL := 1) (ret := (some .boolean)) (by decide) rfl ?_
  intro p e s m args below meth c s₁ B hml hv
  obtain ⟨rfl, hI, hK, hE⟩ := hv
  have hx := B.exec
  have hb := B.bytes
  have hr := B.returns
  have hts := atoms_spec (ws := wq_c_X11_isWeight) B.pre
  have hown : s.vm.findClass RX11 = some m.cls := findClass_of_methodNamed B.named
  have hlocks := B.notSynchronized
  have hS : va_S A s.heap s.heap [] := va_S.rf
  have hl := lv_entry ([.int p1]) (n := 1) (Nat.le_of_ble_eq_true rfl)
  rw [lg_entry_eq]
  generalize (lg_sl ([.int p1]) ++ List.replicate (1 - (lg_sl ([.int p1])).length) Slot.unset).toArray = ls at hl ⊢
  have hl : lv_has ls 1 [(0, .int p1)] := hl
  refine lv_iload_n hx hb dX11_isWeight_0 rfl (lv_at hl 0 rfl) ?_
  refine lv_iconst (v := 1) hx hb dX11_isWeight_1 (by decide) ?_
  refine lv_icmp_lt (tgt := 15) hx hb dX11_isWeight_2 (by decide) (fun c_1 => ?_) (fun c_1 => ?_)
  · have c_1 := kc_lt rfl (by decide : Int32.toInt 1 = 1) c_1
    refine lv_iconst (v := 0) hx hb dX11_isWeight_15 (by decide) ?_
    exact W.zret (v := 0) hx hb hr rfl (fun t ht hW => ⟨⟨0, (), rfl, trivial, k_ret ht hI⟩, hS.F ht⟩) hS.2.2 dX11_isWeight_16
  · have c_1 := kn_lt rfl (by decide : Int32.toInt 1 = 1) c_1
    refine lv_iload_n hx hb dX11_isWeight_5 rfl (lv_at hl 0 rfl) ?_
    refine lv_bipush (v := 8) hx hb dX11_isWeight_6 (by decide) ?_
    refine lv_icmp_gt (tgt := 15) hx hb dX11_isWeight_8 (by decide) (fun c_2 => ?_) (fun c_2 => ?_)
    · have c_2 := kc_lt (by decide : Int32.toInt 8 = 8) rfl c_2
      refine lv_iconst (v := 0) hx hb dX11_isWeight_15 (by decide) ?_
      exact W.zret (v := 0) hx hb hr rfl (fun t ht hW => ⟨⟨0, (), rfl, trivial, k_ret ht hI⟩, hS.F ht⟩) hS.2.2 dX11_isWeight_16
    · have c_2 := kn_lt (by decide : Int32.toInt 8 = 8) rfl c_2
      refine lv_iconst (v := 1) hx hb dX11_isWeight_11 (by decide) ?_
      refine lv_goto (tgt := 16) hx hb dX11_isWeight_12 (by decide) ?_
      exact W.zret (v := 1) hx hb hr rfl (fun t ht hW => ⟨⟨1, (), rfl, trivial, k_ret ht hI⟩, hS.F ht⟩) hS.2.2 dX11_isWeight_16
theorem tw_548 : q_g (.code yX11_isSlice cX11_isSlice 1 (some .boolean)) := ⟨(List.mem_append_right _ (List.mem_of_getElem? (i := 422) (by decide +kernel))), good_of_word (by decide +kernel)⟩
def ow_c_X11_isSlice : List Cond := []
def wq_c_X11_isSlice : List Cond := .code yX11_isSlice cX11_isSlice 1 (some .boolean) :: (ow_c_X11_isSlice ++ ([] : List Cond))
theorem tb_c_X11_isSlice : ∀ w ∈ wq_c_X11_isSlice, q_g w := by
  unfold wq_c_X11_isSlice ow_c_X11_isSlice
  exact q_cons tw_548 (q_app q_nil q_nil)
set_option maxHeartbeats 4000000 in
set_option maxRecDepth 100000 in
theorem c_X11_isSlice (l : Launch) (dC : Nat → ClassId) (dI : Nat → Nat → Nat) (g : kG) (A : Nat → Prop) (hG : kWf g) (f : Nat → va_E) (p1 : Int32) : Met l yX11_isSlice wq_c_X11_isSlice ({ frames := 0, cells := 0, slots := 0, locals := 0 } : Room) (va_Pc [.int p1] (fun U => kIn dC dI g A f U)) (va_Qi (fun (r : Int32) (_ : Unit) => True) (fun (_ : Unit) t => Iv dC dI g A f t.heap) A) 0 0 A := by
  refine Met.ofW (cc := cX11_isSlice) (maxL := 1) (ret := (some .boolean)) (by decide) rfl ?_
  intro p e s m args below meth c s₁ B hml hv
  obtain ⟨rfl, hI, hK, hE⟩ := hv
  have hx := B.exec
  have hb := B.bytes
  have hr := B.returns
  have hts := atoms_spec (ws := wq_c_X11_isSlice) B.pre
  have hown : s.vm.findClass RX11 = some m.cls := findClass_of_methodNamed B.named
  have hlocks := B.notSynchronized
  have hS : va_S A s.heap s.heap [] := va_S.rf
  have hl := lv_entry ([.int p1]) (n := 1) (Nat.le_of_ble_eq_true rfl)
  rw [lg_entry_eq]
  generalize (lg_sl ([.int p1]) ++ List.replicate (1 - (lg_sl ([.int p1])).length) Slot.unset).toArray = ls at hl ⊢
  have hl : lv_has ls 1 [(0, .int p1)] := hl
  refine lv_iload_n hx hb dX11_isSlice_0 rfl (lv_at hl 0 rfl) ?_
  refine lv_iconst (v := 1) hx hb dX11_isSlice_1 (by decide) ?_
  refine lv_icmp_lt (tgt := 15) hx hb dX11_isSlice_2 (by decide) (fun c_1 => ?_) (fun c_1 => ?_)
  · have c_1 := kc_lt rfl (by decide : Int32.toInt 1 = 1) c_1
    refine lv_iconst (v := 0) hx hb dX11_isSlice_15 (by decide) ?_
    exact W.zret (v := 0) hx hb hr rfl (fun t ht hW => ⟨⟨0, (), rfl, trivial, k_ret ht hI⟩, hS.F ht⟩) hS.2.2 dX11_isSlice_16
  · have c_1 := kn_lt rfl (by decide : Int32.toInt 1 = 1) c_1
    refine lv_iload_n hx hb dX11_isSlice_5 rfl (lv_at hl 0 rfl) ?_
    refine lv_bipush (v := 20) hx hb dX11_isSlice_6 (by decide) ?_
    refine lv_icmp_gt (tgt := 15) hx hb dX11_isSlice_8 (by decide) (fun c_2 => ?_) (fun c_2 => ?_)
    · have c_2 := kc_lt (by decide : Int32.toInt 20 = 20) rfl c_2
      refine lv_iconst (v := 0) hx hb dX11_isSlice_15 (by decide) ?_
      exact W.zret (v := 0) hx hb hr rfl (fun t ht hW => ⟨⟨0, (), rfl, trivial, k_ret ht hI⟩, hS.F ht⟩) hS.2.2 dX11_isSlice_16
    · have c_2 := kn_lt (by decide : Int32.toInt 20 = 20) rfl c_2
      refine lv_iconst (v := 1) hx hb dX11_isSlice_11 (by decide) ?_
      refine lv_goto (tgt := 16) hx hb dX11_isSlice_12 (by decide) ?_
      exact W.zret (v := 1) hx hb hr rfl (fun t ht hW => ⟨⟨1, (), rfl, trivial, k_ret ht hI⟩, hS.F ht⟩) hS.2.2 dX11_isSlice_16
theorem tw_549 : q_g (.selects RX6 yX6_addTask yX6_addTask) := ⟨(List.mem_append_right _ (List.mem_of_getElem? (i := 456) (by decide +kernel))), good_of_word (by decide +kernel)⟩
theorem tw_550 : q_g (.instanceMethod yX6_addTask) := ⟨(List.mem_append_right _ (List.mem_of_getElem? (i := 455) (by decide +kernel))), good_of_word (by decide +kernel)⟩
theorem tw_551 : q_g (.methodLink RX11 126 yX6_addTask) := ⟨(List.mem_append_right _ (List.mem_of_getElem? (i := 454) (by decide +kernel))), good_of_word (by decide +kernel)⟩
theorem tw_552 : q_g (.initialized RX1) := ⟨(List.mem_append_right _ (List.mem_of_getElem? (i := 11) (by decide +kernel))), good_of_word (by decide +kernel)⟩
theorem tw_553 : q_g (.selects RX1 yX1_keep yX1_keep) := ⟨(List.mem_append_right _ (List.mem_of_getElem? (i := 425) (by decide +kernel))), good_of_word (by decide +kernel)⟩
theorem tw_554 : q_g (.instanceMethod yX1_keep) := ⟨(List.mem_append_right _ (List.mem_of_getElem? (i := 424) (by decide +kernel))), good_of_word (by decide +kernel)⟩
theorem tw_555 : q_g (.methodLink RX11 122 yX1_keep) := ⟨(List.mem_append_right _ (List.mem_of_getElem? (i := 423) (by decide +kernel))), good_of_word (by decide +kernel)⟩
theorem tw_556 : q_g (.fieldLink RX11 65 "DeadlineShare" "history" "LDeadlineShare$History;") := ⟨(List.mem_append_right _ (List.mem_of_getElem? (i := 329) (by decide +kernel))), good_of_word (by decide +kernel)⟩
theorem tw_557 : q_g (.fieldLink RX11 119 "DeadlineShare$State" "count" "I") := ⟨(List.mem_append_right _ (List.mem_of_getElem? (i := 237) (by decide +kernel))), good_of_word (by decide +kernel)⟩
theorem tw_558 : q_g (.fieldLink RX11 37 "DeadlineShare" "now" "LDeadlineShare$State;") := ⟨(List.mem_append_right _ (List.mem_of_getElem? (i := 323) (by decide +kernel))), good_of_word (by decide +kernel)⟩
theorem tw_559 : q_g (.static yX11_isSlice) := ⟨(List.mem_append_right _ (List.mem_of_getElem? (i := 421) (by decide +kernel))), good_of_word (by decide +kernel)⟩
theorem tw_560 : q_g (.methodLink RX11 116 yX11_isSlice) := ⟨(List.mem_append_right _ (List.mem_of_getElem? (i := 420) (by decide +kernel))), good_of_word (by decide +kernel)⟩
theorem tw_561 : q_g (.static yX11_isWeight) := ⟨(List.mem_append_right _ (List.mem_of_getElem? (i := 418) (by decide +kernel))), good_of_word (by decide +kernel)⟩
theorem tw_562 : q_g (.methodLink RX11 112 yX11_isWeight) := ⟨(List.mem_append_right _ (List.mem_of_getElem? (i := 417) (by decide +kernel))), good_of_word (by decide +kernel)⟩
theorem tw_563 : q_g (.code yX11_task cX11_task 3 (some .int)) := ⟨(List.mem_append_right _ (List.mem_of_getElem? (i := 416) (by decide +kernel))), good_of_word (by decide +kernel)⟩
def ow_c_X11_task : List Cond := [.methodLink RX11 112 yX11_isWeight, .static yX11_isWeight, .initialized RX11, .fieldLink RX11 72 "DeadlineShare" "refusals" "LDeadlineShare$Refusals;", .methodLink RX11 84 yX4_add, .instanceMethod yX4_add, .selects RX4 yX4_add yX4_add, .initialized RX4, .methodLink RX11 116 yX11_isSlice, .static yX11_isSlice, .fieldLink RX11 37 "DeadlineShare" "now" "LDeadlineShare$State;", .fieldLink RX11 119 "DeadlineShare$State" "count" "I", .fieldLink RX11 65 "DeadlineShare" "history" "LDeadlineShare$History;", .methodLink RX11 122 yX1_keep, .instanceMethod yX1_keep, .selects RX1 yX1_keep yX1_keep, .initialized RX1, .methodLink RX11 126 yX6_addTask, .instanceMethod yX6_addTask, .selects RX6 yX6_addTask yX6_addTask, .initialized RX6, .methodLink RX11 95 yX4_none, .instanceMethod yX4_none, .selects RX4 yX4_none yX4_none]
def wq_c_X11_task : List Cond := .code yX11_task cX11_task 3 (some .int) :: (ow_c_X11_task ++ (wq_c_X11_isWeight ++ (u_ws RX11 TX11 12 ++ (wq_c_X4_add ++ (wq_c_X11_isSlice ++ (u_ws RX6 TX6 10 ++ (wq_c_X1_keep ++ (wq_c_X6_addTask ++ (wq_c_X4_none ++ ([] : List Cond))))))))))
theorem tb_c_X11_task : ∀ w ∈ wq_c_X11_task, q_g w := by
  unfold wq_c_X11_task ow_c_X11_task
  exact q_cons tw_563 (q_app (q_cons tw_562 (q_cons tw_561 (q_cons tw_56 (q_cons tw_522 (q_cons tw_518 (q_cons tw_517 (q_cons tw_516 (q_cons tw_273 (q_cons tw_560 (q_cons tw_559 (q_cons tw_558 (q_cons tw_557 (q_cons tw_556 (q_cons tw_555 (q_cons tw_554 (q_cons tw_553 (q_cons tw_552 (q_cons tw_551 (q_cons tw_550 (q_cons tw_549 (q_cons tw_47 (q_cons tw_521 (q_cons tw_520 (q_cons tw_519 q_nil)))))))))))))))))))))))) (q_app tb_c_X11_isWeight (q_app tu_X11 (q_app tb_c_X4_add (q_app tb_c_X11_isSlice (q_app tu_X6 (q_app tb_c_X1_keep (q_app tb_c_X6_addTask (q_app tb_c_X4_none q_nil)))))))))
set_option maxHeartbeats 4000000 in
set_option maxRecDepth 100000 in
theorem c_X11_task (l : Launch) (dC : Nat → ClassId) (dI : Nat → Nat → Nat) (g : kG) (A : Nat → Prop) (hG : kWf g) (f : Nat → va_E) (h0 : Nat) (p1 : Int32) (p2 : Int32) (i_h0 : ik g 11 h0) : Met l yX11_task wq_c_X11_task ({ frames := 5, cells := 0, slots := 0, locals := 126 } : Room) (va_Pc [.ref h0, .int p1, .int p2] (fun U => kIn dC dI g A f U)) (va_Qi (fun (r : Int32) (_ : Unit) => True) (fun (_ : Unit) t => ∃ f1 : Nat → va_E, Iv dC dI g A f1 t.heap ∧ Kp g [1, 4, 5, 6, 8, 10, 23, 24, 27, 28] f f1) A) 0 0 A := by
  refine Met.ofW (cc := cX11_task) (maxL := 3) (ret := (some .int)) (by decide) rfl ?_
  intro p e s m args below meth c s₁ B hml hv
  obtain ⟨rfl, hI, hK, hE⟩ := hv
  have hx := B.exec
  have hb := B.bytes
  have hr := B.returns
  have hts := atoms_spec (ws := wq_c_X11_task) B.pre
  have hown : s.vm.findClass RX11 = some m.cls := findClass_of_methodNamed B.named
  have hlocks := B.notSynchronized
  have hS : va_S A s.heap s.heap [] := va_S.rf
  have hk0 : Kp g [1, 4, 5, 6, 8, 10, 23, 24, 27, 28] f f := Kp.rf
  have hl := lv_entry ([.ref h0, .int p1, .int p2]) (n := 3) (Nat.le_of_ble_eq_true rfl)
  rw [lg_entry_eq]
  generalize (lg_sl ([.ref h0, .int p1, .int p2]) ++ List.replicate (3 - (lg_sl ([.ref h0, .int p1, .int p2])).length) Slot.unset).toArray = ls at hl ⊢
  have hl : lv_has ls 3 [(0, .ref h0), (1, .int p1), (2, .int p2)] := hl
  refine lv_iload_n hx hb dX11_task_0 rfl (lv_at hl 1 rfl) ?_
  refine va_calli (va_runS (As := [.int p1]) (rest := []) ⟨hx, hb, hml, hown, hts⟩ (c_X11_isWeight l dC dI g A hG f p1) (va_cwS 1 hts (gi_S (fun w_ h0_ => ⟨List.mem_cons_of_mem _ (List.mem_append_right _ (List.mem_append_left _ h0_)), (tb_c_X11_isWeight w_ h0_).2⟩) (List.mem_cons_of_mem _ (List.mem_append_left _ (List.mem_of_getElem? (i := 0) rfl))) (List.mem_cons_of_mem _ (List.mem_append_left _ (List.mem_of_getElem? (i := 1) rfl))) (List.mem_cons_of_mem _ (List.mem_append_left _ (List.mem_of_getElem? (i := 2) rfl)))) rfl rfl rfl (by decide +kernel) ⟨Nat.le_of_ble_eq_true rfl, Nat.le_of_ble_eq_true rfl⟩) ⟨fun a U g mk q => ⟨q.1, q.2.calling rfl rfl⟩, fun U hU hW => ⟨rfl, kIn.of hI hK hE hS hU hW⟩⟩ rfl rfl hl.1 rfl (lv_room (Nat.le_of_ble_eq_true rfl)) dX11_task_1 ⟨Nat.le_of_ble_eq_true rfl, Nat.le_of_ble_eq_true rfl⟩) hS (fun q _ h => h) (fun q h => h) (fun r_2 u t H1 locs ht hvm w_1 hB hz1 hk1 hS => ?_)
  have hI : Iv dC dI g A f t.heap := hB
  rw [ht] at hI
  generalize H1 = H at hI hS ⊢
  refine W.widen (k := 0) (n := 0) (Nat.le_of_ble_eq_true rfl) (Nat.le_of_ble_eq_true rfl) ?_
  have J_14 : ∀ (H : Heap) (locs : List Loc) (ls : Array Slot), Iv dC dI g A f H → va_S A s.heap H locs → lv_has ls 3 [(0, .ref h0), (1, .int p1), (2, .int p2)] → W p l e (headSpec wq_c_X11_task ({ frames := 5, cells := 0, slots := 0, locals := 126 } : Room)).room s m ([.ref h0, .int p1, .int p2].toArray) below meth c H locs 0 0 (MQ below (va_Qi (fun (r : Int32) (_ : Unit) => True) (fun (_ : Unit) t => ∃ f1 : Nat → va_E, Iv dC dI g A f1 t.heap ∧ Kp g [1, 4, 5, 6, 8, 10, 23, 24, 27, 28] f f1) A) ([.ref h0, .int p1, .int p2].toArray) s 0 0 A) (F0 m 14 ls []) := by
    intro H locs ls hI hS  hl
    refine lv_aload_n hx hb dX11_task_14 rfl (lv_at hl 0 rfl) ?_
    obtain ⟨x_4, k_3⟩ := op_11 hI i_h0
    refine k_get (ci := 11) (v := .ref (gr g h0 10)) (C := RX11) (T := TX11) (N := 12) hx hb hts (fun _ h0_ => List.mem_cons_of_mem _ (List.mem_append_right _ (List.mem_append_right _ (List.mem_append_left _ h0_)))) hown hK hI i_h0.1 k_3 rfl 10 (by decide) (hts (.fieldLink RX11 72 "DeadlineShare" "refusals" "LDeadlineShare$Refusals;") (List.mem_cons_of_mem _ (List.mem_append_left _ (List.mem_of_getElem? (i := 3) rfl)))) (fun _ h9 => h9) rfl dX11_task_15 ?_
    have i_6 := kw_11_10 hG i_h0
    refine lv_iconst (v := (-1)) hx hb dX11_task_18 (by decide) ?_
    obtain ⟨x_8, k_7⟩ := op_4 hI i_6
    refine va_calli (va_runV (As := [.int (-1)]) (rest := []) ⟨hx, hb, hml, hown, hts⟩ (c_X4_add l dC dI g A hG f (gr g h0 10) (-1) i_6) (cwV 1 hts (gi_V (fun w_ h0_ => ⟨List.mem_cons_of_mem _ (List.mem_append_right _ (List.mem_append_right _ (List.mem_append_right _ (List.mem_append_left _ h0_)))), (tb_c_X4_add w_ h0_).2⟩) (List.mem_cons_of_mem _ (List.mem_append_left _ (List.mem_of_getElem? (i := 4) rfl))) (List.mem_cons_of_mem _ (List.mem_append_left _ (List.mem_of_getElem? (i := 5) rfl))) (List.mem_cons_of_mem _ (List.mem_append_left _ (List.mem_of_getElem? (i := 6) rfl))) (List.mem_cons_of_mem _ (List.mem_append_left _ (List.mem_of_getElem? (i := 7) rfl)))) rfl rfl rfl (by decide +kernel) ⟨Nat.le_of_ble_eq_true rfl, Nat.le_of_ble_eq_true rfl⟩) ⟨fun a U g mk q => ⟨q.1, q.2.calling rfl rfl⟩, k_recv hK hI i_6.1 k_7 (ci := 4) rfl, fun U hU hW => ⟨rfl, kIn.of hI hK hE hS hU hW⟩⟩ rfl rfl hl.1 rfl (lv_room (Nat.le_of_ble_eq_true rfl)) dX11_task_19 ⟨Nat.le_of_ble_eq_true rfl, Nat.le_of_ble_eq_true rfl⟩) hS (fun q _ h => h) (fun q h => h) (fun r_11 u t H1 locs ht hvm w_10 hB hz1 hk1 hS => ?_)
    obtain ⟨f_9, hI, kc_12⟩ := hB
    rw [ht] at hI
    have k_13 : f_9 h0 = .inr (11, [.ref (gr g h0 0), .ref (gr g h0 1), .ref (gr g h0 2), .ref (gr g h0 3), .ref (gr g h0 4), .ref (gr g h0 5), .ref (gr g h0 6), .ref (gr g h0 7), .ref (gr g h0 8), .ref (gr g h0 9), .ref (gr g h0 10), .int x_4]) := Kp.at kc_12 i_h0 (by decide) k_3
    have kp_14 := Kp.call hk0 kc_12 (by decide)
    generalize H1 = H at hI hS ⊢
    refine W.widen (k := 0) (n := 0) (Nat.le_of_ble_eq_true rfl) (Nat.le_of_ble_eq_true rfl) ?_
    have w_10 : r_11.toInt = (-1 : Int32).toInt := w_10
    exact W.iret (v := r_11) hx hb hr (fun t ht hW => ⟨⟨r_11, (), rfl, trivial, ⟨f_9, k_ret ht hI, kp_14⟩⟩, hS.F ht⟩) hS.2.2 dX11_task_22
  refine lv_if_eq (tgt := 14) hx hb dX11_task_4 (by decide) (fun c_15 => ?_) (fun c_15 => ?_)
  · have c_15 := kc_eq rfl (by decide : Int32.toInt 0 = 0) c_15
    exact J_14  _ _ _ hI hS  (lv_sub hl [0, 1, 2] rfl)
  · have c_15 := kn_eq rfl (by decide : Int32.toInt 0 = 0) c_15
    refine lv_iload_n hx hb dX11_task_7 rfl (lv_at hl 2 rfl) ?_
    refine va_calli (va_runS (As := [.int p2]) (rest := []) ⟨hx, hb, hml, hown, hts⟩ (c_X11_isSlice l dC dI g A hG f p2) (va_cwS 1 hts (gi_S (fun w_ h0_ => ⟨List.mem_cons_of_mem _ (List.mem_append_right _ (List.mem_append_right _ (List.mem_append_right _ (List.mem_append_right _ (List.mem_append_left _ h0_))))), (tb_c_X11_isSlice w_ h0_).2⟩) (List.mem_cons_of_mem _ (List.mem_append_left _ (List.mem_of_getElem? (i := 8) rfl))) (List.mem_cons_of_mem _ (List.mem_append_left _ (List.mem_of_getElem? (i := 9) rfl))) (List.mem_cons_of_mem _ (List.mem_append_left _ (List.mem_of_getElem? (i := 2) rfl)))) rfl rfl rfl (by decide +kernel) ⟨Nat.le_of_ble_eq_true rfl, Nat.le_of_ble_eq_true rfl⟩) ⟨fun a U g mk q => ⟨q.1, q.2.calling rfl rfl⟩, fun U hU hW => ⟨rfl, kIn.of hI hK hE hS hU hW⟩⟩ rfl rfl hl.1 rfl (lv_room (Nat.le_of_ble_eq_true rfl)) dX11_task_8 ⟨Nat.le_of_ble_eq_true rfl, Nat.le_of_ble_eq_true rfl⟩) hS (fun q _ h => h) (fun q h => h) (fun r_17 u t H1 locs ht hvm w_16 hB hz1 hk1 hS => ?_)
    have hI : Iv dC dI g A f t.heap := hB
    rw [ht] at hI
    generalize H1 = H at hI hS ⊢
    refine W.widen (k := 0) (n := 0) (Nat.le_of_ble_eq_true rfl) (Nat.le_of_ble_eq_true rfl) ?_
    refine lv_if_ne (tgt := 23) hx hb dX11_task_11 (by decide) (fun c_18 => ?_) (fun c_18 => ?_)
    · have c_18 := kn_eq rfl (by decide : Int32.toInt 0 = 0) c_18
      refine lv_aload_n hx hb dX11_task_23 rfl (lv_at hl 0 rfl) ?_
      obtain ⟨x_20, k_19⟩ := op_11 hI i_h0
      refine k_get (ci := 11) (v := .ref (gr g h0 3)) (C := RX11) (T := TX11) (N := 12) hx hb hts (fun _ h0_ => List.mem_cons_of_mem _ (List.mem_append_right _ (List.mem_append_right _ (List.mem_append_left _ h0_)))) hown hK hI i_h0.1 k_19 rfl 3 (by decide) (hts (.fieldLink RX11 37 "DeadlineShare" "now" "LDeadlineShare$State;") (List.mem_cons_of_mem _ (List.mem_append_left _ (List.mem_of_getElem? (i := 10) rfl)))) (fun _ h9 => h9) rfl dX11_task_24 ?_
      have i_22 := kw_11_3 hG i_h0
      obtain ⟨x_24, x_25, x_26, x_27, x_28, k_23, b_29, b_30⟩ := op_6 hI i_22
      refine k_get (ci := 6) (v := .int x_24) (C := RX6) (T := TX6) (N := 10) hx hb hts (fun _ h0_ => List.mem_cons_of_mem _ (List.mem_append_right _ (List.mem_append_right _ (List.mem_append_right _ (List.mem_append_right _ (List.mem_append_right _ (List.mem_append_left _ h0_))))))) hown hK hI i_22.1 k_23 rfl 5 (by decide) (hts (.fieldLink RX11 119 "DeadlineShare$State" "count" "I") (List.mem_cons_of_mem _ (List.mem_append_left _ (List.mem_of_getElem? (i := 11) rfl)))) (fun _ h9 => h9) rfl dX11_task_27 ?_
      refine lv_bipush (v := 12) hx hb dX11_task_30 (by decide) ?_
      refine lv_icmp_lt (tgt := 45) hx hb dX11_task_32 (by decide) (fun c_31 => ?_) (fun c_31 => ?_)
      · have c_31 := kc_lt rfl (by decide : Int32.toInt 12 = 12) c_31
        refine lv_aload_n hx hb dX11_task_45 rfl (lv_at hl 0 rfl) ?_
        refine k_get (ci := 11) (v := .ref (gr g h0 9)) (C := RX11) (T := TX11) (N := 12) hx hb hts (fun _ h0_ => List.mem_cons_of_mem _ (List.mem_append_right _ (List.mem_append_right _ (List.mem_append_left _ h0_)))) hown hK hI i_h0.1 k_19 rfl 9 (by decide) (hts (.fieldLink RX11 65 "DeadlineShare" "history" "LDeadlineShare$History;") (List.mem_cons_of_mem _ (List.mem_append_left _ (List.mem_of_getElem? (i := 12) rfl)))) (fun _ h9 => h9) rfl dX11_task_46 ?_
        have i_33 := kw_11_9 hG i_h0
        refine lv_aload_n hx hb dX11_task_49 rfl (lv_at hl 0 rfl) ?_
        refine k_get (ci := 11) (v := .ref (gr g h0 3)) (C := RX11) (T := TX11) (N := 12) hx hb hts (fun _ h0_ => List.mem_cons_of_mem _ (List.mem_append_right _ (List.mem_append_right _ (List.mem_append_left _ h0_)))) hown hK hI i_h0.1 k_19 rfl 3 (by decide) (hts (.fieldLink RX11 37 "DeadlineShare" "now" "LDeadlineShare$State;") (List.mem_cons_of_mem _ (List.mem_append_left _ (List.mem_of_getElem? (i := 10) rfl)))) (fun _ h9 => h9) rfl dX11_task_50 ?_
        refine lv_iconst (v := 0) hx hb dX11_task_53 (by decide) ?_
        obtain ⟨x_37, x_38, k_36⟩ := op_1 hI i_33
        refine va_callv (va_runV (As := [.ref (gr g h0 3), .int 0]) (rest := []) ⟨hx, hb, hml, hown, hts⟩ (c_X1_keep l dC dI g A hG f (gr g h0 9) (gr g h0 3) 0 i_33 i_22) (cwV 2 hts (gi_V (fun w_ h0_ => ⟨List.mem_cons_of_mem _ (List.mem_append_right _ (List.mem_append_right _ (List.mem_append_right _ (List.mem_append_right _ (List.mem_append_right _ (List.mem_append_right _ (List.mem_append_left _ h0_))))))), (tb_c_X1_keep w_ h0_).2⟩) (List.mem_cons_of_mem _ (List.mem_append_left _ (List.mem_of_getElem? (i := 13) rfl))) (List.mem_cons_of_mem _ (List.mem_append_left _ (List.mem_of_getElem? (i := 14) rfl))) (List.mem_cons_of_mem _ (List.mem_append_left _ (List.mem_of_getElem? (i := 15) rfl))) (List.mem_cons_of_mem _ (List.mem_append_left _ (List.mem_of_getElem? (i := 16) rfl)))) rfl rfl rfl (by decide +kernel) ⟨Nat.le_of_ble_eq_true rfl, Nat.le_of_ble_eq_true rfl⟩) ⟨fun a U g mk q => ⟨q.1, q.2.calling rfl rfl⟩, k_recv hK hI i_33.1 k_36 (ci := 1) rfl, fun U hU hW => ⟨rfl, kIn.of hI hK hE hS hU hW⟩⟩ rfl rfl hl.1 rfl (lv_room (Nat.le_of_ble_eq_true rfl)) dX11_task_54 ⟨Nat.le_of_ble_eq_true rfl, Nat.le_of_ble_eq_true rfl⟩) hS (fun q _ h => h) (fun q h => h) (fun u t H1 locs ht hvm _ hB hz1 hk1 hS => ?_)
        obtain ⟨f_39, hI, kc_41⟩ := hB
        rw [ht] at hI
        have k_42 : f_39 h0 = .inr (11, [.ref (gr g h0 0), .ref (gr g h0 1), .ref (gr g h0 2), .ref (gr g h0 3), .ref (gr g h0 4), .ref (gr g h0 5), .ref (gr g h0 6), .ref (gr g h0 7), .ref (gr g h0 8), .ref (gr g h0 9), .ref (gr g h0 10), .int x_20]) := Kp.at kc_41 i_h0 (by decide) k_19
        have kp_43 := Kp.call hk0 kc_41 (by decide)
        generalize H1 = H at hI hS ⊢
        refine W.widen (k := 0) (n := 0) (Nat.le_of_ble_eq_true rfl) (Nat.le_of_ble_eq_true rfl) ?_
        refine lv_aload_n hx hb dX11_task_57 rfl (lv_at hl 0 rfl) ?_
        refine k_get (ci := 11) (v := .ref (gr g h0 10)) (C := RX11) (T := TX11) (N := 12) hx hb hts (fun _ h0_ => List.mem_cons_of_mem _ (List.mem_append_right _ (List.mem_append_right _ (List.mem_append_left _ h0_)))) hown hK hI i_h0.1 k_42 rfl 10 (by decide) (hts (.fieldLink RX11 72 "DeadlineShare" "refusals" "LDeadlineShare$Refusals;") (List.mem_cons_of_mem _ (List.mem_append_left _ (List.mem_of_getElem? (i := 3) rfl)))) (fun _ h9 => h9) rfl dX11_task_58 ?_
        have i_45 := kw_11_10 hG i_h0
        refine lv_aload_n hx hb dX11_task_61 rfl (lv_at hl 0 rfl) ?_
        refine k_get (ci := 11) (v := .ref (gr g h0 3)) (C := RX11) (T := TX11) (N := 12) hx hb hts (fun _ h0_ => List.mem_cons_of_mem _ (List.mem_append_right _ (List.mem_append_right _ (List.mem_append_left _ h0_)))) hown hK hI i_h0.1 k_42 rfl 3 (by decide) (hts (.fieldLink RX11 37 "DeadlineShare" "now" "LDeadlineShare$State;") (List.mem_cons_of_mem _ (List.mem_append_left _ (List.mem_of_getElem? (i := 10) rfl)))) (fun _ h9 => h9) rfl dX11_task_62 ?_
        refine lv_iload_n hx hb dX11_task_65 rfl (lv_at hl 1 rfl) ?_
        refine lv_iload_n hx hb dX11_task_66 rfl (lv_at hl 2 rfl) ?_
        obtain ⟨x_49, x_50, x_51, x_52, x_53, k_48, b_54, b_55⟩ := op_6 hI i_22
        refine va_calli (va_runV (As := [.int p1, .int p2]) (rest := [.ref (gr g h0 10)]) ⟨hx, hb, hml, hown, hts⟩ (c_X6_addTask l dC dI g A hG f_39 (gr g h0 3) p1 p2 i_22) (cwV 2 hts (gi_V (fun w_ h0_ => ⟨List.mem_cons_of_mem _ (List.mem_append_right _ (List.mem_append_right _ (List.mem_append_right _ (List.mem_append_right _ (List.mem_append_right _ (List.mem_append_right _ (List.mem_append_right _ (List.mem_append_left _ h0_)))))))), (tb_c_X6_addTask w_ h0_).2⟩) (List.mem_cons_of_mem _ (List.mem_append_left _ (List.mem_of_getElem? (i := 17) rfl))) (List.mem_cons_of_mem _ (List.mem_append_left _ (List.mem_of_getElem? (i := 18) rfl))) (List.mem_cons_of_mem _ (List.mem_append_left _ (List.mem_of_getElem? (i := 19) rfl))) (List.mem_cons_of_mem _ (List.mem_append_left _ (List.mem_of_getElem? (i := 20) rfl)))) rfl rfl rfl (by decide +kernel) ⟨Nat.le_of_ble_eq_true rfl, Nat.le_of_ble_eq_true rfl⟩) ⟨fun a U g mk q => ⟨q.1, q.2.calling rfl rfl⟩, k_recv hK hI i_22.1 k_48 (ci := 6) rfl, fun U hU hW => ⟨rfl, kIn.of hI hK hE hS hU hW⟩⟩ rfl rfl hl.1 rfl (lv_room (Nat.le_of_ble_eq_true rfl)) dX11_task_67 ⟨Nat.le_of_ble_eq_true rfl, Nat.le_of_ble_eq_true rfl⟩) hS (fun q _ h => h) (fun q h => h) (fun r_58 u t H1 locs ht hvm w_57 hB hz1 hk1 hS => ?_)
        obtain ⟨f_56, hI, kc_59⟩ := hB
        rw [ht] at hI
        have k_60 : f_56 h0 = .inr (11, [.ref (gr g h0 0), .ref (gr g h0 1), .ref (gr g h0 2), .ref (gr g h0 3), .ref (gr g h0 4), .ref (gr g h0 5), .ref (gr g h0 6), .ref (gr g h0 7), .ref (gr g h0 8), .ref (gr g h0 9), .ref (gr g h0 10), .int x_20]) := Kp.at kc_59 i_h0 (by decide) k_42
        have kp_61 := Kp.call kp_43 kc_59 (by decide)
        generalize H1 = H at hI hS ⊢
        refine W.widen (k := 0) (n := 0) (Nat.le_of_ble_eq_true rfl) (Nat.le_of_ble_eq_true rfl) ?_
        obtain ⟨x_63, k_62⟩ := op_4 hI i_45
        refine va_calli (va_runV (As := [.int r_58]) (rest := []) ⟨hx, hb, hml, hown, hts⟩ (c_X4_none l dC dI g A hG f_56 (gr g h0 10) r_58 i_45) (cwV 1 hts (gi_V (fun w_ h0_ => ⟨List.mem_cons_of_mem _ (List.mem_append_right _ (List.mem_append_right _ (List.mem_append_right _ (List.mem_append_right _ (List.mem_append_right _ (List.mem_append_right _ (List.mem_append_right _ (List.mem_append_right _ (List.mem_append_left _ h0_))))))))), (tb_c_X4_none w_ h0_).2⟩) (List.mem_cons_of_mem _ (List.mem_append_left _ (List.mem_of_getElem? (i := 21) rfl))) (List.mem_cons_of_mem _ (List.mem_append_left _ (List.mem_of_getElem? (i := 22) rfl))) (List.mem_cons_of_mem _ (List.mem_append_left _ (List.mem_of_getElem? (i := 23) rfl))) (List.mem_cons_of_mem _ (List.mem_append_left _ (List.mem_of_getElem? (i := 7) rfl)))) rfl rfl rfl (by decide +kernel) ⟨Nat.le_of_ble_eq_true rfl, Nat.le_of_ble_eq_true rfl⟩) ⟨fun a U g mk q => ⟨q.1, q.2.calling rfl rfl⟩, k_recv hK hI i_45.1 k_62 (ci := 4) rfl, fun U hU hW => ⟨rfl, kIn.of hI hK hE hS hU hW⟩⟩ rfl rfl hl.1 rfl (lv_room (Nat.le_of_ble_eq_true rfl)) dX11_task_70 ⟨Nat.le_of_ble_eq_true rfl, Nat.le_of_ble_eq_true rfl⟩) hS (fun q _ h => h) (fun q h => h) (fun r_66 u t H1 locs ht hvm w_65 hB hz1 hk1 hS => ?_)
        obtain ⟨f_64, hI, kc_67⟩ := hB
        rw [ht] at hI
        have k_68 : f_64 h0 = .inr (11, [.ref (gr g h0 0), .ref (gr g h0 1), .ref (gr g h0 2), .ref (gr g h0 3), .ref (gr g h0 4), .ref (gr g h0 5), .ref (gr g h0 6), .ref (gr g h0 7), .ref (gr g h0 8), .ref (gr g h0 9), .ref (gr g h0 10), .int x_20]) := Kp.at kc_67 i_h0 (by decide) k_60
        have kp_69 := Kp.call kp_61 kc_67 (by decide)
        generalize H1 = H at hI hS ⊢
        refine W.widen (k := 0) (n := 0) (Nat.le_of_ble_eq_true rfl) (Nat.le_of_ble_eq_true rfl) ?_
        have w_65 : r_66.toInt = r_58.toInt := w_65
        exact W.iret (v := r_66) hx hb hr (fun t ht hW => ⟨⟨r_66, (), rfl, trivial, ⟨f_64, k_ret ht hI, kp_69⟩⟩, hS.F ht⟩) hS.2.2 dX11_task_73
      · have c_31 := kn_lt rfl (by decide : Int32.toInt 12 = 12) c_31
        refine lv_aload_n hx hb dX11_task_35 rfl (lv_at hl 0 rfl) ?_
        refine k_get (ci := 11) (v := .ref (gr g h0 10)) (C := RX11) (T := TX11) (N := 12) hx hb hts (fun _ h0_ => List.mem_cons_of_mem _ (List.mem_append_right _ (List.mem_append_right _ (List.mem_append_left _ h0_)))) hown hK hI i_h0.1 k_19 rfl 10 (by decide) (hts (.fieldLink RX11 72 "DeadlineShare" "refusals" "LDeadlineShare$Refusals;") (List.mem_cons_of_mem _ (List.mem_append_left _ (List.mem_of_getElem? (i := 3) rfl)))) (fun _ h9 => h9) rfl dX11_task_36 ?_
        have i_71 := kw_11_10 hG i_h0
        refine lv_bipush (v := (-5)) hx hb dX11_task_39 (by decide) ?_
        obtain ⟨x_73, k_72⟩ := op_4 hI i_71
        refine va_calli (va_runV (As := [.int (-5)]) (rest := []) ⟨hx, hb, hml, hown, hts⟩ (c_X4_add l dC dI g A hG f (gr g h0 10) (-5) i_71) (cwV 1 hts (gi_V (fun w_ h0_ => ⟨List.mem_cons_of_mem _ (List.mem_append_right _ (List.mem_append_right _ (List.mem_append_right _ (List.mem_append_left _ h0_)))), (tb_c_X4_add w_ h0_).2⟩) (List.mem_cons_of_mem _ (List.mem_append_left _ (List.mem_of_getElem? (i := 4) rfl))) (List.mem_cons_of_mem _ (List.mem_append_left _ (List.mem_of_getElem? (i := 5) rfl))) (List.mem_cons_of_mem _ (List.mem_append_left _ (List.mem_of_getElem? (i := 6) rfl))) (List.mem_cons_of_mem _ (List.mem_append_left _ (List.mem_of_getElem? (i := 7) rfl)))) rfl rfl rfl (by decide +kernel) ⟨Nat.le_of_ble_eq_true rfl, Nat.le_of_ble_eq_true rfl⟩) ⟨fun a U g mk q => ⟨q.1, q.2.calling rfl rfl⟩, k_recv hK hI i_71.1 k_72 (ci := 4) rfl, fun U hU hW => ⟨rfl, kIn.of hI hK hE hS hU hW⟩⟩ rfl rfl hl.1 rfl (lv_room (Nat.le_of_ble_eq_true rfl)) dX11_task_41 ⟨Nat.le_of_ble_eq_true rfl, Nat.le_of_ble_eq_true rfl⟩) hS (fun q _ h => h) (fun q h => h) (fun r_76 u t H1 locs ht hvm w_75 hB hz1 hk1 hS => ?_)
        obtain ⟨f_74, hI, kc_77⟩ := hB
        rw [ht] at hI
        have k_78 : f_74 h0 = .inr (11, [.ref (gr g h0 0), .ref (gr g h0 1), .ref (gr g h0 2), .ref (gr g h0 3), .ref (gr g h0 4), .ref (gr g h0 5), .ref (gr g h0 6), .ref (gr g h0 7), .ref (gr g h0 8), .ref (gr g h0 9), .ref (gr g h0 10), .int x_20]) := Kp.at kc_77 i_h0 (by decide) k_19
        have k_79 : f_74 (gr g h0 3) = .inr (6, [.ref (gr g (gr g h0 3) 0), .ref (gr g (gr g h0 3) 1), .ref (gr g (gr g h0 3) 2), .ref (gr g (gr g h0 3) 3), .ref (gr g (gr g h0 3) 4), .int x_24, .int x_25, .long x_26, .int x_27, .int x_28]) := Kp.at kc_77 i_22 (by decide) k_23
        have kp_80 := Kp.call hk0 kc_77 (by decide)
        generalize H1 = H at hI hS ⊢
        refine W.widen (k := 0) (n := 0) (Nat.le_of_ble_eq_true rfl) (Nat.le_of_ble_eq_true rfl) ?_
        have w_75 : r_76.toInt = (-5 : Int32).toInt := w_75
        exact W.iret (v := r_76) hx hb hr (fun t ht hW => ⟨⟨r_76, (), rfl, trivial, ⟨f_74, k_ret ht hI, kp_80⟩⟩, hS.F ht⟩) hS.2.2 dX11_task_44
    · have c_18 := kc_eq rfl (by decide : Int32.toInt 0 = 0) c_18
      exact J_14  _ _ _ hI hS  (lv_sub hl [0, 1, 2] rfl)
