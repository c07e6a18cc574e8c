theorem tw_390 : q_g (.selects RX8 yX8_refillAt yX8_refillAt) := ⟨(List.mem_append_right _ (List.mem_of_getElem? (i := 789) (by decide +kernel))), good_of_word (by decide +kernel)⟩
theorem tw_391 : q_g (.instanceMethod yX8_refillAt) := ⟨(List.mem_append_right _ (List.mem_of_getElem? (i := 788) (by decide +kernel))), good_of_word (by decide +kernel)⟩
theorem tw_392 : q_g (.methodLink RX6 198 yX8_refillAt) := ⟨(List.mem_append_right _ (List.mem_of_getElem? (i := 787) (by decide +kernel))), good_of_word (by decide +kernel)⟩
theorem tw_393 : q_g (.selects RX6 yX6_wake yX6_wake) := ⟨(List.mem_append_left _ (List.mem_of_getElem? (i := 9) (by decide +kernel))), good_of_word (by decide +kernel)⟩
theorem tw_394 : q_g (.instanceMethod yX6_wake) := ⟨(List.mem_append_right _ (List.mem_of_getElem? (i := 793) (by decide +kernel))), good_of_word (by decide +kernel)⟩
theorem tw_395 : q_g (.methodLink RX6 201 yX6_wake) := ⟨(List.mem_append_right _ (List.mem_of_getElem? (i := 791) (by decide +kernel))), good_of_word (by decide +kernel)⟩
theorem tw_396 : q_g (.selects RX6 yX6_goOnAfterRun yX6_goOnAfterRun) := ⟨(List.mem_append_left _ (List.mem_of_getElem? (i := 15) (by decide +kernel))), good_of_word (by decide +kernel)⟩
theorem tw_397 : q_g (.instanceMethod yX6_goOnAfterRun) := ⟨(List.mem_append_right _ (List.mem_of_getElem? (i := 868) (by decide +kernel))), good_of_word (by decide +kernel)⟩
theorem tw_398 : q_g (.methodLink RX6 220 yX6_goOnAfterRun) := ⟨(List.mem_append_right _ (List.mem_of_getElem? (i := 866) (by decide +kernel))), good_of_word (by decide +kernel)⟩
theorem tw_399 : q_g (.selects RX6 yX6_serve yX6_serve) := ⟨(List.mem_append_left _ (List.mem_of_getElem? (i := 12) (by decide +kernel))), good_of_word (by decide +kernel)⟩
theorem tw_400 : q_g (.instanceMethod yX6_serve) := ⟨(List.mem_append_right _ (List.mem_of_getElem? (i := 849) (by decide +kernel))), good_of_word (by decide +kernel)⟩
theorem tw_401 : q_g (.methodLink RX6 217 yX6_serve) := ⟨(List.mem_append_right _ (List.mem_of_getElem? (i := 847) (by decide +kernel))), good_of_word (by decide +kernel)⟩
theorem tw_402 : q_g (.selects RX2 yX2_put yX2_put) := ⟨(List.mem_append_right _ (List.mem_of_getElem? (i := 845) (by decide +kernel))), good_of_word (by decide +kernel)⟩
theorem tw_403 : q_g (.instanceMethod yX2_put) := ⟨(List.mem_append_right _ (List.mem_of_getElem? (i := 844) (by decide +kernel))), good_of_word (by decide +kernel)⟩
theorem tw_404 : q_g (.methodLink RX6 213 yX2_put) := ⟨(List.mem_append_right _ (List.mem_of_getElem? (i := 843) (by decide +kernel))), good_of_word (by decide +kernel)⟩
theorem tw_405 : q_g (.selects RX6 yX6_weightsAsBits yX6_weightsAsBits) := ⟨(List.mem_append_left _ (List.mem_of_getElem? (i := 11) (by decide +kernel))), good_of_word (by decide +kernel)⟩
theorem tw_406 : q_g (.instanceMethod yX6_weightsAsBits) := ⟨(List.mem_append_right _ (List.mem_of_getElem? (i := 838) (by decide +kernel))), good_of_word (by decide +kernel)⟩
theorem tw_407 : q_g (.methodLink RX6 210 yX6_weightsAsBits) := ⟨(List.mem_append_right _ (List.mem_of_getElem? (i := 836) (by decide +kernel))), good_of_word (by decide +kernel)⟩
theorem tw_408 : q_g (.selects RX0 yX0_pick yX0_pick) := ⟨(List.mem_append_right _ (List.mem_of_getElem? (i := 799) (by decide +kernel))), good_of_word (by decide +kernel)⟩
theorem tw_409 : q_g (.instanceMethod yX0_pick) := ⟨(List.mem_append_right _ (List.mem_of_getElem? (i := 798) (by decide +kernel))), good_of_word (by decide +kernel)⟩
theorem tw_410 : q_g (.methodLink RX6 204 yX0_pick) := ⟨(List.mem_append_right _ (List.mem_of_getElem? (i := 797) (by decide +kernel))), good_of_word (by decide +kernel)⟩
theorem tw_411 : q_g (.code yX6_tick cX6_tick 3 (some .int)) := ⟨(List.mem_append_right _ (List.mem_of_getElem? (i := 786) (by decide +kernel))), good_of_word (by decide +kernel)⟩
def ow_c_X6_tick : List Cond := [.fieldLink RX6 48 "DeadlineShare$State" "count" "I", .methodLink RX6 204 yX0_pick, .instanceMethod yX0_pick, .selects RX0 yX0_pick yX0_pick, .initialized RX0, .fieldLink RX6 20 "DeadlineShare$State" "log" "LDeadlineShare$Log;", .fieldLink RX6 58 "DeadlineShare$State" "time" "I", .methodLink RX6 108 yX6_weightOfAll, .instanceMethod yX6_weightOfAll, .selects RX6 yX6_weightOfAll yX6_weightOfAll, .initialized RX6, .methodLink RX6 210 yX6_weightsAsBits, .instanceMethod yX6_weightsAsBits, .selects RX6 yX6_weightsAsBits yX6_weightsAsBits, .methodLink RX6 213 yX2_put, .instanceMethod yX2_put, .selects RX2 yX2_put yX2_put, .initialized RX2, .methodLink RX6 194 yX6_has, .instanceMethod yX6_has, .selects RX6 yX6_has yX6_has, .fieldLink RX6 38 "DeadlineShare$State" "holder" "I", .fieldLink RX6 11 "DeadlineShare$State" "tasks" "[LDeadlineShare$Task;", .methodLink RX6 217 yX6_serve, .instanceMethod yX6_serve, .selects RX6 yX6_serve yX6_serve, .methodLink RX6 220 yX6_goOnAfterRun, .instanceMethod yX6_goOnAfterRun, .selects RX6 yX6_goOnAfterRun yX6_goOnAfterRun, .methodLink RX6 201 yX6_wake, .instanceMethod yX6_wake, .selects RX6 yX6_wake yX6_wake, .methodLink RX6 198 yX8_refillAt, .instanceMethod yX8_refillAt, .selects RX8 yX8_refillAt yX8_refillAt, .initialized RX8]
def wq_c_X6_tick : List Cond := .code yX6_tick cX6_tick 3 (some .int) :: (ow_c_X6_tick ++ (u_ws RX6 TX6 10 ++ (wq_c_X0_pick ++ (wq_c_X6_weightOfAll ++ (wq_c_X6_weightsAsBits ++ (wq_c_X2_put ++ (wq_c_X6_has ++ (wq_c_X6_serve ++ (wq_c_X6_goOnAfterRun ++ (wq_c_X6_wake ++ (wq_c_X8_refillAt ++ ([] : List Cond))))))))))))
theorem tb_c_X6_tick : ∀ w ∈ wq_c_X6_tick, q_g w := by
  unfold wq_c_X6_tick ow_c_X6_tick
  exact q_cons tw_411 (q_app (q_cons tw_13 (q_cons tw_410 (q_cons tw_409 (q_cons tw_408 (q_cons tw_93 (q_cons tw_151 (q_cons tw_146 (q_cons tw_264 (q_cons tw_88 (q_cons tw_87 (q_cons tw_47 (q_cons tw_407 (q_cons tw_406 (q_cons tw_405 (q_cons tw_404 (q_cons tw_403 (q_cons tw_402 (q_cons tw_147 (q_cons tw_75 (q_cons tw_74 (q_cons tw_73 (q_cons tw_145 (q_cons tw_12 (q_cons tw_401 (q_cons tw_400 (q_cons tw_399 (q_cons tw_398 (q_cons tw_397 (q_cons tw_396 (q_cons tw_395 (q_cons tw_394 (q_cons tw_393 (q_cons tw_392 (q_cons tw_391 (q_cons tw_390 (q_cons tw_8 q_nil)))))))))))))))))))))))))))))))))))) (q_app tu_X6 (q_app tb_c_X0_pick (q_app tb_c_X6_weightOfAll (q_app tb_c_X6_weightsAsBits (q_app tb_c_X2_put (q_app tb_c_X6_has (q_app tb_c_X6_serve (q_app tb_c_X6_goOnAfterRun (q_app tb_c_X6_wake (q_app tb_c_X8_refillAt q_nil)))))))))))
set_option maxHeartbeats 4000000 in
set_option maxRecDepth 100000 in
theorem c_X6_tick (l : Launch) (dC : Nat → ClassId) (dI : Nat → Nat → Nat) (g : kG) (A : Nat → Prop) (hG : kWf g) (f : Nat → va_E) (h0 : Nat) (p1 : Nat) (i_h0 : ik g 6 h0) (i_p1 : ik g 0 p1) : Met l yX6_tick wq_c_X6_tick ({ frames := 5, cells := 0, slots := 0, locals := 117 } : Room) (va_Pc [.ref h0, .ref p1] (fun U => kIn dC dI g A f U)) (va_Qi (fun (r : Int32) (_ : Unit) => True) (fun (_ : Unit) t => ∃ f1 : Nat → va_E, Iv dC dI g A f1 t.heap ∧ Kp g [0, 5, 6, 8, 10, 23] f f1) A) 0 0 A := by
  refine Met.ofW (cc := cX6_tick) (maxL := 3) (ret := (some .int)) (by decide) rfl ?_
  intro p e s m args below meth c s₁ B hml hv
  obtain ⟨rfl, hI, hK, hE⟩ := hv
  have hx := B.exec
  have hb := B.bytes
  have hr := B.returns
  have hts := atoms_spec (ws := wq_c_X6_tick) B.pre
  have hown : s.vm.findClass RX6 = some m.cls := findClass_of_methodNamed B.named
  have hlocks := B.notSynchronized
  have hS : va_S A s.heap s.heap [] := va_S.rf
  have hk0 : Kp g [0, 5, 6, 8, 10, 23] f f := Kp.rf
  have hl := lv_entry ([.ref h0, .ref p1]) (n := 3) (Nat.le_of_ble_eq_true rfl)
  rw [lg_entry_eq]
  generalize (lg_sl ([.ref h0, .ref p1]) ++ List.replicate (3 - (lg_sl ([.ref h0, .ref p1])).length) Slot.unset).toArray = ls at hl ⊢
  have hl : lv_has ls 3 [(0, .ref h0), (1, .ref p1)] := hl
  refine lv_iconst (v := 0) hx hb dX6_tick_0 (by decide) ?_
  refine lv_istore_n (lv' := [(2, .int 0), (0, .ref h0), (1, .ref p1)]) hx hb dX6_tick_1 rfl hl (by decide) rfl (fun ls hl => ?_)
  have K_2 : ∀ (nn : Nat) (y_1 : Int32) (f_2 : Nat → va_E) (H : Heap) (locs : List Loc) (ls : Array Slot), (12 - y_1.toInt).toNat < nn → Iv dC dI g A f_2 H → va_S A s.heap H locs → Kp g [0, 5, 6, 8, 10, 23] f f_2 → 0 ≤ y_1.toInt → lv_has ls 3 [(2, .int y_1), (0, .ref h0), (1, .ref p1)] → W p l e (headSpec wq_c_X6_tick ({ frames := 5, cells := 0, slots := 0, locals := 117 } : Room)).room s m ([.ref h0, .ref p1].toArray) below meth c H locs 0 0 (MQ below (va_Qi (fun (r : Int32) (_ : Unit) => True) (fun (_ : Unit) t => ∃ f1 : Nat → va_E, Iv dC dI g A f1 t.heap ∧ Kp g [0, 5, 6, 8, 10, 23] f f1) A) ([.ref h0, .ref p1].toArray) s 0 0 A) (F0 m 2 ls []) := by
    intro nn
    induction nn with
    | zero => intro y_1 f_2 H locs ls m_5; exact absurd m_5 (Nat.not_lt_zero _)
    | succ nn ih =>
      intro y_1 f_2 H locs ls m_5 hI hS kp_3 t_4 hl
      have g_6 := Int32.toInt_lt y_1
      have g_7 := Int32.le_toInt y_1
      refine lv_iload_n hx hb dX6_tick_2 rfl (lv_at hl 0 rfl) ?_
      refine lv_aload_n hx hb dX6_tick_3 rfl (lv_at hl 1 rfl) ?_
      obtain ⟨x_9, x_10, x_11, x_12, x_13, k_8, b_14, b_15⟩ := op_6 hI i_h0
      refine k_get (ci := 6) (v := .int x_9) (C := RX6) (T := TX6) (N := 10) hx hb hts (fun _ h0_ => List.mem_cons_of_mem _ (List.mem_append_right _ (List.mem_append_left _ h0_))) hown hK hI i_h0.1 k_8 rfl 5 (by decide) (hts (.fieldLink RX6 48 "DeadlineShare$State" "count" "I") (List.mem_cons_of_mem _ (List.mem_append_left _ (List.mem_of_getElem? (i := 0) rfl)))) (fun _ h9 => h9) rfl dX6_tick_4 ?_
      refine lv_icmp_ge (tgt := 29) hx hb dX6_tick_7 (by decide) (fun c_16 => ?_) (fun c_16 => ?_)
      · have c_16 := kc_le rfl rfl c_16
        refine lv_iconst (v := 0) hx hb dX6_tick_29 (by decide) ?_
        refine lv_istore_n (lv' := [(2, .int 0), (0, .ref h0), (1, .ref p1)]) hx hb dX6_tick_30 rfl hl (by decide) rfl (fun ls hl => ?_)
        have K_31 : ∀ (nn : Nat) (y_17 : Int32) (f_18 : Nat → va_E) (H : Heap) (locs : List Loc) (ls : Array Slot), (12 - y_17.toInt).toNat < nn → Iv dC dI g A f_18 H → va_S A s.heap H locs → Kp g [0, 5, 6, 8, 10, 23] f f_18 → 0 ≤ y_17.toInt → lv_has ls 3 [(2, .int y_17), (0, .ref h0), (1, .ref p1)] → W p l e (headSpec wq_c_X6_tick ({ frames := 5, cells := 0, slots := 0, locals := 117 } : Room)).room s m ([.ref h0, .ref p1].toArray) below meth c H locs 0 0 (MQ below (va_Qi (fun (r : Int32) (_ : Unit) => True) (fun (_ : Unit) t => ∃ f1 : Nat → va_E, Iv dC dI g A f1 t.heap ∧ Kp g [0, 5, 6, 8, 10, 23] f f1) A) ([.ref h0, .ref p1].toArray) s 0 0 A) (F0 m 31 ls []) := by
          intro nn
          induction nn with
          | zero => intro y_17 f_18 H locs ls m_21; exact absurd m_21 (Nat.not_lt_zero _)
          | succ nn ih =>
            intro y_17 f_18 H locs ls m_21 hI hS kp_19 t_20 hl
            have g_22 := Int32.toInt_lt y_17
            have g_23 := Int32.le_toInt y_17
            refine lv_iload_n hx hb dX6_tick_31 rfl (lv_at hl 0 rfl) ?_
            refine lv_aload_n hx hb dX6_tick_32 rfl (lv_at hl 1 rfl) ?_
            obtain ⟨x_25, x_26, x_27, x_28, x_29, k_24, b_30, b_31⟩ := op_6 hI i_h0
            refine k_get (ci := 6) (v := .int x_25) (C := RX6) (T := TX6) (N := 10) hx hb hts (fun _ h0_ => List.mem_cons_of_mem _ (List.mem_append_right _ (List.mem_append_left _ h0_))) hown hK hI i_h0.1 k_24 rfl 5 (by decide) (hts (.fieldLink RX6 48 "DeadlineShare$State" "count" "I") (List.mem_cons_of_mem _ (List.mem_append_left _ (List.mem_of_getElem? (i := 0) rfl)))) (fun _ h9 => h9) rfl dX6_tick_33 ?_
            refine lv_icmp_ge (tgt := 55) hx hb dX6_tick_36 (by decide) (fun c_32 => ?_) (fun c_32 => ?_)
            · have c_32 := kc_le rfl rfl c_32
              refine lv_aload_n hx hb dX6_tick_55 rfl (lv_at hl 2 rfl) ?_
              refine lv_aload_n hx hb dX6_tick_56 rfl (lv_at hl 1 rfl) ?_
              obtain ⟨x_34, x_35, k_33⟩ := op_0 hI i_p1
              refine va_calli (va_runV (As := [.ref h0]) (rest := []) ⟨hx, hb, hml, hown, hts⟩ (c_X0_pick l dC dI g A hG f_18 p1 h0 i_p1 i_h0) (cwV 1 hts (gi_V (fun w_ h0_ => ⟨List.mem_cons_of_mem _ (List.mem_append_right _ (List.mem_append_right _ (List.mem_append_left _ h0_))), (tb_c_X0_pick w_ h0_).2⟩) (List.mem_cons_of_mem _ (List.mem_append_left _ (List.mem_of_getElem? (i := 1) rfl))) (List.mem_cons_of_mem _ (List.mem_append_left _ (List.mem_of_getElem? (i := 2) rfl))) (List.mem_cons_of_mem _ (List.mem_append_left _ (List.mem_of_getElem? (i := 3) rfl))) (List.mem_cons_of_mem _ (List.mem_append_left _ (List.mem_of_getElem? (i := 4) rfl)))) rfl rfl rfl (by decide +kernel) ⟨Nat.le_of_ble_eq_true rfl, Nat.le_of_ble_eq_true rfl⟩) ⟨fun a U g mk q => ⟨q.1, q.2.calling rfl rfl⟩, k_recv hK hI i_p1.1 k_33 (ci := 0) rfl, fun U hU hW => ⟨rfl, kIn.of hI hK hE hS hU hW⟩⟩ rfl rfl hl.1 rfl (lv_room (Nat.le_of_ble_eq_true rfl)) dX6_tick_57 ⟨Nat.le_of_ble_eq_true rfl, Nat.le_of_ble_eq_true rfl⟩) hS (fun q _ h => h) (fun q h => h) (fun r_38 u t H1 locs ht hvm w_37 hB hz1 hk1 hS => ?_)
              obtain ⟨f_36, hI, kc_39⟩ := hB
              rw [ht] at hI
              have k_41 : f_36 h0 = .inr (6, [.ref (gr g h0 0), .ref (gr g h0 1), .ref (gr g h0 2), .ref (gr g h0 3), .ref (gr g h0 4), .int x_25, .int x_26, .long x_27, .int x_28, .int x_29]) := Kp.at kc_39 i_h0 (by decide) k_24
              have kp_42 := Kp.call kp_19 kc_39 (by decide)
              generalize H1 = H at hI hS ⊢
              refine W.widen (k := 0) (n := 0) (Nat.le_of_ble_eq_true rfl) (Nat.le_of_ble_eq_true rfl) ?_
              refine lv_istore_n (lv' := [(2, .int r_38), (0, .ref h0), (1, .ref p1)]) hx hb dX6_tick_60 rfl hl (by decide) rfl (fun ls hl => ?_)
              refine lv_aload_n hx hb dX6_tick_61 rfl (lv_at hl 1 rfl) ?_
              refine k_get (ci := 6) (v := .ref (gr g h0 2)) (C := RX6) (T := TX6) (N := 10) hx hb hts (fun _ h0_ => List.mem_cons_of_mem _ (List.mem_append_right _ (List.mem_append_left _ h0_))) hown hK hI i_h0.1 k_41 rfl 2 (by decide) (hts (.fieldLink RX6 20 "DeadlineShare$State" "log" "LDeadlineShare$Log;") (List.mem_cons_of_mem _ (List.mem_append_left _ (List.mem_of_getElem? (i := 5) rfl)))) (fun _ h9 => h9) rfl dX6_tick_62 ?_
              have i_44 := kw_6_2 hG i_h0
              refine lv_aload_n hx hb dX6_tick_65 rfl (lv_at hl 1 rfl) ?_
              refine k_get (ci := 6) (v := .int x_26) (C := RX6) (T := TX6) (N := 10) hx hb hts (fun _ h0_ => List.mem_cons_of_mem _ (List.mem_append_right _ (List.mem_append_left _ h0_))) hown hK hI i_h0.1 k_41 rfl 6 (by decide) (hts (.fieldLink RX6 58 "DeadlineShare$State" "time" "I") (List.mem_cons_of_mem _ (List.mem_append_left _ (List.mem_of_getElem? (i := 6) rfl)))) (fun _ h9 => h9) rfl dX6_tick_66 ?_
              refine lv_iload_n hx hb dX6_tick_69 rfl (lv_at hl 0 rfl) ?_
              refine lv_aload_n hx hb dX6_tick_70 rfl (lv_at hl 1 rfl) ?_
              refine va_calli (va_runV (As := []) (rest := [.int r_38, .int x_26, .ref (gr g h0 2)]) ⟨hx, hb, hml, hown, hts⟩ (c_X6_weightOfAll l dC dI g A hG f_36 h0 i_h0) (cwV 0 hts (gi_V (fun w_ h0_ => ⟨List.mem_cons_of_mem _ (List.mem_append_right _ (List.mem_append_right _ (List.mem_append_right _ (List.mem_append_left _ h0_)))), (tb_c_X6_weightOfAll w_ h0_).2⟩) (List.mem_cons_of_mem _ (List.mem_append_left _ (List.mem_of_getElem? (i := 7) rfl))) (List.mem_cons_of_mem _ (List.mem_append_left _ (List.mem_of_getElem? (i := 8) rfl))) (List.mem_cons_of_mem _ (List.mem_append_left _ (List.mem_of_getElem? (i := 9) rfl))) (List.mem_cons_of_mem _ (List.mem_append_left _ (List.mem_of_getElem? (i := 10) rfl)))) rfl rfl rfl (by decide +kernel) ⟨Nat.le_of_ble_eq_true rfl, Nat.le_of_ble_eq_true rfl⟩) ⟨fun a U g mk q => ⟨q.1, q.2.calling rfl rfl⟩, k_recv hK hI i_h0.1 k_41 (ci := 6) rfl, fun U hU hW => ⟨rfl, kIn.of hI hK hE hS hU hW⟩⟩ rfl rfl hl.1 rfl (lv_room (Nat.le_of_ble_eq_true rfl)) dX6_tick_71 ⟨Nat.le_of_ble_eq_true rfl, Nat.le_of_ble_eq_true rfl⟩) hS (fun q _ h => h) (fun q h => h) (fun r_46 u t H1 locs ht hvm w_45 hB hz1 hk1 hS => ?_)
              have hI : Iv dC dI g A f_36 t.heap := hB
              rw [ht] at hI
              generalize H1 = H at hI hS ⊢
              refine W.widen (k := 0) (n := 0) (Nat.le_of_ble_eq_true rfl) (Nat.le_of_ble_eq_true rfl) ?_
              refine lv_aload_n hx hb dX6_tick_74 rfl (lv_at hl 1 rfl) ?_
              refine va_calll (va_runV (As := []) (rest := [.int r_46, .int r_38, .int x_26, .ref (gr g h0 2)]) ⟨hx, hb, hml, hown, hts⟩ (c_X6_weightsAsBits l dC dI g A hG f_36 h0 i_h0) (cwV 0 hts (gi_V (fun w_ h0_ => ⟨List.mem_cons_of_mem _ (List.mem_append_right _ (List.mem_append_right _ (List.mem_append_right _ (List.mem_append_right _ (List.mem_append_left _ h0_))))), (tb_c_X6_weightsAsBits w_ h0_).2⟩) (List.mem_cons_of_mem _ (List.mem_append_left _ (List.mem_of_getElem? (i := 11) rfl))) (List.mem_cons_of_mem _ (List.mem_append_left _ (List.mem_of_getElem? (i := 12) rfl))) (List.mem_cons_of_mem _ (List.mem_append_left _ (List.mem_of_getElem? (i := 13) rfl))) (List.mem_cons_of_mem _ (List.mem_append_left _ (List.mem_of_getElem? (i := 10) rfl)))) rfl rfl rfl (by decide +kernel) ⟨Nat.le_of_ble_eq_true rfl, Nat.le_of_ble_eq_true rfl⟩) ⟨fun a U g mk q => ⟨q.1, q.2.calling rfl rfl⟩, k_recv hK hI i_h0.1 k_41 (ci := 6) rfl, fun U hU hW => ⟨rfl, kIn.of hI hK hE hS hU hW⟩⟩ rfl rfl hl.1 rfl (lv_room (Nat.le_of_ble_eq_true rfl)) dX6_tick_75 ⟨Nat.le_of_ble_eq_true rfl, Nat.le_of_ble_eq_true rfl⟩) hS (fun q _ h => h) (fun q h => h) (fun r_48 u t H1 locs ht hvm w_47 hB hz1 hk1 hS => ?_)
              have hI : Iv dC dI g A f_36 t.heap := hB
              rw [ht] at hI
              generalize H1 = H at hI hS ⊢
              refine W.widen (k := 0) (n := 0) (Nat.le_of_ble_eq_true rfl) (Nat.le_of_ble_eq_true rfl) ?_
              have k_49 := op_2 hI i_44
              refine va_callv (va_runV (As := [.int x_26, .int r_38, .int r_46, .long r_48]) (rest := []) ⟨hx, hb, hml, hown, hts⟩ (c_X2_put l dC dI g A hG f_36 (gr g h0 2) x_26 r_38 r_46 r_48 i_44) (cwV 4 hts (gi_V (fun w_ h0_ => ⟨List.mem_cons_of_mem _ (List.mem_append_right _ (List.mem_append_right _ (List.mem_append_right _ (List.mem_append_right _ (List.mem_append_right _ (List.mem_append_left _ h0_)))))), (tb_c_X2_put w_ h0_).2⟩) (List.mem_cons_of_mem _ (List.mem_append_left _ (List.mem_of_getElem? (i := 14) rfl))) (List.mem_cons_of_mem _ (List.mem_append_left _ (List.mem_of_getElem? (i := 15) rfl))) (List.mem_cons_of_mem _ (List.mem_append_left _ (List.mem_of_getElem? (i := 16) rfl))) (List.mem_cons_of_mem _ (List.mem_append_left _ (List.mem_of_getElem? (i := 17) rfl)))) rfl rfl rfl (by decide +kernel) ⟨Nat.le_of_ble_eq_true rfl, Nat.le_of_ble_eq_true rfl⟩) ⟨fun a U g mk q => ⟨q.1, q.2.calling rfl rfl⟩, k_recv hK hI i_44.1 k_49 (ci := 2) rfl, fun U hU hW => ⟨rfl, kIn.of hI hK hE hS hU hW⟩⟩ rfl rfl hl.1 rfl (lv_room (Nat.le_of_ble_eq_true rfl)) dX6_tick_78 ⟨Nat.le_of_ble_eq_true rfl, Nat.le_of_ble_eq_true rfl⟩) hS (fun q _ h => h) (fun q h => h) (fun u t H1 locs ht hvm _ hB hz1 hk1 hS => ?_)
              obtain ⟨f_50, hI, kc_52⟩ := hB
              rw [ht] at hI
              have k_54 : f_50 h0 = .inr (6, [.ref (gr g h0 0), .ref (gr g h0 1), .ref (gr g h0 2), .ref (gr g h0 3), .ref (gr g h0 4), .int x_25, .int x_26, .long x_27, .int x_28, .int x_29]) := Kp.at kc_52 i_h0 (by decide) k_41
              have k_55 : f_50 (gr g h0 2) = .inr (2, [.ref (gr g (gr g h0 2) 0)]) := Kp.at kc_52 i_44 (by decide) k_49
              have kp_56 := Kp.call kp_42 kc_52 (by decide)
              generalize H1 = H at hI hS ⊢
              refine W.widen (k := 0) (n := 0) (Nat.le_of_ble_eq_true rfl) (Nat.le_of_ble_eq_true rfl) ?_
              refine lv_aload_n hx hb dX6_tick_81 rfl (lv_at hl 1 rfl) ?_
              refine lv_iload_n hx hb dX6_tick_82 rfl (lv_at hl 0 rfl) ?_
              refine va_calli (va_runV (As := [.int r_38]) (rest := []) ⟨hx, hb, hml, hown, hts⟩ (c_X6_has l dC dI g A hG f_50 h0 r_38 i_h0) (cwV 1 hts (gi_V (fun w_ h0_ => ⟨List.mem_cons_of_mem _ (List.mem_append_right _ (List.mem_append_right _ (List.mem_append_right _ (List.mem_append_right _ (List.mem_append_right _ (List.mem_append_right _ (List.mem_append_left _ h0_))))))), (tb_c_X6_has w_ h0_).2⟩) (List.mem_cons_of_mem _ (List.mem_append_left _ (List.mem_of_getElem? (i := 18) rfl))) (List.mem_cons_of_mem _ (List.mem_append_left _ (List.mem_of_getElem? (i := 19) rfl))) (List.mem_cons_of_mem _ (List.mem_append_left _ (List.mem_of_getElem? (i := 20) rfl))) (List.mem_cons_of_mem _ (List.mem_append_left _ (List.mem_of_getElem? (i := 10) rfl)))) rfl rfl rfl (by decide +kernel) ⟨Nat.le_of_ble_eq_true rfl, Nat.le_of_ble_eq_true rfl⟩) ⟨fun a U g mk q => ⟨q.1, q.2.calling rfl rfl⟩, k_recv hK hI i_h0.1 k_54 (ci := 6) rfl, fun U hU hW => ⟨rfl, kIn.of hI hK hE hS hU hW⟩⟩ rfl rfl hl.1 rfl (lv_room (Nat.le_of_ble_eq_true rfl)) dX6_tick_83 ⟨Nat.le_of_ble_eq_true rfl, Nat.le_of_ble_eq_true rfl⟩) hS (fun q _ h => h) (fun q h => h) (fun r_58 u t H1 locs ht hvm w_57 hB hz1 hk1 hS => ?_)
              have hI : Iv dC dI g A f_50 t.heap := hB
              rw [ht] at hI
              generalize H1 = H at hI hS ⊢
              refine W.widen (k := 0) (n := 0) (Nat.le_of_ble_eq_true rfl) (Nat.le_of_ble_eq_true rfl) ?_
              have w_57 : r_58.toInt = 0 ∨ (0 ≤ r_38.toInt ∧ r_38.toInt < 12) := w_57
              refine lv_if_eq (tgt := 112) hx hb dX6_tick_86 (by decide) (fun c_59 => ?_) (fun c_59 => ?_)
              · have c_59 := kc_eq rfl (by decide : Int32.toInt 0 = 0) c_59
                refine lv_aload_n hx hb dX6_tick_112 rfl (lv_at hl 1 rfl) ?_
                refine lv_iconst (v := (-1)) hx hb dX6_tick_113 (by decide) ?_
                refine k_put (ci := 6) (v := .int (-1)) (ty := .int) (C := RX6) (T := TX6) (N := 10) hx hb hts (fun _ h0_ => List.mem_cons_of_mem _ (List.mem_append_right _ (List.mem_append_left _ h0_))) tyX6 tyX6_ok nmX6 hown hK hI hS i_h0.1 k_54 rfl 9 (by decide) (hts (.fieldLink RX6 38 "DeadlineShare$State" "holder" "I") (List.mem_cons_of_mem _ (List.mem_append_left _ (List.mem_of_getElem? (i := 21) rfl)))) (fun _ h9 => h9) rfl (by decide +kernel) rfl rfl (Nat.le_of_ble_eq_true rfl) rfl (cl_6 i_h0 (by omega)) dX6_tick_114 (fun f_60 H locs e_61 hI hS => ?_)
                have k_63 : f_60 h0 = .inr (6, [.ref (gr g h0 0), .ref (gr g h0 1), .ref (gr g h0 2), .ref (gr g h0 3), .ref (gr g h0 4), .int x_25, .int x_26, .long x_27, .int x_28, .int (-1)]) := by rw [e_61]; exact va_up_self _ _ _
                have k_64 : f_60 (gr g h0 2) = .inr (2, [.ref (gr g (gr g h0 2) 0)]) := by rw [e_61, va_up_ne _ _ (ik_ne i_44 i_h0 (by decide))]; exact k_55
                have kp_62 := Kp.put kp_56 i_h0 (by decide) e_61
                refine lv_aload_n hx hb dX6_tick_117 rfl (lv_at hl 1 rfl) ?_
                refine lv_dup hx hb dX6_tick_118 rfl ?_
                refine k_get (ci := 6) (v := .int x_26) (C := RX6) (T := TX6) (N := 10) hx hb hts (fun _ h0_ => List.mem_cons_of_mem _ (List.mem_append_right _ (List.mem_append_left _ h0_))) hown hK hI i_h0.1 k_63 rfl 6 (by decide) (hts (.fieldLink RX6 58 "DeadlineShare$State" "time" "I") (List.mem_cons_of_mem _ (List.mem_append_left _ (List.mem_of_getElem? (i := 6) rfl)))) (fun _ h9 => h9) rfl dX6_tick_119 ?_
                refine lv_iconst (v := 1) hx hb dX6_tick_122 (by decide) ?_
                refine lv_iadd hx hb dX6_tick_123 ?_
                refine lv_topi (fun v_65 ev_65 => ?_)
                have tv_65 := k_ad x_26 1
                rw [← ev_65, show Int32.toInt 1 = 1 from by decide] at tv_65
                refine k_put (ci := 6) (v := .int v_65) (ty := .int) (C := RX6) (T := TX6) (N := 10) hx hb hts (fun _ h0_ => List.mem_cons_of_mem _ (List.mem_append_right _ (List.mem_append_left _ h0_))) tyX6 tyX6_ok nmX6 hown hK hI hS i_h0.1 k_63 rfl 6 (by decide) (hts (.fieldLink RX6 58 "DeadlineShare$State" "time" "I") (List.mem_cons_of_mem _ (List.mem_append_left _ (List.mem_of_getElem? (i := 6) rfl)))) (fun _ h9 => h9) rfl (by decide +kernel) rfl rfl (Nat.le_of_ble_eq_true rfl) rfl (cl_6 i_h0 (by omega)) dX6_tick_124 (fun f_66 H locs e_67 hI hS => ?_)
                have k_69 : f_66 h0 = .inr (6, [.ref (gr g h0 0), .ref (gr g h0 1), .ref (gr g h0 2), .ref (gr g h0 3), .ref (gr g h0 4), .int x_25, .int v_65, .long x_27, .int x_28, .int (-1)]) := by rw [e_67]; exact va_up_self _ _ _
                have k_70 : f_66 (gr g h0 2) = .inr (2, [.ref (gr g (gr g h0 2) 0)]) := by rw [e_67, va_up_ne _ _ (ik_ne i_44 i_h0 (by decide))]; exact k_64
                have kp_68 := Kp.put kp_62 i_h0 (by decide) e_67
                refine lv_iload_n hx hb dX6_tick_127 rfl (lv_at hl 0 rfl) ?_
                exact W.iret (v := r_38) hx hb hr (fun t ht hW => ⟨⟨r_38, (), rfl, trivial, ⟨f_66, k_ret ht hI, kp_68⟩⟩, hS.F ht⟩) hS.2.2 dX6_tick_128
              · have c_59 := kn_eq rfl (by decide : Int32.toInt 0 = 0) c_59
                refine lv_aload_n hx hb dX6_tick_89 rfl (lv_at hl 1 rfl) ?_
                refine lv_aload_n hx hb dX6_tick_90 rfl (lv_at hl 1 rfl) ?_
                refine k_get (ci := 6) (v := .ref (gr g h0 1)) (C := RX6) (T := TX6) (N := 10) hx hb hts (fun _ h0_ => List.mem_cons_of_mem _ (List.mem_append_right _ (List.mem_append_left _ h0_))) hown hK hI i_h0.1 k_54 rfl 1 (by decide) (hts (.fieldLink RX6 11 "DeadlineShare$State" "tasks" "[LDeadlineShare$Task;") (List.mem_cons_of_mem _ (List.mem_append_left _ (List.mem_of_getElem? (i := 22) rfl)))) (fun _ h9 => h9) rfl dX6_tick_91 ?_
                have i_72 := kw_6_1 hG i_h0
                refine lv_iload_n hx hb dX6_tick_94 rfl (lv_at hl 0 rfl) ?_
                obtain ⟨q_74, k_73, b_75⟩ := op_20 hI i_72
                refine k_aald hx hb hK hI i_72.1 4 k_73 rfl (vp_in_iff.mpr (by omega)) b_75 (fun _ hj => kw_20 hG i_72 hj) dX6_tick_95 (fun a_76 i_77 => ?_)
                refine va_callv (va_runV (As := [.ref a_76]) (rest := []) ⟨hx, hb, hml, hown, hts⟩ (c_X6_serve l dC dI g A hG f_50 h0 a_76 i_h0 i_77) (cwV 1 hts (gi_V (fun w_ h0_ => ⟨List.mem_cons_of_mem _ (List.mem_append_right _ (List.mem_append_right _ (List.mem_append_right _ (List.mem_append_right _ (List.mem_append_right _ (List.mem_append_right _ (List.mem_append_right _ (List.mem_append_left _ h0_)))))))), (tb_c_X6_serve w_ h0_).2⟩) (List.mem_cons_of_mem _ (List.mem_append_left _ (List.mem_of_getElem? (i := 23) rfl))) (List.mem_cons_of_mem _ (List.mem_append_left _ (List.mem_of_getElem? (i := 24) rfl))) (List.mem_cons_of_mem _ (List.mem_append_left _ (List.mem_of_getElem? (i := 25) rfl))) (List.mem_cons_of_mem _ (List.mem_append_left _ (List.mem_of_getElem? (i := 10) rfl)))) rfl rfl rfl (by decide +kernel) ⟨Nat.le_of_ble_eq_true rfl, Nat.le_of_ble_eq_true rfl⟩) ⟨fun a U g mk q => ⟨q.1, q.2.calling rfl rfl⟩, k_recv hK hI i_h0.1 k_54 (ci := 6) rfl, fun U hU hW => ⟨rfl, kIn.of hI hK hE hS hU hW⟩⟩ rfl rfl hl.1 rfl (lv_room (Nat.le_of_ble_eq_true rfl)) dX6_tick_96 ⟨Nat.le_of_ble_eq_true rfl, Nat.le_of_ble_eq_true rfl⟩) hS (fun q _ h => h) (fun q h => h) (fun u t H1 locs ht hvm _ hB hz1 hk1 hS => ?_)
                obtain ⟨f_78, hI, kc_80⟩ := hB
                rw [ht] at hI
                have k_82 : f_78 (gr g h0 2) = .inr (2, [.ref (gr g (gr g h0 2) 0)]) := Kp.at kc_80 i_44 (by decide) k_55
                have k_83 : f_78 (gr g h0 1) = .inl (gc g 4, 12, .inr (.inr (.inr (.inr q_74)))) := Kp.at kc_80 i_72 (by decide) k_73
                have kp_84 := Kp.call kp_56 kc_80 (by decide)
                generalize H1 = H at hI hS ⊢
                refine W.widen (k := 0) (n := 0) (Nat.le_of_ble_eq_true rfl) (Nat.le_of_ble_eq_true rfl) ?_
                refine lv_aload_n hx hb dX6_tick_99 rfl (lv_at hl 1 rfl) ?_
                refine lv_aload_n hx hb dX6_tick_100 rfl (lv_at hl 1 rfl) ?_
                obtain ⟨x_86, x_87, x_88, x_89, x_90, k_85, b_91, b_92⟩ := op_6 hI i_h0
                refine k_get (ci := 6) (v := .ref (gr g h0 1)) (C := RX6) (T := TX6) (N := 10) hx hb hts (fun _ h0_ => List.mem_cons_of_mem _ (List.mem_append_right _ (List.mem_append_left _ h0_))) hown hK hI i_h0.1 k_85 rfl 1 (by decide) (hts (.fieldLink RX6 11 "DeadlineShare$State" "tasks" "[LDeadlineShare$Task;") (List.mem_cons_of_mem _ (List.mem_append_left _ (List.mem_of_getElem? (i := 22) rfl)))) (fun _ h9 => h9) rfl dX6_tick_101 ?_
                refine lv_iload_n hx hb dX6_tick_104 rfl (lv_at hl 0 rfl) ?_
                refine k_aald hx hb hK hI i_72.1 4 k_83 rfl (vp_in_iff.mpr (by omega)) b_75 (fun _ hj => kw_20 hG i_72 hj) dX6_tick_105 (fun a_95 i_96 => ?_)
                refine va_callv (va_runV (As := [.ref a_95]) (rest := []) ⟨hx, hb, hml, hown, hts⟩ (c_X6_goOnAfterRun l dC dI g A hG f_78 h0 a_95 i_h0 i_96) (cwV 1 hts (gi_V (fun w_ h0_ => ⟨List.mem_cons_of_mem _ (List.mem_append_right _ (List.mem_append_right _ (List.mem_append_right _ (List.mem_append_right _ (List.mem_append_right _ (List.mem_append_right _ (List.mem_append_right _ (List.mem_append_right _ (List.mem_append_left _ h0_))))))))), (tb_c_X6_goOnAfterRun w_ h0_).2⟩) (List.mem_cons_of_mem _ (List.mem_append_left _ (List.mem_of_getElem? (i := 26) rfl))) (List.mem_cons_of_mem _ (List.mem_append_left _ (List.mem_of_getElem? (i := 27) rfl))) (List.mem_cons_of_mem _ (List.mem_append_left _ (List.mem_of_getElem? (i := 28) rfl))) (List.mem_cons_of_mem _ (List.mem_append_left _ (List.mem_of_getElem? (i := 10) rfl)))) rfl rfl rfl (by decide +kernel) ⟨Nat.le_of_ble_eq_true rfl, Nat.le_of_ble_eq_true rfl⟩) ⟨fun a U g mk q => ⟨q.1, q.2.calling rfl rfl⟩, k_recv hK hI i_h0.1 k_85 (ci := 6) rfl, fun U hU hW => ⟨rfl, kIn.of hI hK hE hS hU hW⟩⟩ rfl rfl hl.1 rfl (lv_room (Nat.le_of_ble_eq_true rfl)) dX6_tick_106 ⟨Nat.le_of_ble_eq_true rfl, Nat.le_of_ble_eq_true rfl⟩) hS (fun q _ h => h) (fun q h => h) (fun u t H1 locs ht hvm _ hB hz1 hk1 hS => ?_)
                obtain ⟨f_97, hI, kc_99⟩ := hB
                rw [ht] at hI
                have k_101 : f_97 (gr g h0 2) = .inr (2, [.ref (gr g (gr g h0 2) 0)]) := Kp.at kc_99 i_44 (by decide) k_82
                have k_102 : f_97 (gr g h0 1) = .inl (gc g 4, 12, .inr (.inr (.inr (.inr q_74)))) := Kp.at kc_99 i_72 (by decide) k_83
                have kp_103 := Kp.call kp_84 kc_99 (by decide)
                generalize H1 = H at hI hS ⊢
                refine W.widen (k := 0) (n := 0) (Nat.le_of_ble_eq_true rfl) (Nat.le_of_ble_eq_true rfl) ?_
                refine lv_goto (tgt := 117) hx hb dX6_tick_109 (by decide) ?_
                refine lv_aload_n hx hb dX6_tick_117 rfl (lv_at hl 1 rfl) ?_
                refine lv_dup hx hb dX6_tick_118 rfl ?_
                obtain ⟨x_105, x_106, x_107, x_108, x_109, k_104, b_110, b_111⟩ := op_6 hI i_h0
                refine k_get (ci := 6) (v := .int x_106) (C := RX6) (T := TX6) (N := 10) hx hb hts (fun _ h0_ => List.mem_cons_of_mem _ (List.mem_append_right _ (List.mem_append_left _ h0_))) hown hK hI i_h0.1 k_104 rfl 6 (by decide) (hts (.fieldLink RX6 58 "DeadlineShare$State" "time" "I") (List.mem_cons_of_mem _ (List.mem_append_left _ (List.mem_of_getElem? (i := 6) rfl)))) (fun _ h9 => h9) rfl dX6_tick_119 ?_
                refine lv_iconst (v := 1) hx hb dX6_tick_122 (by decide) ?_
                refine lv_iadd hx hb dX6_tick_123 ?_
                refine lv_topi (fun v_112 ev_112 => ?_)
                have tv_112 := k_ad x_106 1
                rw [← ev_112, show Int32.toInt 1 = 1 from by decide] at tv_112
                refine k_put (ci := 6) (v := .int v_112) (ty := .int) (C := RX6) (T := TX6) (N := 10) hx hb hts (fun _ h0_ => List.mem_cons_of_mem _ (List.mem_append_right _ (List.mem_append_left _ h0_))) tyX6 tyX6_ok nmX6 hown hK hI hS i_h0.1 k_104 rfl 6 (by decide) (hts (.fieldLink RX6 58 "DeadlineShare$State" "time" "I") (List.mem_cons_of_mem _ (List.mem_append_left _ (List.mem_of_getElem? (i := 6) rfl)))) (fun _ h9 => h9) rfl (by decide +kernel) rfl rfl (Nat.le_of_ble_eq_true rfl) rfl (cl_6 i_h0 (by omega)) dX6_tick_124 (fun f_113 H locs e_114 hI hS => ?_)
                have k_116 : f_113 (gr g h0 2) = .inr (2, [.ref (gr g (gr g h0 2) 0)]) := by rw [e_114, va_up_ne _ _ (ik_ne i_44 i_h0 (by decide))]; exact k_101
                have k_117 : f_113 (gr g h0 1) = .inl (gc g 4, 12, .inr (.inr (.inr (.inr q_74)))) := by rw [e_114, va_up_ne _ _ (ik_ne i_72 i_h0 (by decide))]; exact k_102
                have k_118 : f_113 h0 = .inr (6, [.ref (gr g h0 0), .ref (gr g h0 1), .ref (gr g h0 2), .ref (gr g h0 3), .ref (gr g h0 4), .int x_105, .int v_112, .long x_107, .int x_108, .int x_109]) := by rw [e_114]; exact va_up_self _ _ _
                have kp_115 := Kp.put kp_103 i_h0 (by decide) e_114
                refine lv_iload_n hx hb dX6_tick_127 rfl (lv_at hl 0 rfl) ?_
                exact W.iret (v := r_38) hx hb hr (fun t ht hW => ⟨⟨r_38, (), rfl, trivial, ⟨f_113, k_ret ht hI, kp_115⟩⟩, hS.F ht⟩) hS.2.2 dX6_tick_128
            · have c_32 := kn_le rfl rfl c_32
              refine lv_aload_n hx hb dX6_tick_39 rfl (lv_at hl 1 rfl) ?_
              refine lv_aload_n hx hb dX6_tick_40 rfl (lv_at hl 1 rfl) ?_
              refine k_get (ci := 6) (v := .ref (gr g h0 1)) (C := RX6) (T := TX6) (N := 10) hx hb hts (fun _ h0_ => List.mem_cons_of_mem _ (List.mem_append_right _ (List.mem_append_left _ h0_))) hown hK hI i_h0.1 k_24 rfl 1 (by decide) (hts (.fieldLink RX6 11 "DeadlineShare$State" "tasks" "[LDeadlineShare$Task;") (List.mem_cons_of_mem _ (List.mem_append_left _ (List.mem_of_getElem? (i := 22) rfl)))) (fun _ h9 => h9) rfl dX6_tick_41 ?_
              have i_120 := kw_6_1 hG i_h0
              refine lv_iload_n hx hb dX6_tick_44 rfl (lv_at hl 0 rfl) ?_
              obtain ⟨q_122, k_121, b_123⟩ := op_20 hI i_120
              refine k_aald hx hb hK hI i_120.1 4 k_121 rfl (vp_in_iff.mpr (by omega)) b_123 (fun _ hj => kw_20 hG i_120 hj) dX6_tick_45 (fun a_124 i_125 => ?_)
              refine va_callv (va_runV (As := [.ref a_124]) (rest := []) ⟨hx, hb, hml, hown, hts⟩ (c_X6_wake l dC dI g A hG f_18 h0 a_124 i_h0 i_125) (cwV 1 hts (gi_V (fun w_ h0_ => ⟨List.mem_cons_of_mem _ (List.mem_append_right _ (List.mem_append_right _ (List.mem_append_right _ (List.mem_append_right _ (List.mem_append_right _ (List.mem_append_right _ (List.mem_append_right _ (List.mem_append_right _ (List.mem_append_right _ (List.mem_append_left _ h0_)))))))))), (tb_c_X6_wake w_ h0_).2⟩) (List.mem_cons_of_mem _ (List.mem_append_left _ (List.mem_of_getElem? (i := 29) rfl))) (List.mem_cons_of_mem _ (List.mem_append_left _ (List.mem_of_getElem? (i := 30) rfl))) (List.mem_cons_of_mem _ (List.mem_append_left _ (List.mem_of_getElem? (i := 31) rfl))) (List.mem_cons_of_mem _ (List.mem_append_left _ (List.mem_of_getElem? (i := 10) rfl)))) rfl rfl rfl (by decide +kernel) ⟨Nat.le_of_ble_eq_true rfl, Nat.le_of_ble_eq_true rfl⟩) ⟨fun a U g mk q => ⟨q.1, q.2.calling rfl rfl⟩, k_recv hK hI i_h0.1 k_24 (ci := 6) rfl, fun U hU hW => ⟨rfl, kIn.of hI hK hE hS hU hW⟩⟩ rfl rfl hl.1 rfl (lv_room (Nat.le_of_ble_eq_true rfl)) dX6_tick_46 ⟨Nat.le_of_ble_eq_true rfl, Nat.le_of_ble_eq_true rfl⟩) hS (fun q _ h => h) (fun q h => h) (fun u t H1 locs ht hvm _ hB hz1 hk1 hS => ?_)
              obtain ⟨f_126, hI, kc_128⟩ := hB
              rw [ht] at hI
              have k_130 : f_126 (gr g h0 1) = .inl (gc g 4, 12, .inr (.inr (.inr (.inr q_122)))) := Kp.at kc_128 i_120 (by decide) k_121
              have kp_131 := Kp.call kp_19 kc_128 (by decide)
              generalize H1 = H at hI hS ⊢
              refine W.widen (k := 0) (n := 0) (Nat.le_of_ble_eq_true rfl) (Nat.le_of_ble_eq_true rfl) ?_
              obtain ⟨v_132, ev_132⟩ : ∃ y : Int32, y = y_17 + Int32.ofInt 1 := ⟨_, rfl⟩
              refine lv_iinc (v := v_132) (lv' := [(2, .int v_132), (0, .ref h0), (1, .ref p1)]) hx hb dX6_tick_49 hl (k := 0) rfl ev_132.symm (by decide) rfl (fun ls hl => ?_)
              have tv_132 := k_inc y_17
              rw [← ev_132] at tv_132
              refine lv_goto (tgt := 31) hx hb dX6_tick_52 (by decide) ?_
              exact ih v_132 f_126 _ _ _ (by omega) hI hS kp_131 (by first | omega | decide) (lv_sub hl [0, 1, 2] rfl)
        exact K_31 _ 0 f_2 _ _ _ (Nat.lt_succ_self _) hI hS kp_3 (by first | omega | decide) (lv_sub hl [0, 1, 2] rfl)
      · have c_16 := kn_le rfl rfl c_16
        refine lv_aload_n hx hb dX6_tick_10 rfl (lv_at hl 1 rfl) ?_
        refine k_get (ci := 6) (v := .ref (gr g h0 1)) (C := RX6) (T := TX6) (N := 10) hx hb hts (fun _ h0_ => List.mem_cons_of_mem _ (List.mem_append_right _ (List.mem_append_left _ h0_))) hown hK hI i_h0.1 k_8 rfl 1 (by decide) (hts (.fieldLink RX6 11 "DeadlineShare$State" "tasks" "[LDeadlineShare$Task;") (List.mem_cons_of_mem _ (List.mem_append_left _ (List.mem_of_getElem? (i := 22) rfl)))) (fun _ h9 => h9) rfl dX6_tick_11 ?_
        have i_134 := kw_6_1 hG i_h0
        refine lv_iload_n hx hb dX6_tick_14 rfl (lv_at hl 0 rfl) ?_
        obtain ⟨q_136, k_135, b_137⟩ := op_20 hI i_134
        refine k_aald hx hb hK hI i_134.1 4 k_135 rfl (vp_in_iff.mpr (by omega)) b_137 (fun _ hj => kw_20 hG i_134 hj) dX6_tick_15 (fun a_138 i_139 => ?_)
        refine lv_aload_n hx hb dX6_tick_16 rfl (lv_at hl 1 rfl) ?_
        refine k_get (ci := 6) (v := .int x_10) (C := RX6) (T := TX6) (N := 10) hx hb hts (fun _ h0_ => List.mem_cons_of_mem _ (List.mem_append_right _ (List.mem_append_left _ h0_))) hown hK hI i_h0.1 k_8 rfl 6 (by decide) (hts (.fieldLink RX6 58 "DeadlineShare$State" "time" "I") (List.mem_cons_of_mem _ (List.mem_append_left _ (List.mem_of_getElem? (i := 6) rfl)))) (fun _ h9 => h9) rfl dX6_tick_17 ?_
        obtain ⟨x_141, x_142, x_143, x_144, x_145, x_146, x_147, x_148, x_149, x_150, x_151, x_152, x_153, x_154, x_155, x_156, k_140⟩ := op_8 hI i_139
        refine va_callv (va_runV (As := [.int x_10]) (rest := []) ⟨hx, hb, hml, hown, hts⟩ (c_X8_refillAt l dC dI g A hG f_2 a_138 x_10 i_139) (cwV 1 hts (gi_V (fun w_ h0_ => ⟨List.mem_cons_of_mem _ (List.mem_append_right _ (List.mem_append_right _ (List.mem_append_right _ (List.mem_append_right _ (List.mem_append_right _ (List.mem_append_right _ (List.mem_append_right _ (List.mem_append_right _ (List.mem_append_right _ (List.mem_append_right _ (List.mem_append_left _ h0_))))))))))), (tb_c_X8_refillAt w_ h0_).2⟩) (List.mem_cons_of_mem _ (List.mem_append_left _ (List.mem_of_getElem? (i := 32) rfl))) (List.mem_cons_of_mem _ (List.mem_append_left _ (List.mem_of_getElem? (i := 33) rfl))) (List.mem_cons_of_mem _ (List.mem_append_left _ (List.mem_of_getElem? (i := 34) rfl))) (List.mem_cons_of_mem _ (List.mem_append_left _ (List.mem_of_getElem? (i := 35) rfl)))) rfl rfl rfl (by decide +kernel) ⟨Nat.le_of_ble_eq_true rfl, Nat.le_of_ble_eq_true rfl⟩) ⟨fun a U g mk q => ⟨q.1, q.2.calling rfl rfl⟩, k_recv hK hI i_139.1 k_140 (ci := 8) rfl, fun U hU hW => ⟨rfl, kIn.of hI hK hE hS hU hW⟩⟩ rfl rfl hl.1 rfl (lv_room (Nat.le_of_ble_eq_true rfl)) dX6_tick_20 ⟨Nat.le_of_ble_eq_true rfl, Nat.le_of_ble_eq_true rfl⟩) hS (fun q _ h => h) (fun q h => h) (fun u t H1 locs ht hvm _ hB hz1 hk1 hS => ?_)
        obtain ⟨f_157, hI, kc_159⟩ := hB
        rw [ht] at hI
        have k_161 : f_157 h0 = .inr (6, [.ref (gr g h0 0), .ref (gr g h0 1), .ref (gr g h0 2), .ref (gr g h0 3), .ref (gr g h0 4), .int x_9, .int x_10, .long x_11, .int x_12, .int x_13]) := Kp.at kc_159 i_h0 (by decide) k_8
        have k_162 : f_157 (gr g h0 1) = .inl (gc g 4, 12, .inr (.inr (.inr (.inr q_136)))) := Kp.at kc_159 i_134 (by decide) k_135
        have kp_163 := Kp.call kp_3 kc_159 (by decide)
        generalize H1 = H at hI hS ⊢
        refine W.widen (k := 0) (n := 0) (Nat.le_of_ble_eq_true rfl) (Nat.le_of_ble_eq_true rfl) ?_
        obtain ⟨v_164, ev_164⟩ : ∃ y : Int32, y = y_1 + Int32.ofInt 1 := ⟨_, rfl⟩
        refine lv_iinc (v := v_164) (lv' := [(2, .int v_164), (0, .ref h0), (1, .ref p1)]) hx hb dX6_tick_23 hl (k := 0) rfl ev_164.symm (by decide) rfl (fun ls hl => ?_)
        have tv_164 := k_inc y_1
        rw [← ev_164] at tv_164
        refine lv_goto (tgt := 2) hx hb dX6_tick_26 (by decide) ?_
        exact ih v_164 f_157 _ _ _ (by omega) hI hS kp_163 (by first | omega | decide) (lv_sub hl [0, 1, 2] rfl)
  exact K_2 _ 0 f _ _ _ (Nat.lt_succ_self _) hI hS hk0 (by first | omega | decide) (lv_sub hl [0, 1, 2] rfl)
theorem tw_412 : q_g (.methodLink RX6 284 yX5_copy) := ⟨(List.mem_append_right _ (List.mem_of_getElem? (i := 723) (by decide +kernel))), good_of_word (by decide +kernel)⟩
theorem tw_413 : q_g (.code yX6_startScript cX6_startScript 3 none) := ⟨(List.mem_append_right _ (List.mem_of_getElem? (i := 721) (by decide +kernel))), good_of_word (by decide +kernel)⟩
def ow_c_X6_startScript : List Cond := [.methodLink RX6 111 yX8_isOn, .instanceMethod yX8_isOn, .selects RX8 yX8_isOn yX8_isOn, .initialized RX8, .fieldLink RX6 128 "DeadlineShare$Task" "script" "LDeadlineShare$Script;", .methodLink RX6 284 yX5_copy, .instanceMethod yX5_copy, .selects RX5 yX5_copy yX5_copy, .initialized RX5, .fieldLink RX6 58 "DeadlineShare$State" "time" "I", .methodLink RX6 238 yX6_goOn, .instanceMethod yX6_goOn, .selects RX6 yX6_goOn yX6_goOn, .initialized RX6, .methodLink RX6 229 yX6_enter, .instanceMethod yX6_enter, .selects RX6 yX6_enter yX6_enter]
def wq_c_X6_startScript : List Cond := .code yX6_startScript cX6_startScript 3 none :: (ow_c_X6_startScript ++ (wq_c_X8_isOn ++ (u_ws RX8 TX8 18 ++ (wq_c_X5_copy ++ (u_ws RX6 TX6 10 ++ (wq_c_X6_goOn ++ (wq_c_X6_enter ++ ([] : List Cond))))))))
theorem tb_c_X6_startScript : ∀ w ∈ wq_c_X6_startScript, q_g w := by
  unfold wq_c_X6_startScript ow_c_X6_startScript
  exact q_cons tw_413 (q_app (q_cons tw_11 (q_cons tw_10 (q_cons tw_9 (q_cons tw_8 (q_cons tw_270 (q_cons tw_412 (q_cons tw_135 (q_cons tw_134 (q_cons tw_133 (q_cons tw_146 (q_cons tw_352 (q_cons tw_351 (q_cons tw_350 (q_cons tw_47 (q_cons tw_355 (q_cons tw_354 (q_cons tw_353 q_nil))))))))))))))))) (q_app tb_c_X8_isOn (q_app tu_X8 (q_app tb_c_X5_copy (q_app tu_X6 (q_app tb_c_X6_goOn (q_app tb_c_X6_enter q_nil)))))))
set_option maxHeartbeats 4000000 in
set_option maxRecDepth 100000 in
theorem c_X6_startScript (l : Launch) (dC : Nat → ClassId) (dI : Nat → Nat → Nat) (g : kG) (A : Nat → Prop) (hG : kWf g) (f : Nat → va_E) (h0 : Nat) (p1 : Nat) (p2 : Nat) (i_h0 : ik g 6 h0) (i_p1 : ik g 8 p1) (i_p2 : ik g 5 p2) : Met l yX6_startScript wq_c_X6_startScript ({ frames := 4, cells := 0, slots := 0, locals := 96 } : Room) (va_Pc [.ref h0, .ref p1, .ref p2] (fun U => kIn dC dI g A f U)) (va_Qv (fun (_ : Unit) => True) (fun (_ : Unit) t => ∃ f1 : Nat → va_E, Iv dC dI g A f1 t.heap ∧ Kp g [5, 6, 8, 10, 24] f f1) A) 0 0 A := by
  refine Met.ofW (cc := cX6_startScript) (maxL := 3) (ret := none) (by decide) rfl ?_
  intro p e s m args below meth c s₁ B hml hv
  obtain ⟨rfl, hI, hK, hE⟩ := hv
  have hx := B.exec
  have hb := B.bytes
  have hr := B.returns
  have hts := atoms_spec (ws := wq_c_X6_startScript) B.pre
  have hown : s.vm.findClass RX6 = some m.cls := findClass_of_methodNamed B.named
  have hlocks := B.notSynchronized
  have hS : va_S A s.heap s.heap [] := va_S.rf
  have hk0 : Kp g [5, 6, 8, 10, 24] f f := Kp.rf
  have hl := lv_entry ([.ref h0, .ref p1, .ref p2]) (n := 3) (Nat.le_of_ble_eq_true rfl)
  rw [lg_entry_eq]
  generalize (lg_sl ([.ref h0, .ref p1, .ref p2]) ++ List.replicate (3 - (lg_sl ([.ref h0, .ref p1, .ref p2])).length) Slot.unset).toArray = ls at hl ⊢
  have hl : lv_has ls 3 [(0, .ref h0), (1, .ref p1), (2, .ref p2)] := hl
  refine lv_aload_n hx hb dX6_startScript_0 rfl (lv_at hl 1 rfl) ?_
  obtain ⟨x_2, x_3, x_4, x_5, x_6, x_7, x_8, x_9, x_10, x_11, x_12, x_13, x_14, x_15, x_16, x_17, k_1⟩ := op_8 hI i_p1
  refine va_calli (va_runV (As := []) (rest := []) ⟨hx, hb, hml, hown, hts⟩ (c_X8_isOn l dC dI g A hG f p1 i_p1) (cwV 0 hts (gi_V (fun w_ h0_ => ⟨List.mem_cons_of_mem _ (List.mem_append_right _ (List.mem_append_left _ h0_)), (tb_c_X8_isOn w_ h0_).2⟩) (List.mem_cons_of_mem _ (List.mem_append_left _ (List.mem_of_getElem? (i := 0) rfl))) (List.mem_cons_of_mem _ (List.mem_append_left _ (List.mem_of_getElem? (i := 1) rfl))) (List.mem_cons_of_mem _ (List.mem_append_left _ (List.mem_of_getElem? (i := 2) rfl))) (List.mem_cons_of_mem _ (List.mem_append_left _ (List.mem_of_getElem? (i := 3) rfl)))) rfl rfl rfl (by decide +kernel) ⟨Nat.le_of_ble_eq_true rfl, Nat.le_of_ble_eq_true rfl⟩) ⟨fun a U g mk q => ⟨q.1, q.2.calling rfl rfl⟩, k_recv hK hI i_p1.1 k_1 (ci := 8) rfl, fun U hU hW => ⟨rfl, kIn.of hI hK hE hS hU hW⟩⟩ rfl rfl hl.1 rfl (lv_room (Nat.le_of_ble_eq_true rfl)) dX6_startScript_1 ⟨Nat.le_of_ble_eq_true rfl, Nat.le_of_ble_eq_true rfl⟩) hS (fun q _ h => h) (fun q h => h) (fun r_19 u t H1 locs ht hvm w_18 hB hz1 hk1 hS => ?_)
  have hI : Iv dC dI g A f t.heap := hB
  rw [ht] at hI
  generalize H1 = H at hI hS ⊢
  refine W.widen (k := 0) (n := 0) (Nat.le_of_ble_eq_true rfl) (Nat.le_of_ble_eq_true rfl) ?_
  have J_12 : ∀ (f_20 : Nat → va_E) (H : Heap) (locs : List Loc) (ls : Array Slot), Iv dC dI g A f_20 H → va_S A s.heap H locs → Kp g [5, 6, 8, 10, 24] f f_20 → lv_has ls 3 [(0, .ref h0), (1, .ref p1), (2, .ref p2)] → W p l e (headSpec wq_c_X6_startScript ({ frames := 4, cells := 0, slots := 0, locals := 96 } : Room)).room s m ([.ref h0, .ref p1, .ref p2].toArray) below meth c H locs 0 0 (MQ below (va_Qv (fun (_ : Unit) => True) (fun (_ : Unit) t => ∃ f1 : Nat → va_E, Iv dC dI g A f1 t.heap ∧ Kp g [5, 6, 8, 10, 24] f f1) A) ([.ref h0, .ref p1, .ref p2].toArray) s 0 0 A) (F0 m 12 ls []) := by
    intro f_20 H locs ls hI hS kp_21 hl
    refine lv_aload_n hx hb dX6_startScript_12 rfl (lv_at hl 1 rfl) ?_
    obtain ⟨x_23, x_24, x_25, x_26, x_27, x_28, x_29, x_30, x_31, x_32, x_33, x_34, x_35, x_36, x_37, x_38, k_22⟩ := op_8 hI i_p1
    refine k_get (ci := 8) (v := .ref (gr g p1 1)) (C := RX8) (T := TX8) (N := 18) hx hb hts (fun _ h0_ => List.mem_cons_of_mem _ (List.mem_append_right _ (List.mem_append_right _ (List.mem_append_left _ h0_)))) hown hK hI i_p1.1 k_22 rfl 1 (by decide) (hts (.fieldLink RX6 128 "DeadlineShare$Task" "script" "LDeadlineShare$Script;") (List.mem_cons_of_mem _ (List.mem_append_left _ (List.mem_of_getElem? (i := 4) rfl)))) (fun _ h9 => h9) rfl dX6_startScript_13 ?_
    have i_40 := kw_8_1 hG i_p1
    refine lv_aload_n hx hb dX6_startScript_16 rfl (lv_at hl 2 rfl) ?_
    obtain ⟨x_42, x_43, x_44, x_45, k_41, b_46, b_47⟩ := op_5 hI i_40
    refine va_callv (va_runV (As := [.ref p2]) (rest := []) ⟨hx, hb, hml, hown, hts⟩ (c_X5_copy l dC dI g A hG f_20 (gr g p1 1) p2 i_40 i_p2) (cwV 1 hts (gi_V (fun w_ h0_ => ⟨List.mem_cons_of_mem _ (List.mem_append_right _ (List.mem_append_right _ (List.mem_append_right _ (List.mem_append_left _ h0_)))), (tb_c_X5_copy w_ h0_).2⟩) (List.mem_cons_of_mem _ (List.mem_append_left _ (List.mem_of_getElem? (i := 5) rfl))) (List.mem_cons_of_mem _ (List.mem_append_left _ (List.mem_of_getElem? (i := 6) rfl))) (List.mem_cons_of_mem _ (List.mem_append_left _ (List.mem_of_getElem? (i := 7) rfl))) (List.mem_cons_of_mem _ (List.mem_append_left _ (List.mem_of_getElem? (i := 8) rfl)))) rfl rfl rfl (by decide +kernel) ⟨Nat.le_of_ble_eq_true rfl, Nat.le_of_ble_eq_true rfl⟩) ⟨fun a U g mk q => ⟨q.1, q.2.calling rfl rfl⟩, k_recv hK hI i_40.1 k_41 (ci := 5) rfl, fun U hU hW => ⟨rfl, kIn.of hI hK hE hS hU hW⟩⟩ rfl rfl hl.1 rfl (lv_room (Nat.le_of_ble_eq_true rfl)) dX6_startScript_17 ⟨Nat.le_of_ble_eq_true rfl, Nat.le_of_ble_eq_true rfl⟩) hS (fun q _ h => h) (fun q h => h) (fun u t H1 locs ht hvm _ hB hz1 hk1 hS => ?_)
    obtain ⟨f_48, hI, kc_50⟩ := hB
    rw [ht] at hI
    have k_52 : f_48 p1 = .inr (8, [.int x_23, .ref (gr g p1 1), .int x_24, .int x_25, .int x_26, .long x_27, .int x_28, .ref (gr g p1 7), .int x_29, .int x_30, .int x_31, .int x_32, .int x_33, .int x_34, .int x_35, .int x_36, .int x_37, .int x_38]) := Kp.at kc_50 i_p1 (by decide) k_22
    have kp_53 := Kp.call kp_21 kc_50 (by decide)
    generalize H1 = H at hI hS ⊢
    refine W.widen (k := 0) (n := 0) (Nat.le_of_ble_eq_true rfl) (Nat.le_of_ble_eq_true rfl) ?_
    refine lv_aload_n hx hb dX6_startScript_20 rfl (lv_at hl 0 rfl) ?_
    refine lv_aload_n hx hb dX6_startScript_21 rfl (lv_at hl 1 rfl) ?_
    refine lv_aload_n hx hb dX6_startScript_22 rfl (lv_at hl 0 rfl) ?_
    obtain ⟨x_55, x_56, x_57, x_58, x_59, k_54, b_60, b_61⟩ := op_6 hI i_h0
    refine k_get (ci := 6) (v := .int x_56) (C := RX6) (T := TX6) (N := 10) hx hb hts (fun _ h0_ => List.mem_cons_of_mem _ (List.mem_append_right _ (List.mem_append_right _ (List.mem_append_right _ (List.mem_append_right _ (List.mem_append_left _ h0_)))))) hown hK hI i_h0.1 k_54 rfl 6 (by decide) (hts (.fieldLink RX6 58 "DeadlineShare$State" "time" "I") (List.mem_cons_of_mem _ (List.mem_append_left _ (List.mem_of_getElem? (i := 9) rfl)))) (fun _ h9 => h9) rfl dX6_startScript_23 ?_
    refine va_callv (va_runV (As := [.ref p1, .int x_56]) (rest := []) ⟨hx, hb, hml, hown, hts⟩ (c_X6_goOn l dC dI g A hG f_48 h0 p1 x_56 i_h0 i_p1) (cwV 2 hts (gi_V (fun w_ h0_ => ⟨List.mem_cons_of_mem _ (List.mem_append_right _ (List.mem_append_right _ (List.mem_append_right _ (List.mem_append_right _ (List.mem_append_right _ (List.mem_append_left _ h0_)))))), (tb_c_X6_goOn w_ h0_).2⟩) (List.mem_cons_of_mem _ (List.mem_append_left _ (List.mem_of_getElem? (i := 10) rfl))) (List.mem_cons_of_mem _ (List.mem_append_left _ (List.mem_of_getElem? (i := 11) rfl))) (List.mem_cons_of_mem _ (List.mem_append_left _ (List.mem_of_getElem? (i := 12) rfl))) (List.mem_cons_of_mem _ (List.mem_append_left _ (List.mem_of_getElem? (i := 13) rfl)))) rfl rfl rfl (by decide +kernel) ⟨Nat.le_of_ble_eq_true rfl, Nat.le_of_ble_eq_true rfl⟩) ⟨fun a U g mk q => ⟨q.1, q.2.calling rfl rfl⟩, k_recv hK hI i_h0.1 k_54 (ci := 6) rfl, fun U hU hW => ⟨rfl, kIn.of hI hK hE hS hU hW⟩⟩ rfl rfl hl.1 rfl (lv_room (Nat.le_of_ble_eq_true rfl)) dX6_startScript_26 ⟨Nat.le_of_ble_eq_true rfl, Nat.le_of_ble_eq_true rfl⟩) hS (fun q _ h => h) (fun q h => h) (fun u t H1 locs ht hvm _ hB hz1 hk1 hS => ?_)
    obtain ⟨f_62, hI, kc_64⟩ := hB
    rw [ht] at hI
    have kp_66 := Kp.call kp_53 kc_64 (by decide)
    generalize H1 = H at hI hS ⊢
    refine W.widen (k := 0) (n := 0) (Nat.le_of_ble_eq_true rfl) (Nat.le_of_ble_eq_true rfl) ?_
    exact W.vret hx hb hr (fun t ht hW => ⟨⟨(), rfl, trivial, ⟨f_62, k_ret ht hI, kp_66⟩⟩, hS.F ht⟩) hS.2.2 dX6_startScript_29
  refine lv_if_ne (tgt := 12) hx hb dX6_startScript_4 (by decide) (fun c_67 => ?_) (fun c_67 => ?_)
  · have c_67 := kn_eq rfl (by decide : Int32.toInt 0 = 0) c_67
    exact J_12 f _ _ _ hI hS hk0 (lv_sub hl [0, 1, 2] rfl)
  · have c_67 := kc_eq rfl (by decide : Int32.toInt 0 = 0) c_67
    refine lv_aload_n hx hb dX6_startScript_7 rfl (lv_at hl 0 rfl) ?_
    refine lv_aload_n hx hb dX6_startScript_8 rfl (lv_at hl 1 rfl) ?_
    obtain ⟨x_69, x_70, x_71, x_72, x_73, k_68, b_74, b_75⟩ := op_6 hI i_h0
    refine va_callv (va_runV (As := [.ref p1]) (rest := []) ⟨hx, hb, hml, hown, hts⟩ (c_X6_enter l dC dI g A hG f h0 p1 i_h0 i_p1) (cwV 1 hts (gi_V (fun w_ h0_ => ⟨List.mem_cons_of_mem _ (List.mem_append_right _ (List.mem_append_right _ (List.mem_append_right _ (List.mem_append_right _ (List.mem_append_right _ (List.mem_append_right _ (List.mem_append_left _ h0_))))))), (tb_c_X6_enter w_ h0_).2⟩) (List.mem_cons_of_mem _ (List.mem_append_left _ (List.mem_of_getElem? (i := 14) rfl))) (List.mem_cons_of_mem _ (List.mem_append_left _ (List.mem_of_getElem? (i := 15) rfl))) (List.mem_cons_of_mem _ (List.mem_append_left _ (List.mem_of_getElem? (i := 16) rfl))) (List.mem_cons_of_mem _ (List.mem_append_left _ (List.mem_of_getElem? (i := 13) rfl)))) rfl rfl rfl (by decide +kernel) ⟨Nat.le_of_ble_eq_true rfl, Nat.le_of_ble_eq_true rfl⟩) ⟨fun a U g mk q => ⟨q.1, q.2.calling rfl rfl⟩, k_recv hK hI i_h0.1 k_68 (ci := 6) rfl, fun U hU hW => ⟨rfl, kIn.of hI hK hE hS hU hW⟩⟩ rfl rfl hl.1 rfl (lv_room (Nat.le_of_ble_eq_true rfl)) dX6_startScript_9 ⟨Nat.le_of_ble_eq_true rfl, Nat.le_of_ble_eq_true rfl⟩) hS (fun q _ h => h) (fun q h => h) (fun u t H1 locs ht hvm _ hB hz1 hk1 hS => ?_)
    obtain ⟨f_76, hI, kc_78⟩ := hB
    rw [ht] at hI
    have k_80 : f_76 h0 = .inr (6, [.ref (gr g h0 0), .ref (gr g h0 1), .ref (gr g h0 2), .ref (gr g h0 3), .ref (gr g h0 4), .int x_69, .int x_70, .long x_71, .int x_72, .int x_73]) := Kp.at kc_78 i_h0 (by decide) k_68
    have kp_81 := Kp.call hk0 kc_78 (by decide)
    generalize H1 = H at hI hS ⊢
    refine W.widen (k := 0) (n := 0) (Nat.le_of_ble_eq_true rfl) (Nat.le_of_ble_eq_true rfl) ?_
    exact J_12 f_76 _ _ _ hI hS kp_81 (lv_sub hl [0, 1, 2] rfl)
theorem tw_414 : q_g (.code yX6_firstInLog cX6_firstInLog 1 (some .int)) := ⟨(List.mem_append_right _ (List.mem_of_getElem? (i := 973) (by decide +kernel))), good_of_word (by decide +kernel)⟩
def ow_c_X6_firstInLog : List Cond := [.fieldLink RX6 58 "DeadlineShare$State" "time" "I", .methodLink RX6 174 Lib.Math.max.name, .static Lib.Math.max.name, .initialized "java/lang/Math", .code Lib.Math.max.name Lib.Math.max.code 2 (some .int)]
def wq_c_X6_firstInLog : List Cond := .code yX6_firstInLog cX6_firstInLog 1 (some .int) :: (ow_c_X6_firstInLog ++ (u_ws RX6 TX6 10 ++ ([] : List Cond)))
theorem tb_c_X6_firstInLog : ∀ w ∈ wq_c_X6_firstInLog, q_g w := by
  unfold wq_c_X6_firstInLog ow_c_X6_firstInLog
  exact q_cons tw_414 (q_app (q_cons tw_146 (q_cons tw_308 (q_cons tw_307 (q_cons tw_154 (q_cons tw_306 q_nil))))) (q_app tu_X6 q_nil))
set_option maxHeartbeats 4000000 in
set_option maxRecDepth 100000 in
theorem c_X6_firstInLog (l : Launch) (dC : Nat → ClassId) (dI : Nat → Nat → Nat) (g : kG) (A : Nat → Prop) (hG : kWf g) (f : Nat → va_E) (h0 : Nat) (i_h0 : ik g 6 h0) : Met l yX6_firstInLog wq_c_X6_firstInLog ({ frames := 1, cells := 0, slots := 0, locals := 15 } : Room) (va_Pc [.ref h0] (fun U => kIn dC dI g A f U)) (va_Qi (fun (r : Int32) (_ : Unit) => True) (fun (_ : Unit) t => Iv dC dI g A f t.heap) A) 0 0 A := by
  refine Met.ofW (cc := cX6_firstInLog) (maxL := 1) (ret := (some .int)) (by decide) rfl ?_
  intro p e s m args below meth c s₁ B hml hv
  obtain ⟨rfl, hI, hK, hE⟩ := hv
  have hx := B.exec
  have hb := B.bytes
  have hr := B.returns
  have hts := atoms_spec (ws := wq_c_X6_firstInLog) B.pre
  have hown : s.vm.findClass RX6 = some m.cls := findClass_of_methodNamed B.named
  have hlocks := B.notSynchronized
  have hS : va_S A s.heap s.heap [] := va_S.rf
  have hl := lv_entry ([.ref h0]) (n := 1) (Nat.le_of_ble_eq_true rfl)
  rw [lg_entry_eq]
  generalize (lg_sl ([.ref h0]) ++ List.replicate (1 - (lg_sl ([.ref h0])).length) Slot.unset).toArray = ls at hl ⊢
  have hl : lv_has ls 1 [(0, .ref h0)] := hl
  refine lv_iconst (v := 0) hx hb dX6_firstInLog_0 (by decide) ?_
  refine lv_aload_n hx hb dX6_firstInLog_1 rfl (lv_at hl 0 rfl) ?_
  obtain ⟨x_2, x_3, x_4, x_5, x_6, k_1, b_7, b_8⟩ := op_6 hI i_h0
  refine k_get (ci := 6) (v := .int x_3) (C := RX6) (T := TX6) (N := 10) hx hb hts (fun _ h0_ => List.mem_cons_of_mem _ (List.mem_append_right _ (List.mem_append_left _ h0_))) hown hK hI i_h0.1 k_1 rfl 6 (by decide) (hts (.fieldLink RX6 58 "DeadlineShare$State" "time" "I") (List.mem_cons_of_mem _ (List.mem_append_left _ (List.mem_of_getElem? (i := 0) rfl)))) (fun _ h9 => h9) rfl dX6_firstInLog_2 ?_
  refine lv_sipush (v := 128) hx hb dX6_firstInLog_5 (by decide) ?_
  refine lv_isub hx hb dX6_firstInLog_8 ?_
  refine lv_topi (fun v_9 ev_9 => ?_)
  have tv_9 := k_sb x_3 128
  rw [← ev_9, show Int32.toInt 128 = 128 from by decide] at tv_9
  refine va_mmax hx hb (by rw [hml]; exact hl.1.symm) hown (hts (.methodLink RX6 174 Lib.Math.max.name) (List.mem_cons_of_mem _ (List.mem_append_left _ (List.mem_of_getElem? (i := 1) rfl)))) (hts (.static Lib.Math.max.name) (List.mem_cons_of_mem _ (List.mem_append_left _ (List.mem_of_getElem? (i := 2) rfl)))) (hts (.initialized "java/lang/Math") (List.mem_cons_of_mem _ (List.mem_append_left _ (List.mem_of_getElem? (i := 3) rfl)))) (hts (.code Lib.Math.max.name Lib.Math.max.code 2 (some .int)) (List.mem_cons_of_mem _ (List.mem_append_left _ (List.mem_of_getElem? (i := 4) rfl)))) (Nat.le_of_ble_eq_true rfl) (Nat.le_of_ble_eq_true rfl) (Nat.le_of_ble_eq_true rfl) (Nat.le_of_ble_eq_true rfl) dX6_firstInLog_9 ?_
  refine lv_topi (fun v_10 ev_10 => ?_)
  exact W.iret (v := v_10) hx hb hr (fun t ht hW => ⟨⟨v_10, (), rfl, trivial, k_ret ht hI⟩, hS.F ht⟩) hS.2.2 dX6_firstInLog_12
theorem tw_415 : q_g (.selects RX6 yX6_firstInLog yX6_firstInLog) := ⟨(List.mem_append_right _ (List.mem_of_getElem? (i := 972) (by decide +kernel))), good_of_word (by decide +kernel)⟩
theorem tw_416 : q_g (.instanceMethod yX6_firstInLog) := ⟨(List.mem_append_right _ (List.mem_of_getElem? (i := 971) (by decide +kernel))), good_of_word (by decide +kernel)⟩
theorem tw_417 : q_g (.methodLink RX6 316 yX6_firstInLog) := ⟨(List.mem_append_right _ (List.mem_of_getElem? (i := 970) (by decide +kernel))), good_of_word (by decide +kernel)⟩
theorem tw_418 : q_g (.code yX6_logHolds cX6_logHolds 2 (some .boolean)) := ⟨(List.mem_append_right _ (List.mem_of_getElem? (i := 969) (by decide +kernel))), good_of_word (by decide +kernel)⟩
def ow_c_X6_logHolds : List Cond := [.methodLink RX6 316 yX6_firstInLog, .instanceMethod yX6_firstInLog, .selects RX6 yX6_firstInLog yX6_firstInLog, .initialized RX6, .fieldLink RX6 58 "DeadlineShare$State" "time" "I"]
def wq_c_X6_logHolds : List Cond := .code yX6_logHolds cX6_logHolds 2 (some .boolean) :: (ow_c_X6_logHolds ++ (wq_c_X6_firstInLog ++ (u_ws RX6 TX6 10 ++ ([] : List Cond))))
theorem tb_c_X6_logHolds : ∀ w ∈ wq_c_X6_logHolds, q_g w := by
  unfold wq_c_X6_logHolds ow_c_X6_logHolds
  exact q_cons tw_418 (q_app (q_cons tw_417 (q_cons tw_416 (q_cons tw_415 (q_cons tw_47 (q_cons tw_146 q_nil))))) (q_app tb_c_X6_firstInLog (q_app tu_X6 q_nil)))
set_option maxHeartbeats 4000000 in
set_option maxRecDepth 100000 in
theorem c_X6_logHolds (l : Launch) (dC : Nat → ClassId) (dI : Nat → Nat → Nat) (g : kG) (A : Nat → Prop) (hG : kWf g) (f : Nat → va_E) (h0 : Nat) (p1 : Int32) (i_h0 : ik g 6 h0) : Met l yX6_logHolds wq_c_X6_logHolds ({ frames := 2, cells := 0, slots := 0, locals := 35 } : Room) (va_Pc [.ref h0, .int p1] (fun U => kIn dC dI g A f U)) (va_Qi (fun (r : Int32) (_ : Unit) => True) (fun (_ : Unit) t => Iv dC dI g A f t.heap) A) 0 0 A := by
  refine Met.ofW (cc := cX6_logHolds) (maxL := 2) (ret := (some .boolean)) (by decide) rfl ?_
  intro p e s m args below meth c s₁ B hml hv
  obtain ⟨rfl, hI, hK, hE⟩ := hv
  have hx := B.exec
  have hb := B.bytes
  have hr := B.returns
  have hts := atoms_spec (ws := wq_c_X6_logHolds) B.pre
  have hown : s.vm.findClass RX6 = some m.cls := findClass_of_methodNamed B.named
  have hlocks := B.notSynchronized
  have hS : va_S A s.heap s.heap [] := va_S.rf
  have hl := lv_entry ([.ref h0, .int p1]) (n := 2) (Nat.le_of_ble_eq_true rfl)
  rw [lg_entry_eq]
  generalize (lg_sl ([.ref h0, .int p1]) ++ List.replicate (2 - (lg_sl ([.ref h0, .int p1])).length) Slot.unset).toArray = ls at hl ⊢
  have hl : lv_has ls 2 [(0, .ref h0), (1, .int p1)] := hl
  refine lv_iload_n hx hb dX6_logHolds_0 rfl (lv_at hl 1 rfl) ?_
  refine lv_aload_n hx hb dX6_logHolds_1 rfl (lv_at hl 0 rfl) ?_
  obtain ⟨x_2, x_3, x_4, x_5, x_6, k_1, b_7, b_8⟩ := op_6 hI i_h0
  refine va_calli (va_runV (As := []) (rest := [.int p1]) ⟨hx, hb, hml, hown, hts⟩ (c_X6_firstInLog l dC dI g A hG f h0 i_h0) (cwV 0 hts (gi_V (fun w_ h0_ => ⟨List.mem_cons_of_mem _ (List.mem_append_right _ (List.mem_append_left _ h0_)), (tb_c_X6_firstInLog w_ h0_).2⟩) (List.mem_cons_of_mem _ (List.mem_append_left _ (List.mem_of_getElem? (i := 0) rfl))) (List.mem_cons_of_mem _ (List.mem_append_left _ (List.mem_of_getElem? (i := 1) rfl))) (List.mem_cons_of_mem _ (List.mem_append_left _ (List.mem_of_getElem? (i := 2) rfl))) (List.mem_cons_of_mem _ (List.mem_append_left _ (List.mem_of_getElem? (i := 3) rfl)))) rfl rfl rfl (by decide +kernel) ⟨Nat.le_of_ble_eq_true rfl, Nat.le_of_ble_eq_true rfl⟩) ⟨fun a U g mk q => ⟨q.1, q.2.calling rfl rfl⟩, k_recv hK hI i_h0.1 k_1 (ci := 6) rfl, fun U hU hW => ⟨rfl, kIn.of hI hK hE hS hU hW⟩⟩ rfl rfl hl.1 rfl (lv_room (Nat.le_of_ble_eq_true rfl)) dX6_logHolds_2 ⟨Nat.le_of_ble_eq_true rfl, Nat.le_of_ble_eq_true rfl⟩) hS (fun q _ h => h) (fun q h => h) (fun r_10 u t H1 locs ht hvm w_9 hB hz1 hk1 hS => ?_)
  have hI : Iv dC dI g A f t.heap := hB
  rw [ht] at hI
  generalize H1 = H at hI hS ⊢
  refine W.widen (k := 0) (n := 0) (Nat.le_of_ble_eq_true rfl) (Nat.le_of_ble_eq_true rfl) ?_
  refine lv_icmp_lt (tgt := 20) hx hb dX6_logHolds_5 (by decide) (fun c_11 => ?_) (fun c_11 => ?_)
  · have c_11 := kc_lt rfl rfl c_11
    refine lv_iconst (v := 0) hx hb dX6_logHolds_20 (by decide) ?_
    exact W.zret (v := 0) hx hb hr rfl (fun t ht hW => ⟨⟨0, (), rfl, trivial, k_ret ht hI⟩, hS.F ht⟩) hS.2.2 dX6_logHolds_21
  · have c_11 := kn_lt rfl rfl c_11
    refine lv_iload_n hx hb dX6_logHolds_8 rfl (lv_at hl 1 rfl) ?_
    refine lv_aload_n hx hb dX6_logHolds_9 rfl (lv_at hl 0 rfl) ?_
    refine k_get (ci := 6) (v := .int x_3) (C := RX6) (T := TX6) (N := 10) hx hb hts (fun _ h0_ => List.mem_cons_of_mem _ (List.mem_append_right _ (List.mem_append_right _ (List.mem_append_left _ h0_)))) hown hK hI i_h0.1 k_1 rfl 6 (by decide) (hts (.fieldLink RX6 58 "DeadlineShare$State" "time" "I") (List.mem_cons_of_mem _ (List.mem_append_left _ (List.mem_of_getElem? (i := 4) rfl)))) (fun _ h9 => h9) rfl dX6_logHolds_10 ?_
    refine lv_icmp_ge (tgt := 20) hx hb dX6_logHolds_13 (by decide) (fun c_12 => ?_) (fun c_12 => ?_)
    · have c_12 := kc_le rfl rfl c_12
      refine lv_iconst (v := 0) hx hb dX6_logHolds_20 (by decide) ?_
      exact W.zret (v := 0) hx hb hr rfl (fun t ht hW => ⟨⟨0, (), rfl, trivial, k_ret ht hI⟩, hS.F ht⟩) hS.2.2 dX6_logHolds_21
    · have c_12 := kn_le rfl rfl c_12
      refine lv_iconst (v := 1) hx hb dX6_logHolds_16 (by decide) ?_
      refine lv_goto (tgt := 21) hx hb dX6_logHolds_17 (by decide) ?_
      exact W.zret (v := 1) hx hb hr rfl (fun t ht hW => ⟨⟨1, (), rfl, trivial, k_ret ht hI⟩, hS.F ht⟩) hS.2.2 dX6_logHolds_21
theorem tw_419 : q_g (.code yX6_isWindow cX6_isWindow 3 (some .boolean)) := ⟨(List.mem_append_right _ (List.mem_of_getElem? (i := 985) (by decide +kernel))), good_of_word (by decide +kernel)⟩
def ow_c_X6_isWindow : List Cond := [.methodLink RX6 316 yX6_firstInLog, .instanceMethod yX6_firstInLog, .selects RX6 yX6_firstInLog yX6_firstInLog, .initialized RX6, .fieldLink RX6 58 "DeadlineShare$State" "time" "I"]
def wq_c_X6_isWindow : List Cond := .code yX6_isWindow cX6_isWindow 3 (some .boolean) :: (ow_c_X6_isWindow ++ (wq_c_X6_firstInLog ++ (u_ws RX6 TX6 10 ++ ([] : List Cond))))
theorem tb_c_X6_isWindow : ∀ w ∈ wq_c_X6_isWindow, q_g w := by
  unfold wq_c_X6_isWindow ow_c_X6_isWindow
  exact q_cons tw_419 (q_app (q_cons tw_417 (q_cons tw_416 (q_cons tw_415 (q_cons tw_47 (q_cons tw_146 q_nil))))) (q_app tb_c_X6_firstInLog (q_app tu_X6 q_nil)))
set_option maxHeartbeats 4000000 in
set_option maxRecDepth 100000 in
theorem c_X6_isWindow (l : Launch) (dC : Nat → ClassId) (dI : Nat → Nat → Nat) (g : kG) (A : Nat → Prop) (hG : kWf g) (f : Nat → va_E) (h0 : Nat) (p1 : Int32) (p2 : Int32) (i_h0 : ik g 6 h0) : Met l yX6_isWindow wq_c_X6_isWindow ({ frames := 2, cells := 0, slots := 0, locals := 35 } : Room) (va_Pc [.ref h0, .int p1, .int p2] (fun U => kIn dC dI g A f U)) (va_Qi (fun (r : Int32) (_ : Unit) => True) (fun (_ : Unit) t => Iv dC dI g A f t.heap) A) 0 0 A := by
  refine Met.ofW (cc := cX6_isWindow) (maxL := 3) (ret := (some .boolean)) (by decide) rfl ?_
  intro p e s m args below meth c s₁ B hml hv
  obtain ⟨rfl, hI, hK, hE⟩ := hv
  have hx := B.exec
  have hb := B.bytes
  have hr := B.returns
  have hts := atoms_spec (ws := wq_c_X6_isWindow) B.pre
  have hown : s.vm.findClass RX6 = some m.cls := findClass_of_methodNamed B.named
  have hlocks := B.notSynchronized
  have hS : va_S A s.heap s.heap [] := va_S.rf
  have hl := lv_entry ([.ref h0, .int p1, .int p2]) (n := 3) (Nat.le_of_ble_eq_true rfl)
  rw [lg_entry_eq]
  generalize (lg_sl ([.ref h0, .int p1, .int p2]) ++ List.replicate (3 - (lg_sl ([.ref h0, .int p1, .int p2])).length) Slot.unset).toArray = ls at hl ⊢
  have hl : lv_has ls 3 [(0, .ref h0), (1, .int p1), (2, .int p2)] := hl
  refine lv_iload_n hx hb dX6_isWindow_0 rfl (lv_at hl 1 rfl) ?_
  refine lv_iload_n hx hb dX6_isWindow_1 rfl (lv_at hl 2 rfl) ?_
  refine lv_icmp_eq (tgt := 26) hx hb dX6_isWindow_2 (by decide) (fun c_1 => ?_) (fun c_1 => ?_)
  · have c_1 := kc_eq rfl rfl c_1
    refine lv_iconst (v := 1) hx hb dX6_isWindow_26 (by decide) ?_
    refine lv_goto (tgt := 31) hx hb dX6_isWindow_27 (by decide) ?_
    exact W.zret (v := 1) hx hb hr rfl (fun t ht hW => ⟨⟨1, (), rfl, trivial, k_ret ht hI⟩, hS.F ht⟩) hS.2.2 dX6_isWindow_31
  · have c_1 := kn_eq rfl rfl c_1
    refine lv_iload_n hx hb dX6_isWindow_5 rfl (lv_at hl 1 rfl) ?_
    refine lv_iload_n hx hb dX6_isWindow_6 rfl (lv_at hl 2 rfl) ?_
    refine lv_icmp_ge (tgt := 30) hx hb dX6_isWindow_7 (by decide) (fun c_2 => ?_) (fun c_2 => ?_)
    · have c_2 := kc_le rfl rfl c_2
      refine lv_iconst (v := 0) hx hb dX6_isWindow_30 (by decide) ?_
      exact W.zret (v := 0) hx hb hr rfl (fun t ht hW => ⟨⟨0, (), rfl, trivial, k_ret ht hI⟩, hS.F ht⟩) hS.2.2 dX6_isWindow_31
    · have c_2 := kn_le rfl rfl c_2
      refine lv_iload_n hx hb dX6_isWindow_10 rfl (lv_at hl 1 rfl) ?_
      refine lv_aload_n hx hb dX6_isWindow_11 rfl (lv_at hl 0 rfl) ?_
      obtain ⟨x_4, x_5, x_6, x_7, x_8, k_3, b_9, b_10⟩ := op_6 hI i_h0
      refine va_calli (va_runV (As := []) (rest := [.int p1]) ⟨hx, hb, hml, hown, hts⟩ (c_X6_firstInLog l dC dI g A hG f h0 i_h0) (cwV 0 hts (gi_V (fun w_ h0_ => ⟨List.mem_cons_of_mem _ (List.mem_append_right _ (List.mem_append_left _ h0_)), (tb_c_X6_firstInLog w_ h0_).2⟩) (List.mem_cons_of_mem _ (List.mem_append_left _ (List.mem_of_getElem? (i := 0) rfl))) (List.mem_cons_of_mem _ (List.mem_append_left _ (List.mem_of_getElem? (i := 1) rfl))) (List.mem_cons_of_mem _ (List.mem_append_left _ (List.mem_of_getElem? (i := 2) rfl))) (List.mem_cons_of_mem _ (List.mem_append_left _ (List.mem_of_getElem? (i := 3) rfl)))) rfl rfl rfl (by decide +kernel) ⟨Nat.le_of_ble_eq_true rfl, Nat.le_of_ble_eq_true rfl⟩) ⟨fun a U g mk q => ⟨q.1, q.2.calling rfl rfl⟩, k_recv hK hI i_h0.1 k_3 (ci := 6) rfl, fun U hU hW => ⟨rfl, kIn.of hI hK hE hS hU hW⟩⟩ rfl rfl hl.1 rfl (lv_room (Nat.le_of_ble_eq_true rfl)) dX6_isWindow_12 ⟨Nat.le_of_ble_eq_true rfl, Nat.le_of_ble_eq_true rfl⟩) hS (fun q _ h => h) (fun q h => h) (fun r_12 u t H1 locs ht hvm w_11 hB hz1 hk1 hS => ?_)
      have hI : Iv dC dI g A f t.heap := hB
      rw [ht] at hI
      generalize H1 = H at hI hS ⊢
      refine W.widen (k := 0) (n := 0) (Nat.le_of_ble_eq_true rfl) (Nat.le_of_ble_eq_true rfl) ?_
      refine lv_icmp_lt (tgt := 30) hx hb dX6_isWindow_15 (by decide) (fun c_13 => ?_) (fun c_13 => ?_)
      · have c_13 := kc_lt rfl rfl c_13
        refine lv_iconst (v := 0) hx hb dX6_isWindow_30 (by decide) ?_
        exact W.zret (v := 0) hx hb hr rfl (fun t ht hW => ⟨⟨0, (), rfl, trivial, k_ret ht hI⟩, hS.F ht⟩) hS.2.2 dX6_isWindow_31
      · have c_13 := kn_lt rfl rfl c_13
        refine lv_iload_n hx hb dX6_isWindow_18 rfl (lv_at hl 2 rfl) ?_
        refine lv_aload_n hx hb dX6_isWindow_19 rfl (lv_at hl 0 rfl) ?_
        refine k_get (ci := 6) (v := .int x_5) (C := RX6) (T := TX6) (N := 10) hx hb hts (fun _ h0_ => List.mem_cons_of_mem _ (List.mem_append_right _ (List.mem_append_right _ (List.mem_append_left _ h0_)))) hown hK hI i_h0.1 k_3 rfl 6 (by decide) (hts (.fieldLink RX6 58 "DeadlineShare$State" "time" "I") (List.mem_cons_of_mem _ (List.mem_append_left _ (List.mem_of_getElem? (i := 4) rfl)))) (fun _ h9 => h9) rfl dX6_isWindow_20 ?_
        refine lv_icmp_gt (tgt := 30) hx hb dX6_isWindow_23 (by decide) (fun c_14 => ?_) (fun c_14 => ?_)
        · have c_14 := kc_lt rfl rfl c_14
          refine lv_iconst (v := 0) hx hb dX6_isWindow_30 (by decide) ?_
          exact W.zret (v := 0) hx hb hr rfl (fun t ht hW => ⟨⟨0, (), rfl, trivial, k_ret ht hI⟩, hS.F ht⟩) hS.2.2 dX6_isWindow_31
        · have c_14 := kn_lt rfl rfl c_14
          refine lv_iconst (v := 1) hx hb dX6_isWindow_26 (by decide) ?_
          refine lv_goto (tgt := 31) hx hb dX6_isWindow_27 (by decide) ?_
          exact W.zret (v := 1) hx hb hr rfl (fun t ht hW => ⟨⟨1, (), rfl, trivial, k_ret ht hI⟩, hS.F ht⟩) hS.2.2 dX6_isWindow_31
theorem tw_420 : q_g (.code yX7_hasRoomForFive cX7_hasRoomForFive 1 (some .boolean)) := ⟨(List.mem_append_right _ (List.mem_of_getElem? (i := 392) (by decide +kernel))), good_of_word (by decide +kernel)⟩
def ow_c_X7_hasRoomForFive : List Cond := [.fieldLink RX7 15 "DeadlineShare$Tape" "length" "I"]
def wq_c_X7_hasRoomForFive : List Cond := .code yX7_hasRoomForFive cX7_hasRoomForFive 1 (some .boolean) :: (ow_c_X7_hasRoomForFive ++ (u_ws RX7 TX7 2 ++ ([] : List Cond)))
theorem tb_c_X7_hasRoomForFive : ∀ w ∈ wq_c_X7_hasRoomForFive, q_g w := by
  unfold wq_c_X7_hasRoomForFive ow_c_X7_hasRoomForFive
  exact q_cons tw_420 (q_app (q_cons tw_190 q_nil) (q_app tu_X7 q_nil))
set_option maxHeartbeats 4000000 in
set_option maxRecDepth 100000 in
theorem c_X7_hasRoomForFive (l : Launch) (dC : Nat → ClassId) (dI : Nat → Nat → Nat) (g : kG) (A : Nat → Prop) (hG : kWf g) (f : Nat → va_E) (h0 : Nat) (i_h0 : ik g 7 h0) : Met l yX7_hasRoomForFive wq_c_X7_hasRoomForFive ({ frames := 0, cells := 0, slots := 0, locals := 0 } : Room) (va_Pc [.ref h0] (fun U => kIn dC dI g A f U)) (va_Qi (fun (r : Int32) (_ : Unit) => True) (fun (_ : Unit) t => Iv dC dI g A f t.heap) A) 0 0 A := by
  refine Met.ofW (cc := cX7_hasRoomForFive) (maxL := 1) (ret := (some .boolean)) (by decide) rfl ?_
  intro p e s m args below meth c s₁ B hml hv
  obtain ⟨rfl, hI, hK, hE⟩ := hv
  have hx := B.exec
  have hb := B.bytes
  have hr := B.returns
  have hts := atoms_spec (ws := wq_c_X7_hasRoomForFive) B.pre
  have hown : s.vm.findClass RX7 = some m.cls := findClass_of_methodNamed B.named
  have hlocks := B.notSynchronized
  have hS : va_S A s.heap s.heap [] := va_S.rf
  have hl := lv_entry ([.ref h0]) (n := 1) (Nat.le_of_ble_eq_true rfl)
  rw [lg_entry_eq]
  generalize (lg_sl ([.ref h0]) ++ List.replicate (1 - (lg_sl ([.ref h0])).length) Slot.unset).toArray = ls at hl ⊢
  have hl : lv_has ls 1 [(0, .ref h0)] := hl
  refine lv_aload_n hx hb dX7_hasRoomForFive_0 rfl (lv_at hl 0 rfl) ?_
  obtain ⟨x_2, k_1⟩ := op_7 hI i_h0
  refine k_get (ci := 7) (v := .int x_2) (C := RX7) (T := TX7) (N := 2) hx hb hts (fun _ h0_ => List.mem_cons_of_mem _ (List.mem_append_right _ (List.mem_append_left _ h0_))) hown hK hI i_h0.1 k_1 rfl 1 (by decide) (hts (.fieldLink RX7 15 "DeadlineShare$Tape" "length" "I") (List.mem_cons_of_mem _ (List.mem_append_left _ (List.mem_of_getElem? (i := 0) rfl)))) (fun _ h9 => h9) rfl dX7_hasRoomForFive_1 ?_
  refine lv_bipush (v := 20) hx hb dX7_hasRoomForFive_4 (by decide) ?_
  refine lv_iadd hx hb dX7_hasRoomForFive_6 ?_
  refine lv_topi (fun v_3 ev_3 => ?_)
  have tv_3 := k_ad x_2 20
  rw [← ev_3, show Int32.toInt 20 = 20 from by decide] at tv_3
  refine lv_sipush (v := 200) hx hb dX7_hasRoomForFive_7 (by decide) ?_
  refine lv_icmp_gt (tgt := 17) hx hb dX7_hasRoomForFive_10 (by decide) (fun c_4 => ?_) (fun c_4 => ?_)
  · have c_4 := kc_lt (by decide : Int32.toInt 200 = 200) rfl c_4
    refine lv_iconst (v := 0) hx hb dX7_hasRoomForFive_17 (by decide) ?_
    exact W.zret (v := 0) hx hb hr rfl (fun t ht hW => ⟨⟨0, (), rfl, trivial, k_ret ht hI⟩, hS.F ht⟩) hS.2.2 dX7_hasRoomForFive_18
  · have c_4 := kn_lt (by decide : Int32.toInt 200 = 200) rfl c_4
    refine lv_iconst (v := 1) hx hb dX7_hasRoomForFive_13 (by decide) ?_
    refine lv_goto (tgt := 18) hx hb dX7_hasRoomForFive_14 (by decide) ?_
    exact W.zret (v := 1) hx hb hr rfl (fun t ht hW => ⟨⟨1, (), rfl, trivial, k_ret ht hI⟩, hS.F ht⟩) hS.2.2 dX7_hasRoomForFive_18
theorem tw_421 : q_g (.code yX7_addFour cX7_addFour 2 none) := ⟨(List.mem_append_right _ (List.mem_of_getElem? (i := 396) (by decide +kernel))), good_of_word (by decide +kernel)⟩
def ow_c_X7_addFour : List Cond := [.methodLink RX7 19 yX7_add, .instanceMethod yX7_add, .selects RX7 yX7_add yX7_add, .initialized RX7]
def wq_c_X7_addFour : List Cond := .code yX7_addFour cX7_addFour 2 none :: (ow_c_X7_addFour ++ (wq_c_X7_add ++ ([] : List Cond)))
theorem tb_c_X7_addFour : ∀ w ∈ wq_c_X7_addFour, q_g w := by
  unfold wq_c_X7_addFour ow_c_X7_addFour
  exact q_cons tw_421 (q_app (q_cons tw_228 (q_cons tw_227 (q_cons tw_226 (q_cons tw_192 q_nil)))) (q_app tb_c_X7_add q_nil))
set_option maxHeartbeats 4000000 in
set_option maxRecDepth 100000 in
theorem c_X7_addFour (l : Launch) (dC : Nat → ClassId) (dI : Nat → Nat → Nat) (g : kG) (A : Nat → Prop) (hG : kWf g) (f : Nat → va_E) (h0 : Nat) (p1 : Int32) (i_h0 : ik g 7 h0) : Met l yX7_addFour wq_c_X7_addFour ({ frames := 1, cells := 0, slots := 0, locals := 21 } : Room) (va_Pc [.ref h0, .int p1] (fun U => kIn dC dI g A f U)) (va_Qv (fun (_ : Unit) => True) (fun (_ : Unit) t => ∃ f1 : Nat → va_E, Iv dC dI g A f1 t.heap ∧ Kp g [7, 25] f f1) A) 0 0 A := by
  refine Met.ofW (cc := cX7_addFour) (maxL := 2) (ret := none) (by decide) rfl ?_
  intro p e s m args below meth c s₁ B hml hv
  obtain ⟨rfl, hI, hK, hE⟩ := hv
  have hx := B.exec
  have hb := B.bytes
  have hr := B.returns
  have hts := atoms_spec (ws := wq_c_X7_addFour) B.pre
  have hown : s.vm.findClass RX7 = some m.cls := findClass_of_methodNamed B.named
  have hlocks := B.notSynchronized
  have hS : va_S A s.heap s.heap [] := va_S.rf
  have hk0 : Kp g [7, 25] f f := Kp.rf
  have hl := lv_entry ([.ref h0, .int p1]) (n := 2) (Nat.le_of_ble_eq_true rfl)
  rw [lg_entry_eq]
  generalize (lg_sl ([.ref h0, .int p1]) ++ List.replicate (2 - (lg_sl ([.ref h0, .int p1])).length) Slot.unset).toArray = ls at hl ⊢
  have hl : lv_has ls 2 [(0, .ref h0), (1, .int p1)] := hl
  refine lv_aload_n hx hb dX7_addFour_0 rfl (lv_at hl 0 rfl) ?_
  refine lv_iload_n hx hb dX7_addFour_1 rfl (lv_at hl 1 rfl) ?_
  refine lv_bipush (v := 24) hx hb dX7_addFour_2 (by decide) ?_
  refine lv_iushr hx hb dX7_addFour_4 rfl ?_
  refine lv_topi (fun v_1 ev_1 => ?_)
  obtain ⟨x_3, k_2⟩ := op_7 hI i_h0
  refine va_callv (va_runV (As := [.int v_1]) (rest := []) ⟨hx, hb, hml, hown, hts⟩ (c_X7_add l dC dI g A hG f h0 v_1 i_h0) (cwV 1 hts (gi_V (fun w_ h0_ => ⟨List.mem_cons_of_mem _ (List.mem_append_right _ (List.mem_append_left _ h0_)), (tb_c_X7_add w_ h0_).2⟩) (List.mem_cons_of_mem _ (List.mem_append_left _ (List.mem_of_getElem? (i := 0) rfl))) (List.mem_cons_of_mem _ (List.mem_append_left _ (List.mem_of_getElem? (i := 1) rfl))) (List.mem_cons_of_mem _ (List.mem_append_left _ (List.mem_of_getElem? (i := 2) rfl))) (List.mem_cons_of_mem _ (List.mem_append_left _ (List.mem_of_getElem? (i := 3) rfl)))) rfl rfl rfl (by decide +kernel) ⟨Nat.le_of_ble_eq_true rfl, Nat.le_of_ble_eq_true rfl⟩) ⟨fun a U g mk q => ⟨q.1, q.2.calling rfl rfl⟩, k_recv hK hI i_h0.1 k_2 (ci := 7) rfl, fun U hU hW => ⟨rfl, kIn.of hI hK hE hS hU hW⟩⟩ rfl rfl hl.1 rfl (lv_room (Nat.le_of_ble_eq_true rfl)) dX7_addFour_5 ⟨Nat.le_of_ble_eq_true rfl, Nat.le_of_ble_eq_true rfl⟩) hS (fun q _ h => h) (fun q h => h) (fun u t H1 locs ht hvm _ hB hz1 hk1 hS => ?_)
  obtain ⟨f_4, hI, kc_6⟩ := hB
  rw [ht] at hI
  have kp_8 := Kp.call hk0 kc_6 (by decide)
  generalize H1 = H at hI hS ⊢
  refine W.widen (k := 0) (n := 0) (Nat.le_of_ble_eq_true rfl) (Nat.le_of_ble_eq_true rfl) ?_
  refine lv_aload_n hx hb dX7_addFour_8 rfl (lv_at hl 0 rfl) ?_
  refine lv_iload_n hx hb dX7_addFour_9 rfl (lv_at hl 1 rfl) ?_
  refine lv_bipush (v := 16) hx hb dX7_addFour_10 (by decide) ?_
  refine lv_iushr hx hb dX7_addFour_12 rfl ?_
  refine lv_topi (fun v_9 ev_9 => ?_)
  obtain ⟨x_11, k_10⟩ := op_7 hI i_h0
  refine va_callv (va_runV (As := [.int v_9]) (rest := []) ⟨hx, hb, hml, hown, hts⟩ (c_X7_add l dC dI g A hG f_4 h0 v_9 i_h0) (cwV 1 hts (gi_V (fun w_ h0_ => ⟨List.mem_cons_of_mem _ (List.mem_append_right _ (List.mem_append_left _ h0_)), (tb_c_X7_add w_ h0_).2⟩) (List.mem_cons_of_mem _ (List.mem_append_left _ (List.mem_of_getElem? (i := 0) rfl))) (List.mem_cons_of_mem _ (List.mem_append_left _ (List.mem_of_getElem? (i := 1) rfl))) (List.mem_cons_of_mem _ (List.mem_append_left _ (List.mem_of_getElem? (i := 2) rfl))) (List.mem_cons_of_mem _ (List.mem_append_left _ (List.mem_of_getElem? (i := 3) rfl)))) rfl rfl rfl (by decide +kernel) ⟨Nat.le_of_ble_eq_true rfl, Nat.le_of_ble_eq_true rfl⟩) ⟨fun a U g mk q => ⟨q.1, q.2.calling rfl rfl⟩, k_recv hK hI i_h0.1 k_10 (ci := 7) rfl, fun U hU hW => ⟨rfl, kIn.of hI hK hE hS hU hW⟩⟩ rfl rfl hl.1 rfl (lv_room (Nat.le_of_ble_eq_true rfl)) dX7_addFour_13 ⟨Nat.le_of_ble_eq_true rfl, Nat.le_of_ble_eq_true rfl⟩) hS (fun q _ h => h) (fun q h => h) (fun u t H1 locs ht hvm _ hB hz1 hk1 hS => ?_)
  obtain ⟨f_12, hI, kc_14⟩ := hB
  rw [ht] at hI
  have kp_16 := Kp.call kp_8 kc_14 (by decide)
  generalize H1 = H at hI hS ⊢
  refine W.widen (k := 0) (n := 0) (Nat.le_of_ble_eq_true rfl) (Nat.le_of_ble_eq_true rfl) ?_
  refine lv_aload_n hx hb dX7_addFour_16 rfl (lv_at hl 0 rfl) ?_
  refine lv_iload_n hx hb dX7_addFour_17 rfl (lv_at hl 1 rfl) ?_
  refine lv_bipush (v := 8) hx hb dX7_addFour_18 (by decide) ?_
  refine lv_iushr hx hb dX7_addFour_20 rfl ?_
  refine lv_topi (fun v_17 ev_17 => ?_)
  obtain ⟨x_19, k_18⟩ := op_7 hI i_h0
  refine va_callv (va_runV (As := [.int v_17]) (rest := []) ⟨hx, hb, hml, hown, hts⟩ (c_X7_add l dC dI g A hG f_12 h0 v_17 i_h0) (cwV 1 hts (gi_V (fun w_ h0_ => ⟨List.mem_cons_of_mem _ (List.mem_append_right _ (List.mem_append_left _ h0_)), (tb_c_X7_add w_ h0_).2⟩) (List.mem_cons_of_mem _ (List.mem_append_left _ (List.mem_of_getElem? (i := 0) rfl))) (List.mem_cons_of_mem _ (List.mem_append_left _ (List.mem_of_getElem? (i := 1) rfl))) (List.mem_cons_of_mem _ (List.mem_append_left _ (List.mem_of_getElem? (i := 2) rfl))) (List.mem_cons_of_mem _ (List.mem_append_left _ (List.mem_of_getElem? (i := 3) rfl)))) rfl rfl rfl (by decide +kernel) ⟨Nat.le_of_ble_eq_true rfl, Nat.le_of_ble_eq_true rfl⟩) ⟨fun a U g mk q => ⟨q.1, q.2.calling rfl rfl⟩, k_recv hK hI i_h0.1 k_18 (ci := 7) rfl, fun U hU hW => ⟨rfl, kIn.of hI hK hE hS hU hW⟩⟩ rfl rfl hl.1 rfl (lv_room (Nat.le_of_ble_eq_true rfl)) dX7_addFour_21 ⟨Nat.le_of_ble_eq_true rfl, Nat.le_of_ble_eq_true rfl⟩) hS (fun q _ h => h) (fun q h => h) (fun u t H1 locs ht hvm _ hB hz1 hk1 hS => ?_)
  obtain ⟨f_20, hI, kc_22⟩ := hB
  rw [ht] at hI
  have kp_24 := Kp.call kp_16 kc_22 (by decide)
  generalize H1 = H at hI hS ⊢
  refine W.widen (k := 0) (n := 0) (Nat.le_of_ble_eq_true rfl) (Nat.le_of_ble_eq_true rfl) ?_
  refine lv_aload_n hx hb dX7_addFour_24 rfl (lv_at hl 0 rfl) ?_
  refine lv_iload_n hx hb dX7_addFour_25 rfl (lv_at hl 1 rfl) ?_
  obtain ⟨x_26, k_25⟩ := op_7 hI i_h0
  refine va_callv (va_runV (As := [.int p1]) (rest := []) ⟨hx, hb, hml, hown, hts⟩ (c_X7_add l dC dI g A hG f_20 h0 p1 i_h0) (cwV 1 hts (gi_V (fun w_ h0_ => ⟨List.mem_cons_of_mem _ (List.mem_append_right _ (List.mem_append_left _ h0_)), (tb_c_X7_add w_ h0_).2⟩) (List.mem_cons_of_mem _ (List.mem_append_left _ (List.mem_of_getElem? (i := 0) rfl))) (List.mem_cons_of_mem _ (List.mem_append_left _ (List.mem_of_getElem? (i := 1) rfl))) (List.mem_cons_of_mem _ (List.mem_append_left _ (List.mem_of_getElem? (i := 2) rfl))) (List.mem_cons_of_mem _ (List.mem_append_left _ (List.mem_of_getElem? (i := 3) rfl)))) rfl rfl rfl (by decide +kernel) ⟨Nat.le_of_ble_eq_true rfl, Nat.le_of_ble_eq_true rfl⟩) ⟨fun a U g mk q => ⟨q.1, q.2.calling rfl rfl⟩, k_recv hK hI i_h0.1 k_25 (ci := 7) rfl, fun U hU hW => ⟨rfl, kIn.of hI hK hE hS hU hW⟩⟩ rfl rfl hl.1 rfl (lv_room (Nat.le_of_ble_eq_true rfl)) dX7_addFour_26 ⟨Nat.le_of_ble_eq_true rfl, Nat.le_of_ble_eq_true rfl⟩) hS (fun q _ h => h) (fun q h => h) (fun u t H1 locs ht hvm _ hB hz1 hk1 hS => ?_)
  obtain ⟨f_27, hI, kc_29⟩ := hB
  rw [ht] at hI
  have kp_31 := Kp.call kp_24 kc_29 (by decide)
  generalize H1 = H at hI hS ⊢
  refine W.widen (k := 0) (n := 0) (Nat.le_of_ble_eq_true rfl) (Nat.le_of_ble_eq_true rfl) ?_
  exact W.vret hx hb hr (fun t ht hW => ⟨⟨(), rfl, trivial, ⟨f_27, k_ret ht hI, kp_31⟩⟩, hS.F ht⟩) hS.2.2 dX7_addFour_29
theorem tw_422 : q_g (.fieldLink RX8 132 "DeadlineShare$Script" "toRun" "I") := ⟨(List.mem_append_right _ (List.mem_of_getElem? (i := 85) (by decide +kernel))), good_of_word (by decide +kernel)⟩
theorem tw_423 : q_g (.selects RX5 yX5_holdsByRun yX5_holdsByRun) := ⟨(List.mem_append_right _ (List.mem_of_getElem? (i := 907) (by decide +kernel))), good_of_word (by decide +kernel)⟩
theorem tw_424 : q_g (.instanceMethod yX5_holdsByRun) := ⟨(List.mem_append_right _ (List.mem_of_getElem? (i := 906) (by decide +kernel))), good_of_word (by decide +kernel)⟩
theorem tw_425 : q_g (.methodLink RX8 129 yX5_holdsByRun) := ⟨(List.mem_append_right _ (List.mem_of_getElem? (i := 905) (by decide +kernel))), good_of_word (by decide +kernel)⟩
theorem tw_426 : q_g (.fieldLink RX8 126 "DeadlineShare$Script" "at" "I") := ⟨(List.mem_append_right _ (List.mem_of_getElem? (i := 82) (by decide +kernel))), good_of_word (by decide +kernel)⟩
theorem tw_427 : q_g (.methodLink RX8 123 yX5_isThere) := ⟨(List.mem_append_right _ (List.mem_of_getElem? (i := 904) (by decide +kernel))), good_of_word (by decide +kernel)⟩
theorem tw_428 : q_g (.methodLink RX8 119 yX8_isOn) := ⟨(List.mem_append_right _ (List.mem_of_getElem? (i := 903) (by decide +kernel))), good_of_word (by decide +kernel)⟩
theorem tw_429 : q_g (.code yX8_tell cX8_tell 2 (some .int)) := ⟨(List.mem_append_right _ (List.mem_of_getElem? (i := 902) (by decide +kernel))), good_of_word (by decide +kernel)⟩
def ow_c_X8_tell : List Cond := [.fieldLink RX8 32 "DeadlineShare$Task" "weight" "I", .fieldLink RX8 35 "DeadlineShare$Task" "slice" "I", .fieldLink RX8 38 "DeadlineShare$Task" "state" "I", .methodLink RX8 119 yX8_isOn, .instanceMethod yX8_isOn, .selects RX8 yX8_isOn yX8_isOn, .initialized RX8, .fieldLink RX8 45 "DeadlineShare$Task" "left" "I", .fieldLink RX8 55 "DeadlineShare$Task" "served" "I", .fieldLink RX8 58 "DeadlineShare$Task" "requests" "I", .fieldLink RX8 61 "DeadlineShare$Task" "late" "I", .fieldLink RX8 64 "DeadlineShare$Task" "wait" "I", .fieldLink RX8 67 "DeadlineShare$Task" "longest" "I", .fieldLink RX8 70 "DeadlineShare$Task" "napTill" "I", .fieldLink RX8 12 "DeadlineShare$Task" "script" "LDeadlineShare$Script;", .methodLink RX8 123 yX5_isThere, .instanceMethod yX5_isThere, .selects RX5 yX5_isThere yX5_isThere, .initialized RX5, .fieldLink RX8 126 "DeadlineShare$Script" "at" "I", .methodLink RX8 129 yX5_holdsByRun, .instanceMethod yX5_holdsByRun, .selects RX5 yX5_holdsByRun yX5_holdsByRun, .fieldLink RX8 132 "DeadlineShare$Script" "toRun" "I", .fieldLink RX8 84 "DeadlineShare$Task" "budget" "I", .fieldLink RX8 87 "DeadlineShare$Task" "quota" "I", .fieldLink RX8 90 "DeadlineShare$Task" "period" "I"]
def wq_c_X8_tell : List Cond := .code yX8_tell cX8_tell 2 (some .int) :: (ow_c_X8_tell ++ (u_ws RX8 TX8 18 ++ (wq_c_X8_isOn ++ (wq_c_X5_isThere ++ (u_ws RX5 TX5 5 ++ (wq_c_X5_holdsByRun ++ ([] : List Cond)))))))
theorem tb_c_X8_tell : ∀ w ∈ wq_c_X8_tell, q_g w := by
  unfold wq_c_X8_tell ow_c_X8_tell
  exact q_cons tw_429 (q_app (q_cons tw_57 (q_cons tw_132 (q_cons tw_5 (q_cons tw_428 (q_cons tw_10 (q_cons tw_9 (q_cons tw_8 (q_cons tw_58 (q_cons tw_126 (q_cons tw_125 (q_cons tw_124 (q_cons tw_123 (q_cons tw_122 (q_cons tw_121 (q_cons tw_137 (q_cons tw_427 (q_cons tw_268 (q_cons tw_267 (q_cons tw_133 (q_cons tw_426 (q_cons tw_425 (q_cons tw_424 (q_cons tw_423 (q_cons tw_422 (q_cons tw_120 (q_cons tw_119 (q_cons tw_118 q_nil))))))))))))))))))))))))))) (q_app tu_X8 (q_app tb_c_X8_isOn (q_app tb_c_X5_isThere (q_app tu_X5 (q_app tb_c_X5_holdsByRun q_nil))))))
set_option maxHeartbeats 4000000 in
set_option maxRecDepth 100000 in
theorem c_X8_tell (l : Launch) (dC : Nat → ClassId) (dI : Nat → Nat → Nat) (g : kG) (A : Nat → Prop) (hG : kWf g) (f : Nat → va_E) (h0 : Nat) (p1 : Int32) (i_h0 : ik g 8 h0) : Met l yX8_tell wq_c_X8_tell ({ frames := 2, cells := 0, slots := 0, locals := 41 } : Room) (va_Pc [.ref h0, .int p1] (fun U => kIn dC dI g A f U)) (va_Qi (fun (r : Int32) (_ : Unit) => True) (fun (_ : Unit) t => Iv dC dI g A f t.heap) A) 0 0 A := by
  refine Met.ofW (cc := cX8_tell) (maxL := 2) (ret := (some .int)) (by decide) rfl ?_
  intro p e s m args below meth c s₁ B hml hv
  obtain ⟨rfl, hI, hK, hE⟩ := hv
  have hx := B.exec
  have hb := B.bytes
  have hr := B.returns
  have hts := atoms_spec (ws := wq_c_X8_tell) B.pre
  have hown : s.vm.findClass RX8 = some m.cls := findClass_of_methodNamed B.named
  have hlocks := B.notSynchronized
  have hS : va_S A s.heap s.heap [] := va_S.rf
  have hl := lv_entry ([.ref h0, .int p1]) (n := 2) (Nat.le_of_ble_eq_true rfl)
  rw [lg_entry_eq]
  generalize (lg_sl ([.ref h0, .int p1]) ++ List.replicate (2 - (lg_sl ([.ref h0, .int p1])).length) Slot.unset).toArray = ls at hl ⊢
  have hl : lv_has ls 2 [(0, .ref h0), (1, .int p1)] := hl
  refine lv_iload_n hx hb dX8_tell_0 rfl (lv_at hl 1 rfl) ?_
  by_cases h_1 : p1 = 0
  · refine k_topi (y := 0) h_1 ?_
    refine lv_tableIn (tgt := 76) hx hb dX8_tell_1 (by decide) (by decide) rfl (by decide) ?_
    have h_1 := kc_eq rfl (by decide : Int32.toInt 0 = 0) h_1
    refine lv_aload_n hx hb dX8_tell_76 rfl (lv_at hl 0 rfl) ?_
    obtain ⟨x_3, x_4, x_5, x_6, x_7, x_8, x_9, x_10, x_11, x_12, x_13, x_14, x_15, x_16, x_17, x_18, k_2⟩ := op_8 hI i_h0
    refine k_get (ci := 8) (v := .int x_4) (C := RX8) (T := TX8) (N := 18) hx hb hts (fun _ h0_ => List.mem_cons_of_mem _ (List.mem_append_right _ (List.mem_append_left _ h0_))) hown hK hI i_h0.1 k_2 rfl 2 (by decide) (hts (.fieldLink RX8 32 "DeadlineShare$Task" "weight" "I") (List.mem_cons_of_mem _ (List.mem_append_left _ (List.mem_of_getElem? (i := 0) rfl)))) (fun _ h9 => h9) rfl dX8_tell_77 ?_
    exact W.iret (v := x_4) hx hb hr (fun t ht hW => ⟨⟨x_4, (), rfl, trivial, k_ret ht hI⟩, hS.F ht⟩) hS.2.2 dX8_tell_80
  by_cases h_19 : p1 = 1
  · refine k_topi (y := 1) h_19 ?_
    refine lv_tableIn (tgt := 81) hx hb dX8_tell_1 (by decide) (by decide) rfl (by decide) ?_
    have h_19 := kc_eq rfl (by decide : Int32.toInt 1 = 1) h_19
    refine lv_aload_n hx hb dX8_tell_81 rfl (lv_at hl 0 rfl) ?_
    obtain ⟨x_21, x_22, x_23, x_24, x_25, x_26, x_27, x_28, x_29, x_30, x_31, x_32, x_33, x_34, x_35, x_36, k_20⟩ := op_8 hI i_h0
    refine k_get (ci := 8) (v := .int x_23) (C := RX8) (T := TX8) (N := 18) hx hb hts (fun _ h0_ => List.mem_cons_of_mem _ (List.mem_append_right _ (List.mem_append_left _ h0_))) hown hK hI i_h0.1 k_20 rfl 3 (by decide) (hts (.fieldLink RX8 35 "DeadlineShare$Task" "slice" "I") (List.mem_cons_of_mem _ (List.mem_append_left _ (List.mem_of_getElem? (i := 1) rfl)))) (fun _ h9 => h9) rfl dX8_tell_82 ?_
    exact W.iret (v := x_23) hx hb hr (fun t ht hW => ⟨⟨x_23, (), rfl, trivial, k_ret ht hI⟩, hS.F ht⟩) hS.2.2 dX8_tell_85
  by_cases h_37 : p1 = 2
  · refine k_topi (y := 2) h_37 ?_
    refine lv_tableIn (tgt := 86) hx hb dX8_tell_1 (by decide) (by decide) rfl (by decide) ?_
    have h_37 := kc_eq rfl (by decide : Int32.toInt 2 = 2) h_37
    refine lv_aload_n hx hb dX8_tell_86 rfl (lv_at hl 0 rfl) ?_
    obtain ⟨x_39, x_40, x_41, x_42, x_43, x_44, x_45, x_46, x_47, x_48, x_49, x_50, x_51, x_52, x_53, x_54, k_38⟩ := op_8 hI i_h0
    refine k_get (ci := 8) (v := .int x_42) (C := RX8) (T := TX8) (N := 18) hx hb hts (fun _ h0_ => List.mem_cons_of_mem _ (List.mem_append_right _ (List.mem_append_left _ h0_))) hown hK hI i_h0.1 k_38 rfl 4 (by decide) (hts (.fieldLink RX8 38 "DeadlineShare$Task" "state" "I") (List.mem_cons_of_mem _ (List.mem_append_left _ (List.mem_of_getElem? (i := 2) rfl)))) (fun _ h9 => h9) rfl dX8_tell_87 ?_
    exact W.iret (v := x_42) hx hb hr (fun t ht hW => ⟨⟨x_42, (), rfl, trivial, k_ret ht hI⟩, hS.F ht⟩) hS.2.2 dX8_tell_90
  by_cases h_55 : p1 = 3
  · refine k_topi (y := 3) h_55 ?_
    refine lv_tableIn (tgt := 91) hx hb dX8_tell_1 (by decide) (by decide) rfl (by decide) ?_
    have h_55 := kc_eq rfl (by decide : Int32.toInt 3 = 3) h_55
    refine lv_aload_n hx hb dX8_tell_91 rfl (lv_at hl 0 rfl) ?_
    obtain ⟨x_57, x_58, x_59, x_60, x_61, x_62, x_63, x_64, x_65, x_66, x_67, x_68, x_69, x_70, x_71, x_72, k_56⟩ := op_8 hI i_h0
    refine va_calli (va_runV (As := []) (rest := []) ⟨hx, hb, hml, hown, hts⟩ (c_X8_isOn l dC dI g A hG f h0 i_h0) (cwV 0 hts (gi_V (fun w_ h0_ => ⟨List.mem_cons_of_mem _ (List.mem_append_right _ (List.mem_append_right _ (List.mem_append_left _ h0_))), (tb_c_X8_isOn w_ h0_).2⟩) (List.mem_cons_of_mem _ (List.mem_append_left _ (List.mem_of_getElem? (i := 3) rfl))) (List.mem_cons_of_mem _ (List.mem_append_left _ (List.mem_of_getElem? (i := 4) rfl))) (List.mem_cons_of_mem _ (List.mem_append_left _ (List.mem_of_getElem? (i := 5) rfl))) (List.mem_cons_of_mem _ (List.mem_append_left _ (List.mem_of_getElem? (i := 6) rfl)))) rfl rfl rfl (by decide +kernel) ⟨Nat.le_of_ble_eq_true rfl, Nat.le_of_ble_eq_true rfl⟩) ⟨fun a U g mk q => ⟨q.1, q.2.calling rfl rfl⟩, k_recv hK hI i_h0.1 k_56 (ci := 8) rfl, fun U hU hW => ⟨rfl, kIn.of hI hK hE hS hU hW⟩⟩ rfl rfl hl.1 rfl (lv_room (Nat.le_of_ble_eq_true rfl)) dX8_tell_92 ⟨Nat.le_of_ble_eq_true rfl, Nat.le_of_ble_eq_true rfl⟩) hS (fun q _ h => h) (fun q h => h) (fun r_74 u t H1 locs ht hvm w_73 hB hz1 hk1 hS => ?_)
    have hI : Iv dC dI g A f t.heap := hB
    rw [ht] at hI
    generalize H1 = H at hI hS ⊢
    refine W.widen (k := 0) (n := 0) (Nat.le_of_ble_eq_true rfl) (Nat.le_of_ble_eq_true rfl) ?_
    refine lv_if_eq (tgt := 105) hx hb dX8_tell_95 (by decide) (fun c_75 => ?_) (fun c_75 => ?_)
    · have c_75 := kc_eq rfl (by decide : Int32.toInt 0 = 0) c_75
      refine lv_iconst (v := (-1)) hx hb dX8_tell_105 (by decide) ?_
      exact W.iret (v := (-1)) hx hb hr (fun t ht hW => ⟨⟨(-1), (), rfl, trivial, k_ret ht hI⟩, hS.F ht⟩) hS.2.2 dX8_tell_106
    · have c_75 := kn_eq rfl (by decide : Int32.toInt 0 = 0) c_75
      refine lv_aload_n hx hb dX8_tell_98 rfl (lv_at hl 0 rfl) ?_
      refine k_get (ci := 8) (v := .int x_62) (C := RX8) (T := TX8) (N := 18) hx hb hts (fun _ h0_ => List.mem_cons_of_mem _ (List.mem_append_right _ (List.mem_append_left _ h0_))) hown hK hI i_h0.1 k_56 rfl 6 (by decide) (hts (.fieldLink RX8 45 "DeadlineShare$Task" "left" "I") (List.mem_cons_of_mem _ (List.mem_append_left _ (List.mem_of_getElem? (i := 7) rfl)))) (fun _ h9 => h9) rfl dX8_tell_99 ?_
      refine lv_goto (tgt := 106) hx hb dX8_tell_102 (by decide) ?_
      exact W.iret (v := x_62) hx hb hr (fun t ht hW => ⟨⟨x_62, (), rfl, trivial, k_ret ht hI⟩, hS.F ht⟩) hS.2.2 dX8_tell_106
  by_cases h_76 : p1 = 4
  · refine k_topi (y := 4) h_76 ?_
    refine lv_tableIn (tgt := 107) hx hb dX8_tell_1 (by decide) (by decide) rfl (by decide) ?_
    have h_76 := kc_eq rfl (by decide : Int32.toInt 4 = 4) h_76
    refine lv_aload_n hx hb dX8_tell_107 rfl (lv_at hl 0 rfl) ?_
    obtain ⟨x_78, x_79, x_80, x_81, x_82, x_83, x_84, x_85, x_86, x_87, x_88, x_89, x_90, x_91, x_92, x_93, k_77⟩ := op_8 hI i_h0
    refine k_get (ci := 8) (v := .int x_85) (C := RX8) (T := TX8) (N := 18) hx hb hts (fun _ h0_ => List.mem_cons_of_mem _ (List.mem_append_right _ (List.mem_append_left _ h0_))) hown hK hI i_h0.1 k_77 rfl 9 (by decide) (hts (.fieldLink RX8 55 "DeadlineShare$Task" "served" "I") (List.mem_cons_of_mem _ (List.mem_append_left _ (List.mem_of_getElem? (i := 8) rfl)))) (fun _ h9 => h9) rfl dX8_tell_108 ?_
    exact W.iret (v := x_85) hx hb hr (fun t ht hW => ⟨⟨x_85, (), rfl, trivial, k_ret ht hI⟩, hS.F ht⟩) hS.2.2 dX8_tell_111
  by_cases h_94 : p1 = 5
  · refine k_topi (y := 5) h_94 ?_
    refine lv_tableIn (tgt := 112) hx hb dX8_tell_1 (by decide) (by decide) rfl (by decide) ?_
    have h_94 := kc_eq rfl (by decide : Int32.toInt 5 = 5) h_94
    refine lv_aload_n hx hb dX8_tell_112 rfl (lv_at hl 0 rfl) ?_
    obtain ⟨x_96, x_97, x_98, x_99, x_100, x_101, x_102, x_103, x_104, x_105, x_106, x_107, x_108, x_109, x_110, x_111, k_95⟩ := op_8 hI i_h0
    refine k_get (ci := 8) (v := .int x_104) (C := RX8) (T := TX8) (N := 18) hx hb hts (fun _ h0_ => List.mem_cons_of_mem _ (List.mem_append_right _ (List.mem_append_left _ h0_))) hown hK hI i_h0.1 k_95 rfl 10 (by decide) (hts (.fieldLink RX8 58 "DeadlineShare$Task" "requests" "I") (List.mem_cons_of_mem _ (List.mem_append_left _ (List.mem_of_getElem? (i := 9) rfl)))) (fun _ h9 => h9) rfl dX8_tell_113 ?_
    exact W.iret (v := x_104) hx hb hr (fun t ht hW => ⟨⟨x_104, (), rfl, trivial, k_ret ht hI⟩, hS.F ht⟩) hS.2.2 dX8_tell_116
  by_cases h_112 : p1 = 6
  · refine k_topi (y := 6) h_112 ?_
    refine lv_tableIn (tgt := 117) hx hb dX8_tell_1 (by decide) (by decide) rfl (by decide) ?_
    have h_112 := kc_eq rfl (by decide : Int32.toInt 6 = 6) h_112
    refine lv_aload_n hx hb dX8_tell_117 rfl (lv_at hl 0 rfl) ?_
    obtain ⟨x_114, x_115, x_116, x_117, x_118, x_119, x_120, x_121, x_122, x_123, x_124, x_125, x_126, x_127, x_128, x_129, k_113⟩ := op_8 hI i_h0
    refine k_get (ci := 8) (v := .int x_123) (C := RX8) (T := TX8) (N := 18) hx hb hts (fun _ h0_ => List.mem_cons_of_mem _ (List.mem_append_right _ (List.mem_append_left _ h0_))) hown hK hI i_h0.1 k_113 rfl 11 (by decide) (hts (.fieldLink RX8 61 "DeadlineShare$Task" "late" "I") (List.mem_cons_of_mem _ (List.mem_append_left _ (List.mem_of_getElem? (i := 10) rfl)))) (fun _ h9 => h9) rfl dX8_tell_118 ?_
    exact W.iret (v := x_123) hx hb hr (fun t ht hW => ⟨⟨x_123, (), rfl, trivial, k_ret ht hI⟩, hS.F ht⟩) hS.2.2 dX8_tell_121
  by_cases h_130 : p1 = 7
  · refine k_topi (y := 7) h_130 ?_
    refine lv_tableIn (tgt := 122) hx hb dX8_tell_1 (by decide) (by decide) rfl (by decide) ?_
    have h_130 := kc_eq rfl (by decide : Int32.toInt 7 = 7) h_130
    refine lv_aload_n hx hb dX8_tell_122 rfl (lv_at hl 0 rfl) ?_
    obtain ⟨x_132, x_133, x_134, x_135, x_136, x_137, x_138, x_139, x_140, x_141, x_142, x_143, x_144, x_145, x_146, x_147, k_131⟩ := op_8 hI i_h0
    refine va_calli (va_runV (As := []) (rest := []) ⟨hx, hb, hml, hown, hts⟩ (c_X8_isOn l dC dI g A hG f h0 i_h0) (cwV 0 hts (gi_V (fun w_ h0_ => ⟨List.mem_cons_of_mem _ (List.mem_append_right _ (List.mem_append_right _ (List.mem_append_left _ h0_))), (tb_c_X8_isOn w_ h0_).2⟩) (List.mem_cons_of_mem _ (List.mem_append_left _ (List.mem_of_getElem? (i := 3) rfl))) (List.mem_cons_of_mem _ (List.mem_append_left _ (List.mem_of_getElem? (i := 4) rfl))) (List.mem_cons_of_mem _ (List.mem_append_left _ (List.mem_of_getElem? (i := 5) rfl))) (List.mem_cons_of_mem _ (List.mem_append_left _ (List.mem_of_getElem? (i := 6) rfl)))) rfl rfl rfl (by decide +kernel) ⟨Nat.le_of_ble_eq_true rfl, Nat.le_of_ble_eq_true rfl⟩) ⟨fun a U g mk q => ⟨q.1, q.2.calling rfl rfl⟩, k_recv hK hI i_h0.1 k_131 (ci := 8) rfl, fun U hU hW => ⟨rfl, kIn.of hI hK hE hS hU hW⟩⟩ rfl rfl hl.1 rfl (lv_room (Nat.le_of_ble_eq_true rfl)) dX8_tell_123 ⟨Nat.le_of_ble_eq_true rfl, Nat.le_of_ble_eq_true rfl⟩) hS (fun q _ h => h) (fun q h => h) (fun r_149 u t H1 locs ht hvm w_148 hB hz1 hk1 hS => ?_)
    have hI : Iv dC dI g A f t.heap := hB
    rw [ht] at hI
    generalize H1 = H at hI hS ⊢
    refine W.widen (k := 0) (n := 0) (Nat.le_of_ble_eq_true rfl) (Nat.le_of_ble_eq_true rfl) ?_
    refine lv_if_eq (tgt := 136) hx hb dX8_tell_126 (by decide) (fun c_150 => ?_) (fun c_150 => ?_)
    · have c_150 := kc_eq rfl (by decide : Int32.toInt 0 = 0) c_150
      refine lv_iconst (v := (-1)) hx hb dX8_tell_136 (by decide) ?_
      exact W.iret (v := (-1)) hx hb hr (fun t ht hW => ⟨⟨(-1), (), rfl, trivial, k_ret ht hI⟩, hS.F ht⟩) hS.2.2 dX8_tell_137
    · have c_150 := kn_eq rfl (by decide : Int32.toInt 0 = 0) c_150
      refine lv_aload_n hx hb dX8_tell_129 rfl (lv_at hl 0 rfl) ?_
      refine k_get (ci := 8) (v := .int x_142) (C := RX8) (T := TX8) (N := 18) hx hb hts (fun _ h0_ => List.mem_cons_of_mem _ (List.mem_append_right _ (List.mem_append_left _ h0_))) hown hK hI i_h0.1 k_131 rfl 12 (by decide) (hts (.fieldLink RX8 64 "DeadlineShare$Task" "wait" "I") (List.mem_cons_of_mem _ (List.mem_append_left _ (List.mem_of_getElem? (i := 11) rfl)))) (fun _ h9 => h9) rfl dX8_tell_130 ?_
      refine lv_goto (tgt := 137) hx hb dX8_tell_133 (by decide) ?_
      exact W.iret (v := x_142) hx hb hr (fun t ht hW => ⟨⟨x_142, (), rfl, trivial, k_ret ht hI⟩, hS.F ht⟩) hS.2.2 dX8_tell_137
  by_cases h_151 : p1 = 8
  · refine k_topi (y := 8) h_151 ?_
    refine lv_tableIn (tgt := 138) hx hb dX8_tell_1 (by decide) (by decide) rfl (by decide) ?_
    have h_151 := kc_eq rfl (by decide : Int32.toInt 8 = 8) h_151
    refine lv_aload_n hx hb dX8_tell_138 rfl (lv_at hl 0 rfl) ?_
    obtain ⟨x_153, x_154, x_155, x_156, x_157, x_158, x_159, x_160, x_161, x_162, x_163, x_164, x_165, x_166, x_167, x_168, k_152⟩ := op_8 hI i_h0
    refine k_get (ci := 8) (v := .int x_164) (C := RX8) (T := TX8) (N := 18) hx hb hts (fun _ h0_ => List.mem_cons_of_mem _ (List.mem_append_right _ (List.mem_append_left _ h0_))) hown hK hI i_h0.1 k_152 rfl 13 (by decide) (hts (.fieldLink RX8 67 "DeadlineShare$Task" "longest" "I") (List.mem_cons_of_mem _ (List.mem_append_left _ (List.mem_of_getElem? (i := 12) rfl)))) (fun _ h9 => h9) rfl dX8_tell_139 ?_
    exact W.iret (v := x_164) hx hb hr (fun t ht hW => ⟨⟨x_164, (), rfl, trivial, k_ret ht hI⟩, hS.F ht⟩) hS.2.2 dX8_tell_142
  by_cases h_169 : p1 = 9
  · refine k_topi (y := 9) h_169 ?_
    refine lv_tableIn (tgt := 143) hx hb dX8_tell_1 (by decide) (by decide) rfl (by decide) ?_
    have h_169 := kc_eq rfl (by decide : Int32.toInt 9 = 9) h_169
    refine lv_aload_n hx hb dX8_tell_143 rfl (lv_at hl 0 rfl) ?_
    obtain ⟨x_171, x_172, x_173, x_174, x_175, x_176, x_177, x_178, x_179, x_180, x_181, x_182, x_183, x_184, x_185, x_186, k_170⟩ := op_8 hI i_h0
    refine k_get (ci := 8) (v := .int x_174) (C := RX8) (T := TX8) (N := 18) hx hb hts (fun _ h0_ => List.mem_cons_of_mem _ (List.mem_append_right _ (List.mem_append_left _ h0_))) hown hK hI i_h0.1 k_170 rfl 4 (by decide) (hts (.fieldLink RX8 38 "DeadlineShare$Task" "state" "I") (List.mem_cons_of_mem _ (List.mem_append_left _ (List.mem_of_getElem? (i := 2) rfl)))) (fun _ h9 => h9) rfl dX8_tell_144 ?_
    refine lv_iconst (v := 2) hx hb dX8_tell_147 (by decide) ?_
    refine lv_icmp_ne (tgt := 158) hx hb dX8_tell_148 (by decide) (fun c_187 => ?_) (fun c_187 => ?_)
    · have c_187 := kn_eq rfl (by decide : Int32.toInt 2 = 2) c_187
      refine lv_iconst (v := (-1)) hx hb dX8_tell_158 (by decide) ?_
      exact W.iret (v := (-1)) hx hb hr (fun t ht hW => ⟨⟨(-1), (), rfl, trivial, k_ret ht hI⟩, hS.F ht⟩) hS.2.2 dX8_tell_159
    · have c_187 := kc_eq rfl (by decide : Int32.toInt 2 = 2) c_187
      refine lv_aload_n hx hb dX8_tell_151 rfl (lv_at hl 0 rfl) ?_
      refine k_get (ci := 8) (v := .int x_183) (C := RX8) (T := TX8) (N := 18) hx hb hts (fun _ h0_ => List.mem_cons_of_mem _ (List.mem_append_right _ (List.mem_append_left _ h0_))) hown hK hI i_h0.1 k_170 rfl 14 (by decide) (hts (.fieldLink RX8 70 "DeadlineShare$Task" "napTill" "I") (List.mem_cons_of_mem _ (List.mem_append_left _ (List.mem_of_getElem? (i := 13) rfl)))) (fun _ h9 => h9) rfl dX8_tell_152 ?_
      refine lv_goto (tgt := 159) hx hb dX8_tell_155 (by decide) ?_
      exact W.iret (v := x_183) hx hb hr (fun t ht hW => ⟨⟨x_183, (), rfl, trivial, k_ret ht hI⟩, hS.F ht⟩) hS.2.2 dX8_tell_159
  by_cases h_188 : p1 = 10
  · refine k_topi (y := 10) h_188 ?_
    refine lv_tableIn (tgt := 160) hx hb dX8_tell_1 (by decide) (by decide) rfl (by decide) ?_
    have h_188 := kc_eq rfl (by decide : Int32.toInt 10 = 10) h_188
    refine lv_aload_n hx hb dX8_tell_160 rfl (lv_at hl 0 rfl) ?_
    obtain ⟨x_190, x_191, x_192, x_193, x_194, x_195, x_196, x_197, x_198, x_199, x_200, x_201, x_202, x_203, x_204, x_205, k_189⟩ := op_8 hI i_h0
    refine k_get (ci := 8) (v := .ref (gr g h0 1)) (C := RX8) (T := TX8) (N := 18) hx hb hts (fun _ h0_ => List.mem_cons_of_mem _ (List.mem_append_right _ (List.mem_append_left _ h0_))) hown hK hI i_h0.1 k_189 rfl 1 (by decide) (hts (.fieldLink RX8 12 "DeadlineShare$Task" "script" "LDeadlineShare$Script;") (List.mem_cons_of_mem _ (List.mem_append_left _ (List.mem_of_getElem? (i := 14) rfl)))) (fun _ h9 => h9) rfl dX8_tell_161 ?_
    have i_207 := kw_8_1 hG i_h0
    obtain ⟨x_209, x_210, x_211, x_212, k_208, b_213, b_214⟩ := op_5 hI i_207
    refine va_calli (va_runV (As := []) (rest := []) ⟨hx, hb, hml, hown, hts⟩ (c_X5_isThere l dC dI g A hG f (gr g h0 1) i_207) (cwV 0 hts (gi_V (fun w_ h0_ => ⟨List.mem_cons_of_mem _ (List.mem_append_right _ (List.mem_append_right _ (List.mem_append_right _ (List.mem_append_left _ h0_)))), (tb_c_X5_isThere w_ h0_).2⟩) (List.mem_cons_of_mem _ (List.mem_append_left _ (List.mem_of_getElem? (i := 15) rfl))) (List.mem_cons_of_mem _ (List.mem_append_left _ (List.mem_of_getElem? (i := 16) rfl))) (List.mem_cons_of_mem _ (List.mem_append_left _ (List.mem_of_getElem? (i := 17) rfl))) (List.mem_cons_of_mem _ (List.mem_append_left _ (List.mem_of_getElem? (i := 18) rfl)))) rfl rfl rfl (by decide +kernel) ⟨Nat.le_of_ble_eq_true rfl, Nat.le_of_ble_eq_true rfl⟩) ⟨fun a U g mk q => ⟨q.1, q.2.calling rfl rfl⟩, k_recv hK hI i_207.1 k_208 (ci := 5) rfl, fun U hU hW => ⟨rfl, kIn.of hI hK hE hS hU hW⟩⟩ rfl rfl hl.1 rfl (lv_room (Nat.le_of_ble_eq_true rfl)) dX8_tell_164 ⟨Nat.le_of_ble_eq_true rfl, Nat.le_of_ble_eq_true rfl⟩) hS (fun q _ h => h) (fun q h => h) (fun r_216 u t H1 locs ht hvm w_215 hB hz1 hk1 hS => ?_)
    have hI : Iv dC dI g A f t.heap := hB
    rw [ht] at hI
    generalize H1 = H at hI hS ⊢
    refine W.widen (k := 0) (n := 0) (Nat.le_of_ble_eq_true rfl) (Nat.le_of_ble_eq_true rfl) ?_
    refine lv_if_eq (tgt := 180) hx hb dX8_tell_167 (by decide) (fun c_217 => ?_) (fun c_217 => ?_)
    · have c_217 := kc_eq rfl (by decide : Int32.toInt 0 = 0) c_217
      refine lv_iconst (v := (-1)) hx hb dX8_tell_180 (by decide) ?_
      exact W.iret (v := (-1)) hx hb hr (fun t ht hW => ⟨⟨(-1), (), rfl, trivial, k_ret ht hI⟩, hS.F ht⟩) hS.2.2 dX8_tell_181
    · have c_217 := kn_eq rfl (by decide : Int32.toInt 0 = 0) c_217
      refine lv_aload_n hx hb dX8_tell_170 rfl (lv_at hl 0 rfl) ?_
      refine k_get (ci := 8) (v := .ref (gr g h0 1)) (C := RX8) (T := TX8) (N := 18) hx hb hts (fun _ h0_ => List.mem_cons_of_mem _ (List.mem_append_right _ (List.mem_append_left _ h0_))) hown hK hI i_h0.1 k_189 rfl 1 (by decide) (hts (.fieldLink RX8 12 "DeadlineShare$Task" "script" "LDeadlineShare$Script;") (List.mem_cons_of_mem _ (List.mem_append_left _ (List.mem_of_getElem? (i := 14) rfl)))) (fun _ h9 => h9) rfl dX8_tell_171 ?_
      refine k_get (ci := 5) (v := .int x_210) (C := RX5) (T := TX5) (N := 5) hx hb hts (fun _ h0_ => List.mem_cons_of_mem _ (List.mem_append_right _ (List.mem_append_right _ (List.mem_append_right _ (List.mem_append_right _ (List.mem_append_left _ h0_)))))) hown hK hI i_207.1 k_208 rfl 2 (by decide) (hts (.fieldLink RX8 126 "DeadlineShare$Script" "at" "I") (List.mem_cons_of_mem _ (List.mem_append_left _ (List.mem_of_getElem? (i := 19) rfl)))) (fun _ h9 => h9) rfl dX8_tell_174 ?_
      refine lv_goto (tgt := 181) hx hb dX8_tell_177 (by decide) ?_
      exact W.iret (v := x_210) hx hb hr (fun t ht hW => ⟨⟨x_210, (), rfl, trivial, k_ret ht hI⟩, hS.F ht⟩) hS.2.2 dX8_tell_181
  by_cases h_220 : p1 = 11
  · refine k_topi (y := 11) h_220 ?_
    refine lv_tableIn (tgt := 182) hx hb dX8_tell_1 (by decide) (by decide) rfl (by decide) ?_
    have h_220 := kc_eq rfl (by decide : Int32.toInt 11 = 11) h_220
    refine lv_aload_n hx hb dX8_tell_182 rfl (lv_at hl 0 rfl) ?_
    obtain ⟨x_222, x_223, x_224, x_225, x_226, x_227, x_228, x_229, x_230, x_231, x_232, x_233, x_234, x_235, x_236, x_237, k_221⟩ := op_8 hI i_h0
    refine k_get (ci := 8) (v := .ref (gr g h0 1)) (C := RX8) (T := TX8) (N := 18) hx hb hts (fun _ h0_ => List.mem_cons_of_mem _ (List.mem_append_right _ (List.mem_append_left _ h0_))) hown hK hI i_h0.1 k_221 rfl 1 (by decide) (hts (.fieldLink RX8 12 "DeadlineShare$Task" "script" "LDeadlineShare$Script;") (List.mem_cons_of_mem _ (List.mem_append_left _ (List.mem_of_getElem? (i := 14) rfl)))) (fun _ h9 => h9) rfl dX8_tell_183 ?_
    have i_239 := kw_8_1 hG i_h0
    obtain ⟨x_241, x_242, x_243, x_244, k_240, b_245, b_246⟩ := op_5 hI i_239
    refine va_calli (va_runV (As := []) (rest := []) ⟨hx, hb, hml, hown, hts⟩ (c_X5_holdsByRun l dC dI g A hG f (gr g h0 1) i_239) (cwV 0 hts (gi_V (fun w_ h0_ => ⟨List.mem_cons_of_mem _ (List.mem_append_right _ (List.mem_append_right _ (List.mem_append_right _ (List.mem_append_right _ (List.mem_append_right _ (List.mem_append_left _ h0_)))))), (tb_c_X5_holdsByRun w_ h0_).2⟩) (List.mem_cons_of_mem _ (List.mem_append_left _ (List.mem_of_getElem? (i := 20) rfl))) (List.mem_cons_of_mem _ (List.mem_append_left _ (List.mem_of_getElem? (i := 21) rfl))) (List.mem_cons_of_mem _ (List.mem_append_left _ (List.mem_of_getElem? (i := 22) rfl))) (List.mem_cons_of_mem _ (List.mem_append_left _ (List.mem_of_getElem? (i := 18) rfl)))) rfl rfl rfl (by decide +kernel) ⟨Nat.le_of_ble_eq_true rfl, Nat.le_of_ble_eq_true rfl⟩) ⟨fun a U g mk q => ⟨q.1, q.2.calling rfl rfl⟩, k_recv hK hI i_239.1 k_240 (ci := 5) rfl, fun U hU hW => ⟨rfl, kIn.of hI hK hE hS hU hW⟩⟩ rfl rfl hl.1 rfl (lv_room (Nat.le_of_ble_eq_true rfl)) dX8_tell_186 ⟨Nat.le_of_ble_eq_true rfl, Nat.le_of_ble_eq_true rfl⟩) hS (fun q _ h => h) (fun q h => h) (fun r_248 u t H1 locs ht hvm w_247 hB hz1 hk1 hS => ?_)
    have hI : Iv dC dI g A f t.heap := hB
    rw [ht] at hI
    generalize H1 = H at hI hS ⊢
    refine W.widen (k := 0) (n := 0) (Nat.le_of_ble_eq_true rfl) (Nat.le_of_ble_eq_true rfl) ?_
    refine lv_if_eq (tgt := 202) hx hb dX8_tell_189 (by decide) (fun c_249 => ?_) (fun c_249 => ?_)
    · have c_249 := kc_eq rfl (by decide : Int32.toInt 0 = 0) c_249
      refine lv_iconst (v := (-1)) hx hb dX8_tell_202 (by decide) ?_
      exact W.iret (v := (-1)) hx hb hr (fun t ht hW => ⟨⟨(-1), (), rfl, trivial, k_ret ht hI⟩, hS.F ht⟩) hS.2.2 dX8_tell_203
    · have c_249 := kn_eq rfl (by decide : Int32.toInt 0 = 0) c_249
      refine lv_aload_n hx hb dX8_tell_192 rfl (lv_at hl 0 rfl) ?_
      refine k_get (ci := 8) (v := .ref (gr g h0 1)) (C := RX8) (T := TX8) (N := 18) hx hb hts (fun _ h0_ => List.mem_cons_of_mem _ (List.mem_append_right _ (List.mem_append_left _ h0_))) hown hK hI i_h0.1 k_221 rfl 1 (by decide) (hts (.fieldLink RX8 12 "DeadlineShare$Task" "script" "LDeadlineShare$Script;") (List.mem_cons_of_mem _ (List.mem_append_left _ (List.mem_of_getElem? (i := 14) rfl)))) (fun _ h9 => h9) rfl dX8_tell_193 ?_
      refine k_get (ci := 5) (v := .int x_243) (C := RX5) (T := TX5) (N := 5) hx hb hts (fun _ h0_ => List.mem_cons_of_mem _ (List.mem_append_right _ (List.mem_append_right _ (List.mem_append_right _ (List.mem_append_right _ (List.mem_append_left _ h0_)))))) hown hK hI i_239.1 k_240 rfl 3 (by decide) (hts (.fieldLink RX8 132 "DeadlineShare$Script" "toRun" "I") (List.mem_cons_of_mem _ (List.mem_append_left _ (List.mem_of_getElem? (i := 23) rfl)))) (fun _ h9 => h9) rfl dX8_tell_196 ?_
      refine lv_goto (tgt := 203) hx hb dX8_tell_199 (by decide) ?_
      exact W.iret (v := x_243) hx hb hr (fun t ht hW => ⟨⟨x_243, (), rfl, trivial, k_ret ht hI⟩, hS.F ht⟩) hS.2.2 dX8_tell_203
  by_cases h_252 : p1 = 12
  · refine k_topi (y := 12) h_252 ?_
    refine lv_tableIn (tgt := 204) hx hb dX8_tell_1 (by decide) (by decide) rfl (by decide) ?_
    have h_252 := kc_eq rfl (by decide : Int32.toInt 12 = 12) h_252
    refine lv_aload_n hx hb dX8_tell_204 rfl (lv_at hl 0 rfl) ?_
    obtain ⟨x_254, x_255, x_256, x_257, x_258, x_259, x_260, x_261, x_262, x_263, x_264, x_265, x_266, x_267, x_268, x_269, k_253⟩ := op_8 hI i_h0
    refine k_get (ci := 8) (v := .int x_267) (C := RX8) (T := TX8) (N := 18) hx hb hts (fun _ h0_ => List.mem_cons_of_mem _ (List.mem_append_right _ (List.mem_append_left _ h0_))) hown hK hI i_h0.1 k_253 rfl 15 (by decide) (hts (.fieldLink RX8 84 "DeadlineShare$Task" "budget" "I") (List.mem_cons_of_mem _ (List.mem_append_left _ (List.mem_of_getElem? (i := 24) rfl)))) (fun _ h9 => h9) rfl dX8_tell_205 ?_
    exact W.iret (v := x_267) hx hb hr (fun t ht hW => ⟨⟨x_267, (), rfl, trivial, k_ret ht hI⟩, hS.F ht⟩) hS.2.2 dX8_tell_208
  by_cases h_270 : p1 = 13
  · refine k_topi (y := 13) h_270 ?_
    refine lv_tableIn (tgt := 209) hx hb dX8_tell_1 (by decide) (by decide) rfl (by decide) ?_
    have h_270 := kc_eq rfl (by decide : Int32.toInt 13 = 13) h_270
    refine lv_aload_n hx hb dX8_tell_209 rfl (lv_at hl 0 rfl) ?_
    obtain ⟨x_272, x_273, x_274, x_275, x_276, x_277, x_278, x_279, x_280, x_281, x_282, x_283, x_284, x_285, x_286, x_287, k_271⟩ := op_8 hI i_h0
    refine k_get (ci := 8) (v := .int x_286) (C := RX8) (T := TX8) (N := 18) hx hb hts (fun _ h0_ => List.mem_cons_of_mem _ (List.mem_append_right _ (List.mem_append_left _ h0_))) hown hK hI i_h0.1 k_271 rfl 16 (by decide) (hts (.fieldLink RX8 87 "DeadlineShare$Task" "quota" "I") (List.mem_cons_of_mem _ (List.mem_append_left _ (List.mem_of_getElem? (i := 25) rfl)))) (fun _ h9 => h9) rfl dX8_tell_210 ?_
    exact W.iret (v := x_286) hx hb hr (fun t ht hW => ⟨⟨x_286, (), rfl, trivial, k_ret ht hI⟩, hS.F ht⟩) hS.2.2 dX8_tell_213
  by_cases h_288 : p1 = 14
  · refine k_topi (y := 14) h_288 ?_
    refine lv_tableIn (tgt := 214) hx hb dX8_tell_1 (by decide) (by decide) rfl (by decide) ?_
    have h_288 := kc_eq rfl (by decide : Int32.toInt 14 = 14) h_288
    refine lv_aload_n hx hb dX8_tell_214 rfl (lv_at hl 0 rfl) ?_
    obtain ⟨x_290, x_291, x_292, x_293, x_294, x_295, x_296, x_297, x_298, x_299, x_300, x_301, x_302, x_303, x_304, x_305, k_289⟩ := op_8 hI i_h0
    refine k_get (ci := 8) (v := .int x_305) (C := RX8) (T := TX8) (N := 18) hx hb hts (fun _ h0_ => List.mem_cons_of_mem _ (List.mem_append_right _ (List.mem_append_left _ h0_))) hown hK hI i_h0.1 k_289 rfl 17 (by decide) (hts (.fieldLink RX8 90 "DeadlineShare$Task" "period" "I") (List.mem_cons_of_mem _ (List.mem_append_left _ (List.mem_of_getElem? (i := 26) rfl)))) (fun _ h9 => h9) rfl dX8_tell_215 ?_
    exact W.iret (v := x_305) hx hb hr (fun t ht hW => ⟨⟨x_305, (), rfl, trivial, k_ret ht hI⟩, hS.F ht⟩) hS.2.2 dX8_tell_218
  have h_1 := kn_eq rfl (by decide : Int32.toInt 0 = 0) h_1
  have h_19 := kn_eq rfl (by decide : Int32.toInt 1 = 1) h_19
  have h_37 := kn_eq rfl (by decide : Int32.toInt 2 = 2) h_37
  have h_55 := kn_eq rfl (by decide : Int32.toInt 3 = 3) h_55
  have h_76 := kn_eq rfl (by decide : Int32.toInt 4 = 4) h_76
  have h_94 := kn_eq rfl (by decide : Int32.toInt 5 = 5) h_94
  have h_112 := kn_eq rfl (by decide : Int32.toInt 6 = 6) h_112
  have h_130 := kn_eq rfl (by decide : Int32.toInt 7 = 7) h_130
  have h_151 := kn_eq rfl (by decide : Int32.toInt 8 = 8) h_151
  have h_169 := kn_eq rfl (by decide : Int32.toInt 9 = 9) h_169
  have h_188 := kn_eq rfl (by decide : Int32.toInt 10 = 10) h_188
  have h_220 := kn_eq rfl (by decide : Int32.toInt 11 = 11) h_220
  have h_252 := kn_eq rfl (by decide : Int32.toInt 12 = 12) h_252
  have h_270 := kn_eq rfl (by decide : Int32.toInt 13 = 13) h_270
  have h_288 := kn_eq rfl (by decide : Int32.toInt 14 = 14) h_288
  refine lv_tableOut (tgt := 219) hx hb dX8_tell_1 (by omega) (by decide) ?_
  refine lv_iconst (v := (-1)) hx hb dX8_tell_219 (by decide) ?_
  exact W.iret (v := (-1)) hx hb hr (fun t ht hW => ⟨⟨(-1), (), rfl, trivial, k_ret ht hI⟩, hS.F ht⟩) hS.2.2 dX8_tell_220
theorem tw_430 : q_g (.constant RX9 16 (1000000)) := ⟨(List.mem_append_right _ (List.mem_of_getElem? (i := 365) (by decide +kernel))), good_of_word (by decide +kernel)⟩
theorem tw_431 : q_g (.code yX9_allows cX9_allows 3 (some .boolean)) := ⟨(List.mem_append_right _ (List.mem_of_getElem? (i := 364) (by decide +kernel))), good_of_word (by decide +kernel)⟩
def ow_c_X9_allows : List Cond := [.constant RX9 16 (1000000)]
def wq_c_X9_allows : List Cond := .code yX9_allows cX9_allows 3 (some .boolean) :: (ow_c_X9_allows ++ ([] : List Cond))
theorem tb_c_X9_allows : ∀ w ∈ wq_c_X9_allows, q_g w := by
  unfold wq_c_X9_allows ow_c_X9_allows
  exact q_cons tw_431 (q_app (q_cons tw_430 q_nil) q_nil)
set_option maxHeartbeats 4000000 in
set_option maxRecDepth 100000 in
theorem c_X9_allows (l : Launch) (dC : Nat → ClassId) (dI : Nat → Nat → Nat) (g : kG) (A : Nat → Prop) (hG : kWf g) (f : Nat → va_E) (h0 : Nat) (p1 : Int32) (p2 : Int32) (i_h0 : ik g 9 h0) : Met l yX9_allows wq_c_X9_allows ({ frames := 0, cells := 0, slots := 0, locals := 0 } : Room) (va_Pc [.ref h0, .int p1, .int p2] (fun U => kIn dC dI g A f U)) (va_Qi (fun (r : Int32) (_ : Unit) => True) (fun (_ : Unit) t => Iv dC dI g A f t.heap) A) 0 0 A := by
  refine Met.ofW (cc := cX9_allows) (maxL := 3) (ret := (some .boolean)) (by decide) rfl ?_
  intro p e s m args below meth c s₁ B hml hv
  obtain ⟨rfl, hI, hK, hE⟩ := hv
  have hx := B.exec
  have hb := B.bytes
  have hr := B.returns
  have hts := atoms_spec (ws := wq_c_X9_allows) B.pre
  have hown : s.vm.findClass RX9 = some m.cls := findClass_of_methodNamed B.named
  have hlocks := B.notSynchronized
  have hS : va_S A s.heap s.heap [] := va_S.rf
  have hl := lv_entry ([.ref h0, .int p1, .int p2]) (n := 3) (Nat.le_of_ble_eq_true rfl)
  rw [lg_entry_eq]
  generalize (lg_sl ([.ref h0, .int p1, .int p2]) ++ List.replicate (3 - (lg_sl ([.ref h0, .int p1, .int p2])).length) Slot.unset).toArray = ls at hl ⊢
  have hl : lv_has ls 3 [(0, .ref h0), (1, .int p1), (2, .int p2)] := hl
  refine lv_iload_n hx hb dX9_allows_0 rfl (lv_at hl 1 rfl) ?_
  by_cases h_1 : p1 = 0
  · refine k_topi (y := 0) h_1 ?_
    refine lv_tableIn (tgt := 28) hx hb dX9_allows_1 (by decide) (by decide) rfl (by decide) ?_
    have h_1 := kc_eq rfl (by decide : Int32.toInt 0 = 0) h_1
    refine lv_iload_n hx hb dX9_allows_28 rfl (lv_at hl 2 rfl) ?_
    refine lv_if_lt (tgt := 41) hx hb dX9_allows_29 (by decide) (fun c_2 => ?_) (fun c_2 => ?_)
    · have c_2 := kc_lt rfl (by decide : Int32.toInt 0 = 0) c_2
      refine lv_iconst (v := 0) hx hb dX9_allows_41 (by decide) ?_
      exact W.zret (v := 0) hx hb hr rfl (fun t ht hW => ⟨⟨0, (), rfl, trivial, k_ret ht hI⟩, hS.F ht⟩) hS.2.2 dX9_allows_42
    · have c_2 := kn_lt rfl (by decide : Int32.toInt 0 = 0) c_2
      refine lv_iload_n hx hb dX9_allows_32 rfl (lv_at hl 2 rfl) ?_
      refine lv_iconst (v := 1) hx hb dX9_allows_33 (by decide) ?_
      refine lv_icmp_gt (tgt := 41) hx hb dX9_allows_34 (by decide) (fun c_3 => ?_) (fun c_3 => ?_)
      · have c_3 := kc_lt (by decide : Int32.toInt 1 = 1) rfl c_3
        refine lv_iconst (v := 0) hx hb dX9_allows_41 (by decide) ?_
        exact W.zret (v := 0) hx hb hr rfl (fun t ht hW => ⟨⟨0, (), rfl, trivial, k_ret ht hI⟩, hS.F ht⟩) hS.2.2 dX9_allows_42
      · have c_3 := kn_lt (by decide : Int32.toInt 1 = 1) rfl c_3
        refine lv_iconst (v := 1) hx hb dX9_allows_37 (by decide) ?_
        refine lv_goto (tgt := 42) hx hb dX9_allows_38 (by decide) ?_
        exact W.zret (v := 1) hx hb hr rfl (fun t ht hW => ⟨⟨1, (), rfl, trivial, k_ret ht hI⟩, hS.F ht⟩) hS.2.2 dX9_allows_42
  by_cases h_4 : p1 = 1
  · refine k_topi (y := 1) h_4 ?_
    refine lv_tableIn (tgt := 43) hx hb dX9_allows_1 (by decide) (by decide) rfl (by decide) ?_
    have h_4 := kc_eq rfl (by decide : Int32.toInt 1 = 1) h_4
    refine lv_iload_n hx hb dX9_allows_43 rfl (lv_at hl 2 rfl) ?_
    refine lv_if_lt (tgt := 56) hx hb dX9_allows_44 (by decide) (fun c_5 => ?_) (fun c_5 => ?_)
    · have c_5 := kc_lt rfl (by decide : Int32.toInt 0 = 0) c_5
      refine lv_iconst (v := 0) hx hb dX9_allows_56 (by decide) ?_
      exact W.zret (v := 0) hx hb hr rfl (fun t ht hW => ⟨⟨0, (), rfl, trivial, k_ret ht hI⟩, hS.F ht⟩) hS.2.2 dX9_allows_57
    · have c_5 := kn_lt rfl (by decide : Int32.toInt 0 = 0) c_5
      refine lv_iload_n hx hb dX9_allows_47 rfl (lv_at hl 2 rfl) ?_
      refine lv_iconst (v := 3) hx hb dX9_allows_48 (by decide) ?_
      refine lv_icmp_gt (tgt := 56) hx hb dX9_allows_49 (by decide) (fun c_6 => ?_) (fun c_6 => ?_)
      · have c_6 := kc_lt (by decide : Int32.toInt 3 = 3) rfl c_6
        refine lv_iconst (v := 0) hx hb dX9_allows_56 (by decide) ?_
        exact W.zret (v := 0) hx hb hr rfl (fun t ht hW => ⟨⟨0, (), rfl, trivial, k_ret ht hI⟩, hS.F ht⟩) hS.2.2 dX9_allows_57
      · have c_6 := kn_lt (by decide : Int32.toInt 3 = 3) rfl c_6
        refine lv_iconst (v := 1) hx hb dX9_allows_52 (by decide) ?_
        refine lv_goto (tgt := 57) hx hb dX9_allows_53 (by decide) ?_
        exact W.zret (v := 1) hx hb hr rfl (fun t ht hW => ⟨⟨1, (), rfl, trivial, k_ret ht hI⟩, hS.F ht⟩) hS.2.2 dX9_allows_57
  by_cases h_7 : p1 = 2
  · refine k_topi (y := 2) h_7 ?_
    refine lv_tableIn (tgt := 58) hx hb dX9_allows_1 (by decide) (by decide) rfl (by decide) ?_
    have h_7 := kc_eq rfl (by decide : Int32.toInt 2 = 2) h_7
    refine lv_iload_n hx hb dX9_allows_58 rfl (lv_at hl 2 rfl) ?_
    refine lv_if_lt (tgt := 72) hx hb dX9_allows_59 (by decide) (fun c_8 => ?_) (fun c_8 => ?_)
    · have c_8 := kc_lt rfl (by decide : Int32.toInt 0 = 0) c_8
      refine lv_iconst (v := 0) hx hb dX9_allows_72 (by decide) ?_
      exact W.zret (v := 0) hx hb hr rfl (fun t ht hW => ⟨⟨0, (), rfl, trivial, k_ret ht hI⟩, hS.F ht⟩) hS.2.2 dX9_allows_73
    · have c_8 := kn_lt rfl (by decide : Int32.toInt 0 = 0) c_8
      refine lv_iload_n hx hb dX9_allows_62 rfl (lv_at hl 2 rfl) ?_
      refine lv_ldc hx hb hown (hts (.constant RX9 16 (1000000)) (List.mem_cons_of_mem _ (List.mem_append_left _ (List.mem_of_getElem? (i := 0) rfl)))) dX9_allows_63 ?_
      refine lv_icmp_gt (tgt := 72) hx hb dX9_allows_65 (by decide) (fun c_9 => ?_) (fun c_9 => ?_)
      · have c_9 := kc_lt (by decide : Int32.toInt 1000000 = 1000000) rfl c_9
        refine lv_iconst (v := 0) hx hb dX9_allows_72 (by decide) ?_
        exact W.zret (v := 0) hx hb hr rfl (fun t ht hW => ⟨⟨0, (), rfl, trivial, k_ret ht hI⟩, hS.F ht⟩) hS.2.2 dX9_allows_73
      · have c_9 := kn_lt (by decide : Int32.toInt 1000000 = 1000000) rfl c_9
        refine lv_iconst (v := 1) hx hb dX9_allows_68 (by decide) ?_
        refine lv_goto (tgt := 73) hx hb dX9_allows_69 (by decide) ?_
        exact W.zret (v := 1) hx hb hr rfl (fun t ht hW => ⟨⟨1, (), rfl, trivial, k_ret ht hI⟩, hS.F ht⟩) hS.2.2 dX9_allows_73
  have h_1 := kn_eq rfl (by decide : Int32.toInt 0 = 0) h_1
  have h_4 := kn_eq rfl (by decide : Int32.toInt 1 = 1) h_4
  have h_7 := kn_eq rfl (by decide : Int32.toInt 2 = 2) h_7
  refine lv_tableOut (tgt := 74) hx hb dX9_allows_1 (by omega) (by decide) ?_
  refine lv_iconst (v := 0) hx hb dX9_allows_74 (by decide) ?_
  exact W.zret (v := 0) hx hb hr rfl (fun t ht hW => ⟨⟨0, (), rfl, trivial, k_ret ht hI⟩, hS.F ht⟩) hS.2.2 dX9_allows_75
theorem tw_432 : q_g (.fieldLink RX9 13 "DeadlineShare$Terms" "seed" "I") := ⟨(List.mem_append_right _ (List.mem_of_getElem? (i := 40) (by decide +kernel))), good_of_word (by decide +kernel)⟩
theorem tw_433 : q_g (.fieldLink RX9 7 "DeadlineShare$Terms" "carry" "I") := ⟨(List.mem_append_right _ (List.mem_of_getElem? (i := 37) (by decide +kernel))), good_of_word (by decide +kernel)⟩
theorem tw_434 : q_g (.fieldLink RX9 17 "DeadlineShare$Terms" "mode" "I") := ⟨(List.mem_append_right _ (List.mem_of_getElem? (i := 34) (by decide +kernel))), good_of_word (by decide +kernel)⟩
theorem tw_435 : q_g (.code yX9_get cX9_get 2 (some .int)) := ⟨(List.mem_append_right _ (List.mem_of_getElem? (i := 376) (by decide +kernel))), good_of_word (by decide +kernel)⟩
def ow_c_X9_get : List Cond := [.fieldLink RX9 17 "DeadlineShare$Terms" "mode" "I", .fieldLink RX9 7 "DeadlineShare$Terms" "carry" "I", .fieldLink RX9 13 "DeadlineShare$Terms" "seed" "I"]
def wq_c_X9_get : List Cond := .code yX9_get cX9_get 2 (some .int) :: (ow_c_X9_get ++ (u_ws RX9 TX9 3 ++ ([] : List Cond)))
theorem tb_c_X9_get : ∀ w ∈ wq_c_X9_get, q_g w := by
  unfold wq_c_X9_get ow_c_X9_get
  exact q_cons tw_435 (q_app (q_cons tw_434 (q_cons tw_433 (q_cons tw_432 q_nil))) (q_app tu_X9 q_nil))
set_option maxHeartbeats 4000000 in
set_option maxRecDepth 100000 in
theorem c_X9_get (l : Launch) (dC : Nat → ClassId) (dI : Nat → Nat → Nat) (g : kG) (A : Nat → Prop) (hG : kWf g) (f : Nat → va_E) (h0 : Nat) (p1 : Int32) (i_h0 : ik g 9 h0) : Met l yX9_get wq_c_X9_get ({ frames := 0, cells := 0, slots := 0, locals := 0 } : Room) (va_Pc [.ref h0, .int p1] (fun U => kIn dC dI g A f U)) (va_Qi (fun (r : Int32) (_ : Unit) => True) (fun (_ : Unit) t => Iv dC dI g A f t.heap) A) 0 0 A := by
  refine Met.ofW (cc := cX9_get) (maxL := 2) (ret := (some .int)) (by decide) rfl ?_
  intro p e s m args below meth c s₁ B hml hv
  obtain ⟨rfl, hI, hK, hE⟩ := hv
  have hx := B.exec
  have hb := B.bytes
  have hr := B.returns
  have hts := atoms_spec (ws := wq_c_X9_get) B.pre
  have hown : s.vm.findClass RX9 = some m.cls := findClass_of_methodNamed B.named
  have hlocks := B.notSynchronized
  have hS : va_S A s.heap s.heap [] := va_S.rf
  have hl := lv_entry ([.ref h0, .int p1]) (n := 2) (Nat.le_of_ble_eq_true rfl)
  rw [lg_entry_eq]
  generalize (lg_sl ([.ref h0, .int p1]) ++ List.replicate (2 - (lg_sl ([.ref h0, .int p1])).length) Slot.unset).toArray = ls at hl ⊢
  have hl : lv_has ls 2 [(0, .ref h0), (1, .int p1)] := hl
  refine lv_iload_n hx hb dX9_get_0 rfl (lv_at hl 1 rfl) ?_
  by_cases h_1 : p1 = 0
  · refine k_topi (y := 0) h_1 ?_
    refine lv_lookup (tgt := 28) hx hb dX9_get_1 (by decide) rfl (by decide) ?_
    have h_1 := kc_eq rfl (by decide : Int32.toInt 0 = 0) h_1
    refine lv_aload_n hx hb dX9_get_28 rfl (lv_at hl 0 rfl) ?_
    obtain ⟨x_3, x_4, x_5, k_2⟩ := op_9 hI i_h0
    refine k_get (ci := 9) (v := .int x_3) (C := RX9) (T := TX9) (N := 3) hx hb hts (fun _ h0_ => List.mem_cons_of_mem _ (List.mem_append_right _ (List.mem_append_left _ h0_))) hown hK hI i_h0.1 k_2 rfl 0 (by decide) (hts (.fieldLink RX9 17 "DeadlineShare$Terms" "mode" "I") (List.mem_cons_of_mem _ (List.mem_append_left _ (List.mem_of_getElem? (i := 0) rfl)))) (fun _ h9 => h9) rfl dX9_get_29 ?_
    exact W.iret (v := x_3) hx hb hr (fun t ht hW => ⟨⟨x_3, (), rfl, trivial, k_ret ht hI⟩, hS.F ht⟩) hS.2.2 dX9_get_32
  by_cases h_6 : p1 = 1
  · refine k_topi (y := 1) h_6 ?_
    refine lv_lookup (tgt := 33) hx hb dX9_get_1 (by decide) rfl (by decide) ?_
    have h_6 := kc_eq rfl (by decide : Int32.toInt 1 = 1) h_6
    refine lv_aload_n hx hb dX9_get_33 rfl (lv_at hl 0 rfl) ?_
    obtain ⟨x_8, x_9, x_10, k_7⟩ := op_9 hI i_h0
    refine k_get (ci := 9) (v := .int x_9) (C := RX9) (T := TX9) (N := 3) hx hb hts (fun _ h0_ => List.mem_cons_of_mem _ (List.mem_append_right _ (List.mem_append_left _ h0_))) hown hK hI i_h0.1 k_7 rfl 1 (by decide) (hts (.fieldLink RX9 7 "DeadlineShare$Terms" "carry" "I") (List.mem_cons_of_mem _ (List.mem_append_left _ (List.mem_of_getElem? (i := 1) rfl)))) (fun _ h9 => h9) rfl dX9_get_34 ?_
    exact W.iret (v := x_9) hx hb hr (fun t ht hW => ⟨⟨x_9, (), rfl, trivial, k_ret ht hI⟩, hS.F ht⟩) hS.2.2 dX9_get_37
  refine lv_lookup (off := 37) (tgt := 38) hx hb dX9_get_1 (by decide) ((lv_osw h_1 (by decide)).trans ((lv_osw h_6 (by decide)).trans rfl)) (by decide) ?_
  have h_1 := kn_eq rfl (by decide : Int32.toInt 0 = 0) h_1
  have h_6 := kn_eq rfl (by decide : Int32.toInt 1 = 1) h_6
  refine lv_aload_n hx hb dX9_get_38 rfl (lv_at hl 0 rfl) ?_
  obtain ⟨x_12, x_13, x_14, k_11⟩ := op_9 hI i_h0
  refine k_get (ci := 9) (v := .int x_14) (C := RX9) (T := TX9) (N := 3) hx hb hts (fun _ h0_ => List.mem_cons_of_mem _ (List.mem_append_right _ (List.mem_append_left _ h0_))) hown hK hI i_h0.1 k_11 rfl 2 (by decide) (hts (.fieldLink RX9 13 "DeadlineShare$Terms" "seed" "I") (List.mem_cons_of_mem _ (List.mem_append_left _ (List.mem_of_getElem? (i := 2) rfl)))) (fun _ h9 => h9) rfl dX9_get_39 ?_
  exact W.iret (v := x_14) hx hb hr (fun t ht hW => ⟨⟨x_14, (), rfl, trivial, k_ret ht hI⟩, hS.F ht⟩) hS.2.2 dX9_get_42
theorem tw_436 : q_g (.code yX9_set cX9_set 3 none) := ⟨(List.mem_append_right _ (List.mem_of_getElem? (i := 380) (by decide +kernel))), good_of_word (by decide +kernel)⟩
def ow_c_X9_set : List Cond := [.fieldLink RX9 17 "DeadlineShare$Terms" "mode" "I", .fieldLink RX9 7 "DeadlineShare$Terms" "carry" "I", .fieldLink RX9 13 "DeadlineShare$Terms" "seed" "I"]
def wq_c_X9_set : List Cond := .code yX9_set cX9_set 3 none :: (ow_c_X9_set ++ (u_ws RX9 TX9 3 ++ ([] : List Cond)))
theorem tb_c_X9_set : ∀ w ∈ wq_c_X9_set, q_g w := by
  unfold wq_c_X9_set ow_c_X9_set
  exact q_cons tw_436 (q_app (q_cons tw_434 (q_cons tw_433 (q_cons tw_432 q_nil))) (q_app tu_X9 q_nil))
set_option maxHeartbeats 4000000 in
set_option maxRecDepth 100000 in
theorem c_X9_set (l : Launch) (dC : Nat → ClassId) (dI : Nat → Nat → Nat) (g : kG) (A : Nat → Prop) (hG : kWf g) (f : Nat → va_E) (h0 : Nat) (p1 : Int32) (p2 : Int32) (i_h0 : ik g 9 h0) : Met l yX9_set wq_c_X9_set ({ frames := 0, cells := 0, slots := 0, locals := 0 } : Room) (va_Pc [.ref h0, .int p1, .int p2] (fun U => kIn dC dI g A f U)) (va_Qv (fun (_ : Unit) => True) (fun (_ : Unit) t => ∃ f1 : Nat → va_E, Iv dC dI g A f1 t.heap ∧ Kp g [9] f f1) A) 0 0 A := by
  refine Met.ofW (cc := cX9_set) (maxL := 3) (ret := none) (by decide) rfl ?_
  intro p e s m args below meth c s₁ B hml hv
  obtain ⟨rfl, hI, hK, hE⟩ := hv
  have hx := B.exec
  have hb := B.bytes
  have hr := B.returns
  have hts := atoms_spec (ws := wq_c_X9_set) B.pre
  have hown : s.vm.findClass RX9 = some m.cls := findClass_of_methodNamed B.named
  have hlocks := B.notSynchronized
  have hS : va_S A s.heap s.heap [] := va_S.rf
  have hk0 : Kp g [9] f f := Kp.rf
  have hl := lv_entry ([.ref h0, .int p1, .int p2]) (n := 3) (Nat.le_of_ble_eq_true rfl)
  rw [lg_entry_eq]
  generalize (lg_sl ([.ref h0, .int p1, .int p2]) ++ List.replicate (3 - (lg_sl ([.ref h0, .int p1, .int p2])).length) Slot.unset).toArray = ls at hl ⊢
  have hl : lv_has ls 3 [(0, .ref h0), (1, .int p1), (2, .int p2)] := hl
  refine lv_iload_n hx hb dX9_set_0 rfl (lv_at hl 1 rfl) ?_
  by_cases h_1 : p1 = 0
  · refine k_topi (y := 0) h_1 ?_
    refine lv_lookup (tgt := 28) hx hb dX9_set_1 (by decide) rfl (by decide) ?_
    have h_1 := kc_eq rfl (by decide : Int32.toInt 0 = 0) h_1
    refine lv_aload_n hx hb dX9_set_28 rfl (lv_at hl 0 rfl) ?_
    refine lv_iload_n hx hb dX9_set_29 rfl (lv_at hl 2 rfl) ?_
    obtain ⟨x_3, x_4, x_5, k_2⟩ := op_9 hI i_h0
    refine k_put (ci := 9) (v := .int p2) (ty := .int) (C := RX9) (T := TX9) (N := 3) hx hb hts (fun _ h0_ => List.mem_cons_of_mem _ (List.mem_append_right _ (List.mem_append_left _ h0_))) tyX9 tyX9_ok nmX9 hown hK hI hS i_h0.1 k_2 rfl 0 (by decide) (hts (.fieldLink RX9 17 "DeadlineShare$Terms" "mode" "I") (List.mem_cons_of_mem _ (List.mem_append_left _ (List.mem_of_getElem? (i := 0) rfl)))) (fun _ h9 => h9) rfl (by decide +kernel) rfl rfl (Nat.le_of_ble_eq_true rfl) rfl (cl_9 i_h0) dX9_set_30 (fun f_6 H locs e_7 hI hS => ?_)
    have k_9 : f_6 h0 = .inr (9, [.int p2, .int x_4, .int x_5]) := by rw [e_7]; exact va_up_self _ _ _
    have kp_8 := Kp.put hk0 i_h0 (by decide) e_7
    refine lv_goto (tgt := 49) hx hb dX9_set_33 (by decide) ?_
    exact W.vret hx hb hr (fun t ht hW => ⟨⟨(), rfl, trivial, ⟨f_6, k_ret ht hI, kp_8⟩⟩, hS.F ht⟩) hS.2.2 dX9_set_49
  by_cases h_10 : p1 = 1
  · refine k_topi (y := 1) h_10 ?_
    refine lv_lookup (tgt := 36) hx hb dX9_set_1 (by decide) rfl (by decide) ?_
    have h_10 := kc_eq rfl (by decide : Int32.toInt 1 = 1) h_10
    refine lv_aload_n hx hb dX9_set_36 rfl (lv_at hl 0 rfl) ?_
    refine lv_iload_n hx hb dX9_set_37 rfl (lv_at hl 2 rfl) ?_
    obtain ⟨x_12, x_13, x_14, k_11⟩ := op_9 hI i_h0
    refine k_put (ci := 9) (v := .int p2) (ty := .int) (C := RX9) (T := TX9) (N := 3) hx hb hts (fun _ h0_ => List.mem_cons_of_mem _ (List.mem_append_right _ (List.mem_append_left _ h0_))) tyX9 tyX9_ok nmX9 hown hK hI hS i_h0.1 k_11 rfl 1 (by decide) (hts (.fieldLink RX9 7 "DeadlineShare$Terms" "carry" "I") (List.mem_cons_of_mem _ (List.mem_append_left _ (List.mem_of_getElem? (i := 1) rfl)))) (fun _ h9 => h9) rfl (by decide +kernel) rfl rfl (Nat.le_of_ble_eq_true rfl) rfl (cl_9 i_h0) dX9_set_38 (fun f_15 H locs e_16 hI hS => ?_)
    have k_18 : f_15 h0 = .inr (9, [.int x_12, .int p2, .int x_14]) := by rw [e_16]; exact va_up_self _ _ _
    have kp_17 := Kp.put hk0 i_h0 (by decide) e_16
    refine lv_goto (tgt := 49) hx hb dX9_set_41 (by decide) ?_
    exact W.vret hx hb hr (fun t ht hW => ⟨⟨(), rfl, trivial, ⟨f_15, k_ret ht hI, kp_17⟩⟩, hS.F ht⟩) hS.2.2 dX9_set_49
  refine lv_lookup (off := 43) (tgt := 44) hx hb dX9_set_1 (by decide) ((lv_osw h_1 (by decide)).trans ((lv_osw h_10 (by decide)).trans rfl)) (by decide) ?_
  have h_1 := kn_eq rfl (by decide : Int32.toInt 0 = 0) h_1
  have h_10 := kn_eq rfl (by decide : Int32.toInt 1 = 1) h_10
  refine lv_aload_n hx hb dX9_set_44 rfl (lv_at hl 0 rfl) ?_
  refine lv_iload_n hx hb dX9_set_45 rfl (lv_at hl 2 rfl) ?_
  obtain ⟨x_20, x_21, x_22, k_19⟩ := op_9 hI i_h0
  refine k_put (ci := 9) (v := .int p2) (ty := .int) (C := RX9) (T := TX9) (N := 3) hx hb hts (fun _ h0_ => List.mem_cons_of_mem _ (List.mem_append_right _ (List.mem_append_left _ h0_))) tyX9 tyX9_ok nmX9 hown hK hI hS i_h0.1 k_19 rfl 2 (by decide) (hts (.fieldLink RX9 13 "DeadlineShare$Terms" "seed" "I") (List.mem_cons_of_mem _ (List.mem_append_left _ (List.mem_of_getElem? (i := 2) rfl)))) (fun _ h9 => h9) rfl (by decide +kernel) rfl rfl (Nat.le_of_ble_eq_true rfl) rfl (cl_9 i_h0) dX9_set_46 (fun f_23 H locs e_24 hI hS => ?_)
  have k_26 : f_23 h0 = .inr (9, [.int x_20, .int x_21, .int p2]) := by rw [e_24]; exact va_up_self _ _ _
  have kp_25 := Kp.put hk0 i_h0 (by decide) e_24
  exact W.vret hx hb hr (fun t ht hW => ⟨⟨(), rfl, trivial, ⟨f_23, k_ret ht hI, kp_25⟩⟩, hS.F ht⟩) hS.2.2 dX9_set_49
theorem tu_X11 : ∀ w ∈ u_ws RX11 TX11 12, q_g w := by
  intro w h
  unfold u_ws at h
  obtain ⟨j, hj, rfl⟩ := List.mem_map.mp h
  have hj := List.mem_range.mp hj
  match j, hj with
  | 0, _ => exact ⟨(List.mem_append_right _ (List.mem_of_getElem? (i := 332) (by decide +kernel))), good_of_word (by decide +kernel)⟩
  | 1, _ => exact ⟨(List.mem_append_right _ (List.mem_of_getElem? (i := 334) (by decide +kernel))), good_of_word (by decide +kernel)⟩
  | 2, _ => exact ⟨(List.mem_append_right _ (List.mem_of_getElem? (i := 336) (by decide +kernel))), good_of_word (by decide +kernel)⟩
  | 3, _ => exact ⟨(List.mem_append_right _ (List.mem_of_getElem? (i := 338) (by decide +kernel))), good_of_word (by decide +kernel)⟩
  | 4, _ => exact ⟨(List.mem_append_right _ (List.mem_of_getElem? (i := 340) (by decide +kernel))), good_of_word (by decide +kernel)⟩
  | 5, _ => exact ⟨(List.mem_append_right _ (List.mem_of_getElem? (i := 342) (by decide +kernel))), good_of_word (by decide +kernel)⟩
  | 6, _ => exact ⟨(List.mem_append_right _ (List.mem_of_getElem? (i := 344) (by decide +kernel))), good_of_word (by decide +kernel)⟩
  | 7, _ => exact ⟨(List.mem_append_right _ (List.mem_of_getElem? (i := 346) (by decide +kernel))), good_of_word (by decide +kernel)⟩
  | 8, _ => exact ⟨(List.mem_append_right _ (List.mem_of_getElem? (i := 348) (by decide +kernel))), good_of_word (by decide +kernel)⟩
  | 9, _ => exact ⟨(List.mem_append_right _ (List.mem_of_getElem? (i := 350) (by decide +kernel))), good_of_word (by decide +kernel)⟩
  | 10, _ => exact ⟨(List.mem_append_right _ (List.mem_of_getElem? (i := 352) (by decide +kernel))), good_of_word (by decide +kernel)⟩
  | 11, _ => exact ⟨(List.mem_append_right _ (List.mem_of_getElem? (i := 354) (by decide +kernel))), good_of_word (by decide +kernel)⟩
  | (j9 + 12), h9 => exact absurd h9 (by omega)
theorem tw_437 : q_g (.selects RX4 yX4_add yX4_add) := ⟨(List.mem_append_right _ (List.mem_of_getElem? (i := 368) (by decide +kernel))), good_of_word (by decide +kernel)⟩
theorem tw_438 : q_g (.instanceMethod yX4_add) := ⟨(List.mem_append_right _ (List.mem_of_getElem? (i := 367) (by decide +kernel))), good_of_word (by decide +kernel)⟩
theorem tw_439 : q_g (.methodLink RX11 84 yX4_add) := ⟨(List.mem_append_right _ (List.mem_of_getElem? (i := 366) (by decide +kernel))), good_of_word (by decide +kernel)⟩
theorem tw_440 : q_g (.selects RX4 yX4_none yX4_none) := ⟨(List.mem_append_right _ (List.mem_of_getElem? (i := 383) (by decide +kernel))), good_of_word (by decide +kernel)⟩
theorem tw_441 : q_g (.instanceMethod yX4_none) := ⟨(List.mem_append_right _ (List.mem_of_getElem? (i := 382) (by decide +kernel))), good_of_word (by decide +kernel)⟩
theorem tw_442 : q_g (.methodLink RX11 95 yX4_none) := ⟨(List.mem_append_right _ (List.mem_of_getElem? (i := 381) (by decide +kernel))), good_of_word (by decide +kernel)⟩
theorem tw_443 : q_g (.fieldLink RX11 72 "DeadlineShare" "refusals" "LDeadlineShare$Refusals;") := ⟨(List.mem_append_right _ (List.mem_of_getElem? (i := 330) (by decide +kernel))), good_of_word (by decide +kernel)⟩
theorem tw_444 : q_g (.selects RX9 yX9_set yX9_set) := ⟨(List.mem_append_right _ (List.mem_of_getElem? (i := 379) (by decide +kernel))), good_of_word (by decide +kernel)⟩
theorem tw_445 : q_g (.instanceMethod yX9_set) := ⟨(List.mem_append_right _ (List.mem_of_getElem? (i := 378) (by decide +kernel))), good_of_word (by decide +kernel)⟩
theorem tw_446 : q_g (.methodLink RX11 91 yX9_set) := ⟨(List.mem_append_right _ (List.mem_of_getElem? (i := 377) (by decide +kernel))), good_of_word (by decide +kernel)⟩
theorem tw_447 : q_g (.selects RX9 yX9_get yX9_get) := ⟨(List.mem_append_right _ (List.mem_of_getElem? (i := 375) (by decide +kernel))), good_of_word (by decide +kernel)⟩
theorem tw_448 : q_g (.instanceMethod yX9_get) := ⟨(List.mem_append_right _ (List.mem_of_getElem? (i := 374) (by decide +kernel))), good_of_word (by decide +kernel)⟩
theorem tw_449 : q_g (.methodLink RX11 88 yX9_get) := ⟨(List.mem_append_right _ (List.mem_of_getElem? (i := 373) (by decide +kernel))), good_of_word (by decide +kernel)⟩
theorem tw_450 : q_g (.initialized RX9) := ⟨(List.mem_append_right _ (List.mem_of_getElem? (i := 2) (by decide +kernel))), good_of_word (by decide +kernel)⟩
theorem tw_451 : q_g (.selects RX9 yX9_allows yX9_allows) := ⟨(List.mem_append_right _ (List.mem_of_getElem? (i := 363) (by decide +kernel))), good_of_word (by decide +kernel)⟩
theorem tw_452 : q_g (.instanceMethod yX9_allows) := ⟨(List.mem_append_right _ (List.mem_of_getElem? (i := 362) (by decide +kernel))), good_of_word (by decide +kernel)⟩
theorem tw_453 : q_g (.methodLink RX11 80 yX9_allows) := ⟨(List.mem_append_right _ (List.mem_of_getElem? (i := 361) (by decide +kernel))), good_of_word (by decide +kernel)⟩
theorem tw_454 : q_g (.fieldLink RX11 12 "DeadlineShare" "terms" "LDeadlineShare$Terms;") := ⟨(List.mem_append_right _ (List.mem_of_getElem? (i := 320) (by decide +kernel))), good_of_word (by decide +kernel)⟩
theorem tw_455 : q_g (.code yX11_terms cX11_terms 4 (some .int)) := ⟨(List.mem_append_right _ (List.mem_of_getElem? (i := 360) (by decide +kernel))), good_of_word (by decide +kernel)⟩
def ow_c_X11_terms : List Cond := [.fieldLink RX11 12 "DeadlineShare" "terms" "LDeadlineShare$Terms;", .methodLink RX11 80 yX9_allows, .instanceMethod yX9_allows, .selects RX9 yX9_allows yX9_allows, .initialized RX9, .methodLink RX11 88 yX9_get, .instanceMethod yX9_get, .selects RX9 yX9_get yX9_get, .methodLink RX11 91 yX9_set, .instanceMethod yX9_set, .selects RX9 yX9_set yX9_set, .fieldLink RX11 72 "DeadlineShare" "refusals" "LDeadlineShare$Refusals;", .methodLink RX11 95 yX4_none, .instanceMethod yX4_none, .selects RX4 yX4_none yX4_none, .initialized RX4, .methodLink RX11 84 yX4_add, .instanceMethod yX4_add, .selects RX4 yX4_add yX4_add]
def wq_c_X11_terms : List Cond := .code yX11_terms cX11_terms 4 (some .int) :: (ow_c_X11_terms ++ (u_ws RX11 TX11 12 ++ (wq_c_X9_allows ++ (wq_c_X9_get ++ (wq_c_X9_set ++ (wq_c_X4_none ++ (wq_c_X4_add ++ ([] : List Cond))))))))
theorem tb_c_X11_terms : ∀ w ∈ wq_c_X11_terms, q_g w := by
  unfold wq_c_X11_terms ow_c_X11_terms
  exact q_cons tw_455 (q_app (q_cons tw_454 (q_cons tw_453 (q_cons tw_452 (q_cons tw_451 (q_cons tw_450 (q_cons tw_449 (q_cons tw_448 (q_cons tw_447 (q_cons tw_446 (q_cons tw_445 (q_cons tw_444 (q_cons tw_443 (q_cons tw_442 (q_cons tw_441 (q_cons tw_440 (q_cons tw_204 (q_cons tw_439 (q_cons tw_438 (q_cons tw_437 q_nil))))))))))))))))))) (q_app tu_X11 (q_app tb_c_X9_allows (q_app tb_c_X9_get (q_app tb_c_X9_set (q_app tb_c_X4_none (q_app tb_c_X4_add q_nil)))))))
set_option maxHeartbeats 4000000 in
set_option maxRecDepth 100000 in
theorem c_X11_terms (l : Launch) (dC : Nat → ClassId) (dI : Nat → Nat → Nat) (g : kG) (A : Nat → Prop) (hG : kWf g) (f : Nat → va_E) (h0 : Nat) (p1 : Int32) (p2 : Int32) (i_h0 : ik g 11 h0) : Met l yX11_terms wq_c_X11_terms ({ frames := 2, cells := 0, slots := 0, locals := 41 } : Room) (va_Pc [.ref h0, .int p1, .int p2] (fun U => kIn dC dI g A f U)) (va_Qi (fun (r : Int32) (_ : Unit) => True) (fun (_ : Unit) t => ∃ f1 : Nat → va_E, Iv dC dI g A f1 t.heap ∧ Kp g [4, 9, 28] f f1) A) 0 0 A := by
  refine Met.ofW (cc := cX11_terms) (maxL := 4) (ret := (some .int)) (by decide) rfl ?_
  intro p e s m args below meth c s₁ B hml hv
  obtain ⟨rfl, hI, hK, hE⟩ := hv
  have hx := B.exec
  have hb := B.bytes
  have hr := B.returns
  have hts := atoms_spec (ws := wq_c_X11_terms) B.pre
  have hown : s.vm.findClass RX11 = some m.cls := findClass_of_methodNamed B.named
  have hlocks := B.notSynchronized
  have hS : va_S A s.heap s.heap [] := va_S.rf
  have hk0 : Kp g [4, 9, 28] f f := Kp.rf
  have hl := lv_entry ([.ref h0, .int p1, .int p2]) (n := 4) (Nat.le_of_ble_eq_true rfl)
  rw [lg_entry_eq]
  generalize (lg_sl ([.ref h0, .int p1, .int p2]) ++ List.replicate (4 - (lg_sl ([.ref h0, .int p1, .int p2])).length) Slot.unset).toArray = ls at hl ⊢
  have hl : lv_has ls 4 [(0, .ref h0), (1, .int p1), (2, .int p2)] := hl
  refine lv_aload_n hx hb dX11_terms_0 rfl (lv_at hl 0 rfl) ?_
  obtain ⟨x_2, k_1⟩ := op_11 hI i_h0
  refine k_get (ci := 11) (v := .ref (gr g h0 0)) (C := RX11) (T := TX11) (N := 12) hx hb hts (fun _ h0_ => List.mem_cons_of_mem _ (List.mem_append_right _ (List.mem_append_left _ h0_))) hown hK hI i_h0.1 k_1 rfl 0 (by decide) (hts (.fieldLink RX11 12 "DeadlineShare" "terms" "LDeadlineShare$Terms;") (List.mem_cons_of_mem _ (List.mem_append_left _ (List.mem_of_getElem? (i := 0) rfl)))) (fun _ h9 => h9) rfl dX11_terms_1 ?_
  have i_4 := kw_11_0 hG i_h0
  refine lv_iload_n hx hb dX11_terms_4 rfl (lv_at hl 1 rfl) ?_
  refine lv_iload_n hx hb dX11_terms_5 rfl (lv_at hl 2 rfl) ?_
  obtain ⟨x_6, x_7, x_8, k_5⟩ := op_9 hI i_4
  refine va_calli (va_runV (As := [.int p1, .int p2]) (rest := []) ⟨hx, hb, hml, hown, hts⟩ (c_X9_allows l dC dI g A hG f (gr g h0 0) p1 p2 i_4) (cwV 2 hts (gi_V (fun w_ h0_ => ⟨List.mem_cons_of_mem _ (List.mem_append_right _ (List.mem_append_right _ (List.mem_append_left _ h0_))), (tb_c_X9_allows w_ h0_).2⟩) (List.mem_cons_of_mem _ (List.mem_append_left _ (List.mem_of_getElem? (i := 1) rfl))) (List.mem_cons_of_mem _ (List.mem_append_left _ (List.mem_of_getElem? (i := 2) rfl))) (List.mem_cons_of_mem _ (List.mem_append_left _ (List.mem_of_getElem? (i := 3) rfl))) (List.mem_cons_of_mem _ (List.mem_append_left _ (List.mem_of_getElem? (i := 4) rfl)))) rfl rfl rfl (by decide +kernel) ⟨Nat.le_of_ble_eq_true rfl, Nat.le_of_ble_eq_true rfl⟩) ⟨fun a U g mk q => ⟨q.1, q.2.calling rfl rfl⟩, k_recv hK hI i_4.1 k_5 (ci := 9) rfl, fun U hU hW => ⟨rfl, kIn.of hI hK hE hS hU hW⟩⟩ rfl rfl hl.1 rfl (lv_room (Nat.le_of_ble_eq_true rfl)) dX11_terms_6 ⟨Nat.le_of_ble_eq_true rfl, Nat.le_of_ble_eq_true rfl⟩) hS (fun q _ h => h) (fun q h => h) (fun r_10 u t H1 locs ht hvm w_9 hB hz1 hk1 hS => ?_)
  have hI : Iv dC dI g A f t.heap := hB
  rw [ht] at hI
  generalize H1 = H at hI hS ⊢
  refine W.widen (k := 0) (n := 0) (Nat.le_of_ble_eq_true rfl) (Nat.le_of_ble_eq_true rfl) ?_
  refine lv_if_ne (tgt := 21) hx hb dX11_terms_9 (by decide) (fun c_11 => ?_) (fun c_11 => ?_)
  · have c_11 := kn_eq rfl (by decide : Int32.toInt 0 = 0) c_11
    refine lv_aload_n hx hb dX11_terms_21 rfl (lv_at hl 0 rfl) ?_
    refine k_get (ci := 11) (v := .ref (gr g h0 0)) (C := RX11) (T := TX11) (N := 12) hx hb hts (fun _ h0_ => List.mem_cons_of_mem _ (List.mem_append_right _ (List.mem_append_left _ h0_))) hown hK hI i_h0.1 k_1 rfl 0 (by decide) (hts (.fieldLink RX11 12 "DeadlineShare" "terms" "LDeadlineShare$Terms;") (List.mem_cons_of_mem _ (List.mem_append_left _ (List.mem_of_getElem? (i := 0) rfl)))) (fun _ h9 => h9) rfl dX11_terms_22 ?_
    refine lv_iload_n hx hb dX11_terms_25 rfl (lv_at hl 1 rfl) ?_
    refine va_calli (va_runV (As := [.int p1]) (rest := []) ⟨hx, hb, hml, hown, hts⟩ (c_X9_get l dC dI g A hG f (gr g h0 0) p1 i_4) (cwV 1 hts (gi_V (fun w_ h0_ => ⟨List.mem_cons_of_mem _ (List.mem_append_right _ (List.mem_append_right _ (List.mem_append_right _ (List.mem_append_left _ h0_)))), (tb_c_X9_get w_ h0_).2⟩) (List.mem_cons_of_mem _ (List.mem_append_left _ (List.mem_of_getElem? (i := 5) rfl))) (List.mem_cons_of_mem _ (List.mem_append_left _ (List.mem_of_getElem? (i := 6) rfl))) (List.mem_cons_of_mem _ (List.mem_append_left _ (List.mem_of_getElem? (i := 7) rfl))) (List.mem_cons_of_mem _ (List.mem_append_left _ (List.mem_of_getElem? (i := 4) rfl)))) rfl rfl rfl (by decide +kernel) ⟨Nat.le_of_ble_eq_true rfl, Nat.le_of_ble_eq_true rfl⟩) ⟨fun a U g mk q => ⟨q.1, q.2.calling rfl rfl⟩, k_recv hK hI i_4.1 k_5 (ci := 9) rfl, fun U hU hW => ⟨rfl, kIn.of hI hK hE hS hU hW⟩⟩ rfl rfl hl.1 rfl (lv_room (Nat.le_of_ble_eq_true rfl)) dX11_terms_26 ⟨Nat.le_of_ble_eq_true rfl, Nat.le_of_ble_eq_true rfl⟩) hS (fun q _ h => h) (fun q h => h) (fun r_15 u t H1 locs ht hvm w_14 hB hz1 hk1 hS => ?_)
    have hI : Iv dC dI g A f t.heap := hB
    rw [ht] at hI
    generalize H1 = H at hI hS ⊢
    refine W.widen (k := 0) (n := 0) (Nat.le_of_ble_eq_true rfl) (Nat.le_of_ble_eq_true rfl) ?_
    refine lv_istore_n (lv' := [(3, .int r_15), (0, .ref h0), (1, .int p1), (2, .int p2)]) hx hb dX11_terms_29 rfl hl (by decide) rfl (fun ls hl => ?_)
    refine lv_aload_n hx hb dX11_terms_30 rfl (lv_at hl 1 rfl) ?_
    refine k_get (ci := 11) (v := .ref (gr g h0 0)) (C := RX11) (T := TX11) (N := 12) hx hb hts (fun _ h0_ => List.mem_cons_of_mem _ (List.mem_append_right _ (List.mem_append_left _ h0_))) hown hK hI i_h0.1 k_1 rfl 0 (by decide) (hts (.fieldLink RX11 12 "DeadlineShare" "terms" "LDeadlineShare$Terms;") (List.mem_cons_of_mem _ (List.mem_append_left _ (List.mem_of_getElem? (i := 0) rfl)))) (fun _ h9 => h9) rfl dX11_terms_31 ?_
    refine lv_iload_n hx hb dX11_terms_34 rfl (lv_at hl 2 rfl) ?_
    refine lv_iload_n hx hb dX11_terms_35 rfl (lv_at hl 3 rfl) ?_
    refine va_callv (va_runV (As := [.int p1, .int p2]) (rest := []) ⟨hx, hb, hml, hown, hts⟩ (c_X9_set l dC dI g A hG f (gr g h0 0) p1 p2 i_4) (cwV 2 hts (gi_V (fun w_ h0_ => ⟨List.mem_cons_of_mem _ (List.mem_append_right _ (List.mem_append_right _ (List.mem_append_right _ (List.mem_append_right _ (List.mem_append_left _ h0_))))), (tb_c_X9_set w_ h0_).2⟩) (List.mem_cons_of_mem _ (List.mem_append_left _ (List.mem_of_getElem? (i := 8) rfl))) (List.mem_cons_of_mem _ (List.mem_append_left _ (List.mem_of_getElem? (i := 9) rfl))) (List.mem_cons_of_mem _ (List.mem_append_left _ (List.mem_of_getElem? (i := 10) rfl))) (List.mem_cons_of_mem _ (List.mem_append_left _ (List.mem_of_getElem? (i := 4) rfl)))) rfl rfl rfl (by decide +kernel) ⟨Nat.le_of_ble_eq_true rfl, Nat.le_of_ble_eq_true rfl⟩) ⟨fun a U g mk q => ⟨q.1, q.2.calling rfl rfl⟩, k_recv hK hI i_4.1 k_5 (ci := 9) rfl, fun U hU hW => ⟨rfl, kIn.of hI hK hE hS hU hW⟩⟩ rfl rfl hl.1 rfl (lv_room (Nat.le_of_ble_eq_true rfl)) dX11_terms_36 ⟨Nat.le_of_ble_eq_true rfl, Nat.le_of_ble_eq_true rfl⟩) hS (fun q _ h => h) (fun q h => h) (fun u t H1 locs ht hvm _ hB hz1 hk1 hS => ?_)
    obtain ⟨f_18, hI, kc_20⟩ := hB
    rw [ht] at hI
    have k_22 : f_18 h0 = .inr (11, [.ref (gr g h0 0), .ref (gr g h0 1), .ref (gr g h0 2), .ref (gr g h0 3), .ref (gr g h0 4), .ref (gr g h0 5), .ref (gr g h0 6), .ref (gr g h0 7), .ref (gr g h0 8), .ref (gr g h0 9), .ref (gr g h0 10), .int x_2]) := Kp.at kc_20 i_h0 (by decide) k_1
    have kp_23 := Kp.call hk0 kc_20 (by decide)
    generalize H1 = H at hI hS ⊢
    refine W.widen (k := 0) (n := 0) (Nat.le_of_ble_eq_true rfl) (Nat.le_of_ble_eq_true rfl) ?_
    refine lv_aload_n hx hb dX11_terms_39 rfl (lv_at hl 1 rfl) ?_
    refine k_get (ci := 11) (v := .ref (gr g h0 10)) (C := RX11) (T := TX11) (N := 12) hx hb hts (fun _ h0_ => List.mem_cons_of_mem _ (List.mem_append_right _ (List.mem_append_left _ h0_))) hown hK hI i_h0.1 k_22 rfl 10 (by decide) (hts (.fieldLink RX11 72 "DeadlineShare" "refusals" "LDeadlineShare$Refusals;") (List.mem_cons_of_mem _ (List.mem_append_left _ (List.mem_of_getElem? (i := 11) rfl)))) (fun _ h9 => h9) rfl dX11_terms_40 ?_
    have i_25 := kw_11_10 hG i_h0
    refine lv_iload_n hx hb dX11_terms_43 rfl (lv_at hl 0 rfl) ?_
    obtain ⟨x_27, k_26⟩ := op_4 hI i_25
    refine va_calli (va_runV (As := [.int r_15]) (rest := []) ⟨hx, hb, hml, hown, hts⟩ (c_X4_none l dC dI g A hG f_18 (gr g h0 10) r_15 i_25) (cwV 1 hts (gi_V (fun w_ h0_ => ⟨List.mem_cons_of_mem _ (List.mem_append_right _ (List.mem_append_right _ (List.mem_append_right _ (List.mem_append_right _ (List.mem_append_right _ (List.mem_append_left _ h0_)))))), (tb_c_X4_none w_ h0_).2⟩) (List.mem_cons_of_mem _ (List.mem_append_left _ (List.mem_of_getElem? (i := 12) rfl))) (List.mem_cons_of_mem _ (List.mem_append_left _ (List.mem_of_getElem? (i := 13) rfl))) (List.mem_cons_of_mem _ (List.mem_append_left _ (List.mem_of_getElem? (i := 14) rfl))) (List.mem_cons_of_mem _ (List.mem_append_left _ (List.mem_of_getElem? (i := 15) rfl)))) rfl rfl rfl (by decide +kernel) ⟨Nat.le_of_ble_eq_true rfl, Nat.le_of_ble_eq_true rfl⟩) ⟨fun a U g mk q => ⟨q.1, q.2.calling rfl rfl⟩, k_recv hK hI i_25.1 k_26 (ci := 4) rfl, fun U hU hW => ⟨rfl, kIn.of hI hK hE hS hU hW⟩⟩ rfl rfl hl.1 rfl (lv_room (Nat.le_of_ble_eq_true rfl)) dX11_terms_44 ⟨Nat.le_of_ble_eq_true rfl, Nat.le_of_ble_eq_true rfl⟩) hS (fun q _ h => h) (fun q h => h) (fun r_30 u t H1 locs ht hvm w_29 hB hz1 hk1 hS => ?_)
    obtain ⟨f_28, hI, kc_31⟩ := hB
    rw [ht] at hI
    have k_33 : f_28 h0 = .inr (11, [.ref (gr g h0 0), .ref (gr g h0 1), .ref (gr g h0 2), .ref (gr g h0 3), .ref (gr g h0 4), .ref (gr g h0 5), .ref (gr g h0 6), .ref (gr g h0 7), .ref (gr g h0 8), .ref (gr g h0 9), .ref (gr g h0 10), .int x_2]) := Kp.at kc_31 i_h0 (by decide) k_22
    have kp_34 := Kp.call kp_23 kc_31 (by decide)
    generalize H1 = H at hI hS ⊢
    refine W.widen (k := 0) (n := 0) (Nat.le_of_ble_eq_true rfl) (Nat.le_of_ble_eq_true rfl) ?_
    exact W.iret (v := r_30) hx hb hr (fun t ht hW => ⟨⟨r_30, (), rfl, trivial, ⟨f_28, k_ret ht hI, kp_34⟩⟩, hS.F ht⟩) hS.2.2 dX11_terms_47
  · have c_11 := kc_eq rfl (by decide : Int32.toInt 0 = 0) c_11
    refine lv_aload_n hx hb dX11_terms_12 rfl (lv_at hl 0 rfl) ?_
    refine k_get (ci := 11) (v := .ref (gr g h0 10)) (C := RX11) (T := TX11) (N := 12) hx hb hts (fun _ h0_ => List.mem_cons_of_mem _ (List.mem_append_right _ (List.mem_append_left _ h0_))) hown hK hI i_h0.1 k_1 rfl 10 (by decide) (hts (.fieldLink RX11 72 "DeadlineShare" "refusals" "LDeadlineShare$Refusals;") (List.mem_cons_of_mem _ (List.mem_append_left _ (List.mem_of_getElem? (i := 11) rfl)))) (fun _ h9 => h9) rfl dX11_terms_13 ?_
    have i_36 := kw_11_10 hG i_h0
    refine lv_iconst (v := (-1)) hx hb dX11_terms_16 (by decide) ?_
    obtain ⟨x_38, k_37⟩ := op_4 hI i_36
    refine va_calli (va_runV (As := [.int (-1)]) (rest := []) ⟨hx, hb, hml, hown, hts⟩ (c_X4_add l dC dI g A hG f (gr g h0 10) (-1) i_36) (cwV 1 hts (gi_V (fun w_ h0_ => ⟨List.mem_cons_of_mem _ (List.mem_append_right _ (List.mem_append_right _ (List.mem_append_right _ (List.mem_append_right _ (List.mem_append_right _ (List.mem_append_right _ (List.mem_append_left _ h0_))))))), (tb_c_X4_add w_ h0_).2⟩) (List.mem_cons_of_mem _ (List.mem_append_left _ (List.mem_of_getElem? (i := 16) rfl))) (List.mem_cons_of_mem _ (List.mem_append_left _ (List.mem_of_getElem? (i := 17) rfl))) (List.mem_cons_of_mem _ (List.mem_append_left _ (List.mem_of_getElem? (i := 18) rfl))) (List.mem_cons_of_mem _ (List.mem_append_left _ (List.mem_of_getElem? (i := 15) rfl)))) rfl rfl rfl (by decide +kernel) ⟨Nat.le_of_ble_eq_true rfl, Nat.le_of_ble_eq_true rfl⟩) ⟨fun a U g mk q => ⟨q.1, q.2.calling rfl rfl⟩, k_recv hK hI i_36.1 k_37 (ci := 4) rfl, fun U hU hW => ⟨rfl, kIn.of hI hK hE hS hU hW⟩⟩ rfl rfl hl.1 rfl (lv_room (Nat.le_of_ble_eq_true rfl)) dX11_terms_17 ⟨Nat.le_of_ble_eq_true rfl, Nat.le_of_ble_eq_true rfl⟩) hS (fun q _ h => h) (fun q h => h) (fun r_41 u t H1 locs ht hvm w_40 hB hz1 hk1 hS => ?_)
    obtain ⟨f_39, hI, kc_42⟩ := hB
    rw [ht] at hI
    have k_44 : f_39 h0 = .inr (11, [.ref (gr g h0 0), .ref (gr g h0 1), .ref (gr g h0 2), .ref (gr g h0 3), .ref (gr g h0 4), .ref (gr g h0 5), .ref (gr g h0 6), .ref (gr g h0 7), .ref (gr g h0 8), .ref (gr g h0 9), .ref (gr g h0 10), .int x_2]) := Kp.at kc_42 i_h0 (by decide) k_1
    have k_45 : f_39 (gr g h0 0) = .inr (9, [.int x_6, .int x_7, .int x_8]) := Kp.at kc_42 i_4 (by decide) k_5
    have kp_46 := Kp.call hk0 kc_42 (by decide)
    generalize H1 = H at hI hS ⊢
    refine W.widen (k := 0) (n := 0) (Nat.le_of_ble_eq_true rfl) (Nat.le_of_ble_eq_true rfl) ?_
    exact W.iret (v := r_41) hx hb hr (fun t ht hW => ⟨⟨r_41, (), rfl, trivial, ⟨f_39, k_ret ht hI, kp_46⟩⟩, hS.F ht⟩) hS.2.2 dX11_terms_20
theorem tw_456 : q_g (.fieldLink RX11 106 "DeadlineShare$Tape" "length" "I") := ⟨(List.mem_append_right _ (List.mem_of_getElem? (i := 59) (by decide +kernel))), good_of_word (by decide +kernel)⟩
theorem tw_457 : q_g (.selects RX7 yX7_addFour yX7_addFour) := ⟨(List.mem_append_right _ (List.mem_of_getElem? (i := 395) (by decide +kernel))), good_of_word (by decide +kernel)⟩
theorem tw_458 : q_g (.instanceMethod yX7_addFour) := ⟨(List.mem_append_right _ (List.mem_of_getElem? (i := 394) (by decide +kernel))), good_of_word (by decide +kernel)⟩
theorem tw_459 : q_g (.methodLink RX11 102 yX7_addFour) := ⟨(List.mem_append_right _ (List.mem_of_getElem? (i := 393) (by decide +kernel))), good_of_word (by decide +kernel)⟩
theorem tw_460 : q_g (.selects RX7 yX7_hasRoomForFive yX7_hasRoomForFive) := ⟨(List.mem_append_right _ (List.mem_of_getElem? (i := 391) (by decide +kernel))), good_of_word (by decide +kernel)⟩
theorem tw_461 : q_g (.instanceMethod yX7_hasRoomForFive) := ⟨(List.mem_append_right _ (List.mem_of_getElem? (i := 390) (by decide +kernel))), good_of_word (by decide +kernel)⟩
theorem tw_462 : q_g (.methodLink RX11 98 yX7_hasRoomForFive) := ⟨(List.mem_append_right _ (List.mem_of_getElem? (i := 389) (by decide +kernel))), good_of_word (by decide +kernel)⟩
theorem tw_463 : q_g (.fieldLink RX11 21 "DeadlineShare" "tape" "LDeadlineShare$Tape;") := ⟨(List.mem_append_right _ (List.mem_of_getElem? (i := 321) (by decide +kernel))), good_of_word (by decide +kernel)⟩
theorem tw_464 : q_g (.code yX11_feed cX11_feed 6 (some .int)) := ⟨(List.mem_append_right _ (List.mem_of_getElem? (i := 388) (by decide +kernel))), good_of_word (by decide +kernel)⟩
def ow_c_X11_feed : List Cond := [.fieldLink RX11 21 "DeadlineShare" "tape" "LDeadlineShare$Tape;", .methodLink RX11 98 yX7_hasRoomForFive, .instanceMethod yX7_hasRoomForFive, .selects RX7 yX7_hasRoomForFive yX7_hasRoomForFive, .initialized RX7, .methodLink RX11 102 yX7_addFour, .instanceMethod yX7_addFour, .selects RX7 yX7_addFour yX7_addFour, .fieldLink RX11 106 "DeadlineShare$Tape" "length" "I"]
def wq_c_X11_feed : List Cond := .code yX11_feed cX11_feed 6 (some .int) :: (ow_c_X11_feed ++ (u_ws RX11 TX11 12 ++ (wq_c_X7_hasRoomForFive ++ (wq_c_X7_addFour ++ (u_ws RX7 TX7 2 ++ ([] : List Cond))))))
theorem tb_c_X11_feed : ∀ w ∈ wq_c_X11_feed, q_g w := by
  unfold wq_c_X11_feed ow_c_X11_feed
  exact q_cons tw_464 (q_app (q_cons tw_463 (q_cons tw_462 (q_cons tw_461 (q_cons tw_460 (q_cons tw_192 (q_cons tw_459 (q_cons tw_458 (q_cons tw_457 (q_cons tw_456 q_nil))))))))) (q_app tu_X11 (q_app tb_c_X7_hasRoomForFive (q_app tb_c_X7_addFour (q_app tu_X7 q_nil)))))
set_option maxHeartbeats 4000000 in
set_option maxRecDepth 100000 in
theorem c_X11_feed (l : Launch) (dC : Nat → ClassId) (dI : Nat → Nat → Nat) (g : kG) (A : Nat → Prop) (hG : kWf g) (f : Nat → va_E) (h0 : Nat) (p1 : Int32) (p2 : Int32) (p3 : Int32) (p4 : Int32) (p5 : Int32) (i_h0 : ik g 11 h0) : Met l yX11_feed wq_c_X11_feed ({ frames := 2, cells := 0, slots := 0, locals := 42 } : Room) (va_Pc [.ref h0, .int p1, .int p2, .int p3, .int p4, .int p5] (fun U => kIn dC dI g A f U)) (va_Qi (fun (r : Int32) (_ : Unit) => True) (fun (_ : Unit) t => ∃ f1 : Nat → va_E, Iv dC dI g A f1 t.heap ∧ Kp g [7, 25] f f1) A) 0 0 A := by
  refine Met.ofW (cc := cX11_feed) (maxL := 6) (ret := (some .int)) (by decide) rfl ?_
  intro p e s m args below meth c s₁ B hml hv
  obtain ⟨rfl, hI, hK, hE⟩ := hv
  have hx := B.exec
  have hb := B.bytes
  have hr := B.returns
  have hts := atoms_spec (ws := wq_c_X11_feed) B.pre
  have hown : s.vm.findClass RX11 = some m.cls := findClass_of_methodNamed B.named
  have hlocks := B.notSynchronized
  have hS : va_S A s.heap s.heap [] := va_S.rf
  have hk0 : Kp g [7, 25] f f := Kp.rf
  have hl := lv_entry ([.ref h0, .int p1, .int p2, .int p3, .int p4, .int p5]) (n := 6) (Nat.le_of_ble_eq_true rfl)
  rw [lg_entry_eq]
  generalize (lg_sl ([.ref h0, .int p1, .int p2, .int p3, .int p4, .int p5]) ++ List.replicate (6 - (lg_sl ([.ref h0, .int p1, .int p2, .int p3, .int p4, .int p5])).length) Slot.unset).toArray = ls at hl ⊢
  have hl : lv_has ls 6 [(0, .ref h0), (1, .int p1), (2, .int p2), (3, .int p3), (4, .int p4), (5, .int p5)] := hl
  refine lv_aload_n hx hb dX11_feed_0 rfl (lv_at hl 0 rfl) ?_
  obtain ⟨x_2, k_1⟩ := op_11 hI i_h0
  refine k_get (ci := 11) (v := .ref (gr g h0 1)) (C := RX11) (T := TX11) (N := 12) hx hb hts (fun _ h0_ => List.mem_cons_of_mem _ (List.mem_append_right _ (List.mem_append_left _ h0_))) hown hK hI i_h0.1 k_1 rfl 1 (by decide) (hts (.fieldLink RX11 21 "DeadlineShare" "tape" "LDeadlineShare$Tape;") (List.mem_cons_of_mem _ (List.mem_append_left _ (List.mem_of_getElem? (i := 0) rfl)))) (fun _ h9 => h9) rfl dX11_feed_1 ?_
  have i_4 := kw_11_1 hG i_h0
  obtain ⟨x_6, k_5⟩ := op_7 hI i_4
  refine va_calli (va_runV (As := []) (rest := []) ⟨hx, hb, hml, hown, hts⟩ (c_X7_hasRoomForFive l dC dI g A hG f (gr g h0 1) i_4) (cwV 0 hts (gi_V (fun w_ h0_ => ⟨List.mem_cons_of_mem _ (List.mem_append_right _ (List.mem_append_right _ (List.mem_append_left _ h0_))), (tb_c_X7_hasRoomForFive w_ h0_).2⟩) (List.mem_cons_of_mem _ (List.mem_append_left _ (List.mem_of_getElem? (i := 1) rfl))) (List.mem_cons_of_mem _ (List.mem_append_left _ (List.mem_of_getElem? (i := 2) rfl))) (List.mem_cons_of_mem _ (List.mem_append_left _ (List.mem_of_getElem? (i := 3) rfl))) (List.mem_cons_of_mem _ (List.mem_append_left _ (List.mem_of_getElem? (i := 4) rfl)))) rfl rfl rfl (by decide +kernel) ⟨Nat.le_of_ble_eq_true rfl, Nat.le_of_ble_eq_true rfl⟩) ⟨fun a U g mk q => ⟨q.1, q.2.calling rfl rfl⟩, k_recv hK hI i_4.1 k_5 (ci := 7) rfl, fun U hU hW => ⟨rfl, kIn.of hI hK hE hS hU hW⟩⟩ rfl rfl hl.1 rfl (lv_room (Nat.le_of_ble_eq_true rfl)) dX11_feed_4 ⟨Nat.le_of_ble_eq_true rfl, Nat.le_of_ble_eq_true rfl⟩) hS (fun q _ h => h) (fun q h => h) (fun r_8 u t H1 locs ht hvm w_7 hB hz1 hk1 hS => ?_)
  have hI : Iv dC dI g A f t.heap := hB
  rw [ht] at hI
  generalize H1 = H at hI hS ⊢
  refine W.widen (k := 0) (n := 0) (Nat.le_of_ble_eq_true rfl) (Nat.le_of_ble_eq_true rfl) ?_
  refine lv_if_ne (tgt := 12) hx hb dX11_feed_7 (by decide) (fun c_9 => ?_) (fun c_9 => ?_)
  · have c_9 := kn_eq rfl (by decide : Int32.toInt 0 = 0) c_9
    refine lv_aload_n hx hb dX11_feed_12 rfl (lv_at hl 0 rfl) ?_
    refine k_get (ci := 11) (v := .ref (gr g h0 1)) (C := RX11) (T := TX11) (N := 12) hx hb hts (fun _ h0_ => List.mem_cons_of_mem _ (List.mem_append_right _ (List.mem_append_left _ h0_))) hown hK hI i_h0.1 k_1 rfl 1 (by decide) (hts (.fieldLink RX11 21 "DeadlineShare" "tape" "LDeadlineShare$Tape;") (List.mem_cons_of_mem _ (List.mem_append_left _ (List.mem_of_getElem? (i := 0) rfl)))) (fun _ h9 => h9) rfl dX11_feed_13 ?_
    refine lv_iload_n hx hb dX11_feed_16 rfl (lv_at hl 1 rfl) ?_
    refine va_callv (va_runV (As := [.int p1]) (rest := []) ⟨hx, hb, hml, hown, hts⟩ (c_X7_addFour l dC dI g A hG f (gr g h0 1) p1 i_4) (cwV 1 hts (gi_V (fun w_ h0_ => ⟨List.mem_cons_of_mem _ (List.mem_append_right _ (List.mem_append_right _ (List.mem_append_right _ (List.mem_append_left _ h0_)))), (tb_c_X7_addFour w_ h0_).2⟩) (List.mem_cons_of_mem _ (List.mem_append_left _ (List.mem_of_getElem? (i := 5) rfl))) (List.mem_cons_of_mem _ (List.mem_append_left _ (List.mem_of_getElem? (i := 6) rfl))) (List.mem_cons_of_mem _ (List.mem_append_left _ (List.mem_of_getElem? (i := 7) rfl))) (List.mem_cons_of_mem _ (List.mem_append_left _ (List.mem_of_getElem? (i := 4) rfl)))) rfl rfl rfl (by decide +kernel) ⟨Nat.le_of_ble_eq_true rfl, Nat.le_of_ble_eq_true rfl⟩) ⟨fun a U g mk q => ⟨q.1, q.2.calling rfl rfl⟩, k_recv hK hI i_4.1 k_5 (ci := 7) rfl, fun U hU hW => ⟨rfl, kIn.of hI hK hE hS hU hW⟩⟩ rfl rfl hl.1 rfl (lv_room (Nat.le_of_ble_eq_true rfl)) dX11_feed_17 ⟨Nat.le_of_ble_eq_true rfl, Nat.le_of_ble_eq_true rfl⟩) hS (fun q _ h => h) (fun q h => h) (fun u t H1 locs ht hvm _ hB hz1 hk1 hS => ?_)
    obtain ⟨f_12, hI, kc_14⟩ := hB
    rw [ht] at hI
    have k_16 : f_12 h0 = .inr (11, [.ref (gr g h0 0), .ref (gr g h0 1), .ref (gr g h0 2), .ref (gr g h0 3), .ref (gr g h0 4), .ref (gr g h0 5), .ref (gr g h0 6), .ref (gr g h0 7), .ref (gr g h0 8), .ref (gr g h0 9), .ref (gr g h0 10), .int x_2]) := Kp.at kc_14 i_h0 (by decide) k_1
    have kp_17 := Kp.call hk0 kc_14 (by decide)
    generalize H1 = H at hI hS ⊢
    refine W.widen (k := 0) (n := 0) (Nat.le_of_ble_eq_true rfl) (Nat.le_of_ble_eq_true rfl) ?_
    refine lv_aload_n hx hb dX11_feed_20 rfl (lv_at hl 0 rfl) ?_
    refine k_get (ci := 11) (v := .ref (gr g h0 1)) (C := RX11) (T := TX11) (N := 12) hx hb hts (fun _ h0_ => List.mem_cons_of_mem _ (List.mem_append_right _ (List.mem_append_left _ h0_))) hown hK hI i_h0.1 k_16 rfl 1 (by decide) (hts (.fieldLink RX11 21 "DeadlineShare" "tape" "LDeadlineShare$Tape;") (List.mem_cons_of_mem _ (List.mem_append_left _ (List.mem_of_getElem? (i := 0) rfl)))) (fun _ h9 => h9) rfl dX11_feed_21 ?_
    refine lv_iload_n hx hb dX11_feed_24 rfl (lv_at hl 2 rfl) ?_
    obtain ⟨x_21, k_20⟩ := op_7 hI i_4
    refine va_callv (va_runV (As := [.int p2]) (rest := []) ⟨hx, hb, hml, hown, hts⟩ (c_X7_addFour l dC dI g A hG f_12 (gr g h0 1) p2 i_4) (cwV 1 hts (gi_V (fun w_ h0_ => ⟨List.mem_cons_of_mem _ (List.mem_append_right _ (List.mem_append_right _ (List.mem_append_right _ (List.mem_append_left _ h0_)))), (tb_c_X7_addFour w_ h0_).2⟩) (List.mem_cons_of_mem _ (List.mem_append_left _ (List.mem_of_getElem? (i := 5) rfl))) (List.mem_cons_of_mem _ (List.mem_append_left _ (List.mem_of_getElem? (i := 6) rfl))) (List.mem_cons_of_mem _ (List.mem_append_left _ (List.mem_of_getElem? (i := 7) rfl))) (List.mem_cons_of_mem _ (List.mem_append_left _ (List.mem_of_getElem? (i := 4) rfl)))) rfl rfl rfl (by decide +kernel) ⟨Nat.le_of_ble_eq_true rfl, Nat.le_of_ble_eq_true rfl⟩) ⟨fun a U g mk q => ⟨q.1, q.2.calling rfl rfl⟩, k_recv hK hI i_4.1 k_20 (ci := 7) rfl, fun U hU hW => ⟨rfl, kIn.of hI hK hE hS hU hW⟩⟩ rfl rfl hl.1 rfl (lv_room (Nat.le_of_ble_eq_true rfl)) dX11_feed_25 ⟨Nat.le_of_ble_eq_true rfl, Nat.le_of_ble_eq_true rfl⟩) hS (fun q _ h => h) (fun q h => h) (fun u t H1 locs ht hvm _ hB hz1 hk1 hS => ?_)
    obtain ⟨f_22, hI, kc_24⟩ := hB
    rw [ht] at hI
    have k_26 : f_22 h0 = .inr (11, [.ref (gr g h0 0), .ref (gr g h0 1), .ref (gr g h0 2), .ref (gr g h0 3), .ref (gr g h0 4), .ref (gr g h0 5), .ref (gr g h0 6), .ref (gr g h0 7), .ref (gr g h0 8), .ref (gr g h0 9), .ref (gr g h0 10), .int x_2]) := Kp.at kc_24 i_h0 (by decide) k_16
    have kp_27 := Kp.call kp_17 kc_24 (by decide)
    generalize H1 = H at hI hS ⊢
    refine W.widen (k := 0) (n := 0) (Nat.le_of_ble_eq_true rfl) (Nat.le_of_ble_eq_true rfl) ?_
    refine lv_aload_n hx hb dX11_feed_28 rfl (lv_at hl 0 rfl) ?_
    refine k_get (ci := 11) (v := .ref (gr g h0 1)) (C := RX11) (T := TX11) (N := 12) hx hb hts (fun _ h0_ => List.mem_cons_of_mem _ (List.mem_append_right _ (List.mem_append_left _ h0_))) hown hK hI i_h0.1 k_26 rfl 1 (by decide) (hts (.fieldLink RX11 21 "DeadlineShare" "tape" "LDeadlineShare$Tape;") (List.mem_cons_of_mem _ (List.mem_append_left _ (List.mem_of_getElem? (i := 0) rfl)))) (fun _ h9 => h9) rfl dX11_feed_29 ?_
    refine lv_iload_n hx hb dX11_feed_32 rfl (lv_at hl 3 rfl) ?_
    obtain ⟨x_31, k_30⟩ := op_7 hI i_4
    refine va_callv (va_runV (As := [.int p3]) (rest := []) ⟨hx, hb, hml, hown, hts⟩ (c_X7_addFour l dC dI g A hG f_22 (gr g h0 1) p3 i_4) (cwV 1 hts (gi_V (fun w_ h0_ => ⟨List.mem_cons_of_mem _ (List.mem_append_right _ (List.mem_append_right _ (List.mem_append_right _ (List.mem_append_left _ h0_)))), (tb_c_X7_addFour w_ h0_).2⟩) (List.mem_cons_of_mem _ (List.mem_append_left _ (List.mem_of_getElem? (i := 5) rfl))) (List.mem_cons_of_mem _ (List.mem_append_left _ (List.mem_of_getElem? (i := 6) rfl))) (List.mem_cons_of_mem _ (List.mem_append_left _ (List.mem_of_getElem? (i := 7) rfl))) (List.mem_cons_of_mem _ (List.mem_append_left _ (List.mem_of_getElem? (i := 4) rfl)))) rfl rfl rfl (by decide +kernel) ⟨Nat.le_of_ble_eq_true rfl, Nat.le_of_ble_eq_true rfl⟩) ⟨fun a U g mk q => ⟨q.1, q.2.calling rfl rfl⟩, k_recv hK hI i_4.1 k_30 (ci := 7) rfl, fun U hU hW => ⟨rfl, kIn.of hI hK hE hS hU hW⟩⟩ rfl rfl hl.1 rfl (lv_room (Nat.le_of_ble_eq_true rfl)) dX11_feed_33 ⟨Nat.le_of_ble_eq_true rfl, Nat.le_of_ble_eq_true rfl⟩) hS (fun q _ h => h) (fun q h => h) (fun u t H1 locs ht hvm _ hB hz1 hk1 hS => ?_)
    obtain ⟨f_32, hI, kc_34⟩ := hB
    rw [ht] at hI
    have k_36 : f_32 h0 = .inr (11, [.ref (gr g h0 0), .ref (gr g h0 1), .ref (gr g h0 2), .ref (gr g h0 3), .ref (gr g h0 4), .ref (gr g h0 5), .ref (gr g h0 6), .ref (gr g h0 7), .ref (gr g h0 8), .ref (gr g h0 9), .ref (gr g h0 10), .int x_2]) := Kp.at kc_34 i_h0 (by decide) k_26
    have kp_37 := Kp.call kp_27 kc_34 (by decide)
    generalize H1 = H at hI hS ⊢
    refine W.widen (k := 0) (n := 0) (Nat.le_of_ble_eq_true rfl) (Nat.le_of_ble_eq_true rfl) ?_
    refine lv_aload_n hx hb dX11_feed_36 rfl (lv_at hl 0 rfl) ?_
    refine k_get (ci := 11) (v := .ref (gr g h0 1)) (C := RX11) (T := TX11) (N := 12) hx hb hts (fun _ h0_ => List.mem_cons_of_mem _ (List.mem_append_right _ (List.mem_append_left _ h0_))) hown hK hI i_h0.1 k_36 rfl 1 (by decide) (hts (.fieldLink RX11 21 "DeadlineShare" "tape" "LDeadlineShare$Tape;") (List.mem_cons_of_mem _ (List.mem_append_left _ (List.mem_of_getElem? (i := 0) rfl)))) (fun _ h9 => h9) rfl dX11_feed_37 ?_
    refine lv_iload hx hb dX11_feed_40 (lv_at hl 4 rfl) ?_
    obtain ⟨x_41, k_40⟩ := op_7 hI i_4
    refine va_callv (va_runV (As := [.int p4]) (rest := []) ⟨hx, hb, hml, hown, hts⟩ (c_X7_addFour l dC dI g A hG f_32 (gr g h0 1) p4 i_4) (cwV 1 hts (gi_V (fun w_ h0_ => ⟨List.mem_cons_of_mem _ (List.mem_append_right _ (List.mem_append_right _ (List.mem_append_right _ (List.mem_append_left _ h0_)))), (tb_c_X7_addFour w_ h0_).2⟩) (List.mem_cons_of_mem _ (List.mem_append_left _ (List.mem_of_getElem? (i := 5) rfl))) (List.mem_cons_of_mem _ (List.mem_append_left _ (List.mem_of_getElem? (i := 6) rfl))) (List.mem_cons_of_mem _ (List.mem_append_left _ (List.mem_of_getElem? (i := 7) rfl))) (List.mem_cons_of_mem _ (List.mem_append_left _ (List.mem_of_getElem? (i := 4) rfl)))) rfl rfl rfl (by decide +kernel) ⟨Nat.le_of_ble_eq_true rfl, Nat.le_of_ble_eq_true rfl⟩) ⟨fun a U g mk q => ⟨q.1, q.2.calling rfl rfl⟩, k_recv hK hI i_4.1 k_40 (ci := 7) rfl, fun U hU hW => ⟨rfl, kIn.of hI hK hE hS hU hW⟩⟩ rfl rfl hl.1 rfl (lv_room (Nat.le_of_ble_eq_true rfl)) dX11_feed_42 ⟨Nat.le_of_ble_eq_true rfl, Nat.le_of_ble_eq_true rfl⟩) hS (fun q _ h => h) (fun q h => h) (fun u t H1 locs ht hvm _ hB hz1 hk1 hS => ?_)
    obtain ⟨f_42, hI, kc_44⟩ := hB
    rw [ht] at hI
    have k_46 : f_42 h0 = .inr (11, [.ref (gr g h0 0), .ref (gr g h0 1), .ref (gr g h0 2), .ref (gr g h0 3), .ref (gr g h0 4), .ref (gr g h0 5), .ref (gr g h0 6), .ref (gr g h0 7), .ref (gr g h0 8), .ref (gr g h0 9), .ref (gr g h0 10), .int x_2]) := Kp.at kc_44 i_h0 (by decide) k_36
    have kp_47 := Kp.call kp_37 kc_44 (by decide)
    generalize H1 = H at hI hS ⊢
    refine W.widen (k := 0) (n := 0) (Nat.le_of_ble_eq_true rfl) (Nat.le_of_ble_eq_true rfl) ?_
    refine lv_aload_n hx hb dX11_feed_45 rfl (lv_at hl 0 rfl) ?_
    refine k_get (ci := 11) (v := .ref (gr g h0 1)) (C := RX11) (T := TX11) (N := 12) hx hb hts (fun _ h0_ => List.mem_cons_of_mem _ (List.mem_append_right _ (List.mem_append_left _ h0_))) hown hK hI i_h0.1 k_46 rfl 1 (by decide) (hts (.fieldLink RX11 21 "DeadlineShare" "tape" "LDeadlineShare$Tape;") (List.mem_cons_of_mem _ (List.mem_append_left _ (List.mem_of_getElem? (i := 0) rfl)))) (fun _ h9 => h9) rfl dX11_feed_46 ?_
    refine lv_iload hx hb dX11_feed_49 (lv_at hl 5 rfl) ?_
    obtain ⟨x_51, k_50⟩ := op_7 hI i_4
    refine va_callv (va_runV (As := [.int p5]) (rest := []) ⟨hx, hb, hml, hown, hts⟩ (c_X7_addFour l dC dI g A hG f_42 (gr g h0 1) p5 i_4) (cwV 1 hts (gi_V (fun w_ h0_ => ⟨List.mem_cons_of_mem _ (List.mem_append_right _ (List.mem_append_right _ (List.mem_append_right _ (List.mem_append_left _ h0_)))), (tb_c_X7_addFour w_ h0_).2⟩) (List.mem_cons_of_mem _ (List.mem_append_left _ (List.mem_of_getElem? (i := 5) rfl))) (List.mem_cons_of_mem _ (List.mem_append_left _ (List.mem_of_getElem? (i := 6) rfl))) (List.mem_cons_of_mem _ (List.mem_append_left _ (List.mem_of_getElem? (i := 7) rfl))) (List.mem_cons_of_mem _ (List.mem_append_left _ (List.mem_of_getElem? (i := 4) rfl)))) rfl rfl rfl (by decide +kernel) ⟨Nat.le_of_ble_eq_true rfl, Nat.le_of_ble_eq_true rfl⟩) ⟨fun a U g mk q => ⟨q.1, q.2.calling rfl rfl⟩, k_recv hK hI i_4.1 k_50 (ci := 7) rfl, fun U hU hW => ⟨rfl, kIn.of hI hK hE hS hU hW⟩⟩ rfl rfl hl.1 rfl (lv_room (Nat.le_of_ble_eq_true rfl)) dX11_feed_51 ⟨Nat.le_of_ble_eq_true rfl, Nat.le_of_ble_eq_true rfl⟩) hS (fun q _ h => h) (fun q h => h) (fun u t H1 locs ht hvm _ hB hz1 hk1 hS => ?_)
    obtain ⟨f_52, hI, kc_54⟩ := hB
    rw [ht] at hI
    have k_56 : f_52 h0 = .inr (11, [.ref (gr g h0 0), .ref (gr g h0 1), .ref (gr g h0 2), .ref (gr g h0 3), .ref (gr g h0 4), .ref (gr g h0 5), .ref (gr g h0 6), .ref (gr g h0 7), .ref (gr g h0 8), .ref (gr g h0 9), .ref (gr g h0 10), .int x_2]) := Kp.at kc_54 i_h0 (by decide) k_46
    have kp_57 := Kp.call kp_47 kc_54 (by decide)
    generalize H1 = H at hI hS ⊢
    refine W.widen (k := 0) (n := 0) (Nat.le_of_ble_eq_true rfl) (Nat.le_of_ble_eq_true rfl) ?_
    refine lv_aload_n hx hb dX11_feed_54 rfl (lv_at hl 0 rfl) ?_
    refine k_get (ci := 11) (v := .ref (gr g h0 1)) (C := RX11) (T := TX11) (N := 12) hx hb hts (fun _ h0_ => List.mem_cons_of_mem _ (List.mem_append_right _ (List.mem_append_left _ h0_))) hown hK hI i_h0.1 k_56 rfl 1 (by decide) (hts (.fieldLink RX11 21 "DeadlineShare" "tape" "LDeadlineShare$Tape;") (List.mem_cons_of_mem _ (List.mem_append_left _ (List.mem_of_getElem? (i := 0) rfl)))) (fun _ h9 => h9) rfl dX11_feed_55 ?_
    obtain ⟨x_61, k_60⟩ := op_7 hI i_4
    refine k_get (ci := 7) (v := .int x_61) (C := RX7) (T := TX7) (N := 2) hx hb hts (fun _ h0_ => List.mem_cons_of_mem _ (List.mem_append_right _ (List.mem_append_right _ (List.mem_append_right _ (List.mem_append_right _ (List.mem_append_left _ h0_)))))) hown hK hI i_4.1 k_60 rfl 1 (by decide) (hts (.fieldLink RX11 106 "DeadlineShare$Tape" "length" "I") (List.mem_cons_of_mem _ (List.mem_append_left _ (List.mem_of_getElem? (i := 8) rfl)))) (fun _ h9 => h9) rfl dX11_feed_58 ?_
    exact W.iret (v := x_61) hx hb hr (fun t ht hW => ⟨⟨x_61, (), rfl, trivial, ⟨f_52, k_ret ht hI, kp_57⟩⟩, hS.F ht⟩) hS.2.2 dX11_feed_61
  · have c_9 := kc_eq rfl (by decide : Int32.toInt 0 = 0) c_9
    refine lv_iconst (v := (-1)) hx hb dX11_feed_10 (by decide) ?_
    exact W.iret (v := (-1)) hx hb hr (fun t ht hW => ⟨⟨(-1), (), rfl, trivial, ⟨f, k_ret ht hI, hk0⟩⟩, hS.F ht⟩) hS.2.2 dX11_feed_11
theorem tw_465 : q_g (.code yX11_end cX11_end 2 (some .int)) := ⟨(List.mem_append_right _ (List.mem_of_getElem? (i := 404) (by decide +kernel))), good_of_word (by decide +kernel)⟩
def ow_c_X11_end : List Cond := [.fieldLink RX11 21 "DeadlineShare" "tape" "LDeadlineShare$Tape;", .fieldLink RX11 106 "DeadlineShare$Tape" "length" "I"]
def wq_c_X11_end : List Cond := .code yX11_end cX11_end 2 (some .int) :: (ow_c_X11_end ++ (u_ws RX11 TX11 12 ++ (u_ws RX7 TX7 2 ++ ([] : List Cond))))
theorem tb_c_X11_end : ∀ w ∈ wq_c_X11_end, q_g w := by
  unfold wq_c_X11_end ow_c_X11_end
  exact q_cons tw_465 (q_app (q_cons tw_463 (q_cons tw_456 q_nil)) (q_app tu_X11 (q_app tu_X7 q_nil)))
set_option maxHeartbeats 4000000 in
set_option maxRecDepth 100000 in
theorem c_X11_end (l : Launch) (dC : Nat → ClassId) (dI : Nat → Nat → Nat) (g : kG) (A : Nat → Prop) (hG : kWf g) (f : Nat → va_E) (h0 : Nat) (p1 : Int32) (i_h0 : ik g 11 h0) : Met l yX11_end wq_c_X11_end ({ frames := 0, cells := 0, slots := 0, locals := 0 } : Room) (va_Pc [.ref h0, .int p1] (fun U => kIn dC dI g A f U)) (va_Qi (fun (r : Int32) (_ : Unit) => True) (fun (_ : Unit) t => ∃ f1 : Nat → va_E, Iv dC dI g A f1 t.heap ∧ Kp g [7] f f1) A) 0 0 A := by
  refine Met.ofW (cc := cX11_end) (maxL := 2) (ret := (some .int)) (by decide) rfl ?_
  intro p e s m args below meth c s₁ B hml hv
  obtain ⟨rfl, hI, hK, hE⟩ := hv
  have hx := B.exec
  have hb := B.bytes
  have hr := B.returns
  have hts := atoms_spec (ws := wq_c_X11_end) B.pre
  have hown : s.vm.findClass RX11 = some m.cls := findClass_of_methodNamed B.named
  have hlocks := B.notSynchronized
  have hS : va_S A s.heap s.heap [] := va_S.rf
  have hk0 : Kp g [7] f f := Kp.rf
  have hl := lv_entry ([.ref h0, .int p1]) (n := 2) (Nat.le_of_ble_eq_true rfl)
  rw [lg_entry_eq]
  generalize (lg_sl ([.ref h0, .int p1]) ++ List.replicate (2 - (lg_sl ([.ref h0, .int p1])).length) Slot.unset).toArray = ls at hl ⊢
  have hl : lv_has ls 2 [(0, .ref h0), (1, .int p1)] := hl
  refine lv_iload_n hx hb dX11_end_0 rfl (lv_at hl 1 rfl) ?_
  refine lv_if_lt (tgt := 15) hx hb dX11_end_1 (by decide) (fun c_1 => ?_) (fun c_1 => ?_)
  · have c_1 := kc_lt rfl (by decide : Int32.toInt 0 = 0) c_1
    refine lv_iconst (v := (-1)) hx hb dX11_end_15 (by decide) ?_
    exact W.iret (v := (-1)) hx hb hr (fun t ht hW => ⟨⟨(-1), (), rfl, trivial, ⟨f, k_ret ht hI, hk0⟩⟩, hS.F ht⟩) hS.2.2 dX11_end_16
  · have c_1 := kn_lt rfl (by decide : Int32.toInt 0 = 0) c_1
    refine lv_iload_n hx hb dX11_end_4 rfl (lv_at hl 1 rfl) ?_
    refine lv_aload_n hx hb dX11_end_5 rfl (lv_at hl 0 rfl) ?_
    obtain ⟨x_3, k_2⟩ := op_11 hI i_h0
    refine k_get (ci := 11) (v := .ref (gr g h0 1)) (C := RX11) (T := TX11) (N := 12) hx hb hts (fun _ h0_ => List.mem_cons_of_mem _ (List.mem_append_right _ (List.mem_append_left _ h0_))) hown hK hI i_h0.1 k_2 rfl 1 (by decide) (hts (.fieldLink RX11 21 "DeadlineShare" "tape" "LDeadlineShare$Tape;") (List.mem_cons_of_mem _ (List.mem_append_left _ (List.mem_of_getElem? (i := 0) rfl)))) (fun _ h9 => h9) rfl dX11_end_6 ?_
    have i_5 := kw_11_1 hG i_h0
    obtain ⟨x_7, k_6⟩ := op_7 hI i_5
    refine k_get (ci := 7) (v := .int x_7) (C := RX7) (T := TX7) (N := 2) hx hb hts (fun _ h0_ => List.mem_cons_of_mem _ (List.mem_append_right _ (List.mem_append_right _ (List.mem_append_left _ h0_)))) hown hK hI i_5.1 k_6 rfl 1 (by decide) (hts (.fieldLink RX11 106 "DeadlineShare$Tape" "length" "I") (List.mem_cons_of_mem _ (List.mem_append_left _ (List.mem_of_getElem? (i := 1) rfl)))) (fun _ h9 => h9) rfl dX11_end_9 ?_
    refine lv_icmp_le (tgt := 17) hx hb dX11_end_12 (by decide) (fun c_8 => ?_) (fun c_8 => ?_)
    · have c_8 := kc_le rfl rfl c_8
      refine lv_aload_n hx hb dX11_end_17 rfl (lv_at hl 0 rfl) ?_
      refine k_get (ci := 11) (v := .ref (gr g h0 1)) (C := RX11) (T := TX11) (N := 12) hx hb hts (fun _ h0_ => List.mem_cons_of_mem _ (List.mem_append_right _ (List.mem_append_left _ h0_))) hown hK hI i_h0.1 k_2 rfl 1 (by decide) (hts (.fieldLink RX11 21 "DeadlineShare" "tape" "LDeadlineShare$Tape;") (List.mem_cons_of_mem _ (List.mem_append_left _ (List.mem_of_getElem? (i := 0) rfl)))) (fun _ h9 => h9) rfl dX11_end_18 ?_
      refine lv_iload_n hx hb dX11_end_21 rfl (lv_at hl 1 rfl) ?_
      refine k_put (ci := 7) (v := .int p1) (ty := .int) (C := RX7) (T := TX7) (N := 2) hx hb hts (fun _ h0_ => List.mem_cons_of_mem _ (List.mem_append_right _ (List.mem_append_right _ (List.mem_append_left _ h0_)))) tyX7 tyX7_ok nmX7 hown hK hI hS i_5.1 k_6 rfl 1 (by decide) (hts (.fieldLink RX11 106 "DeadlineShare$Tape" "length" "I") (List.mem_cons_of_mem _ (List.mem_append_left _ (List.mem_of_getElem? (i := 1) rfl)))) (fun _ h9 => h9) rfl (by decide +kernel) rfl rfl (Nat.le_of_ble_eq_true rfl) rfl (cl_7 i_5) dX11_end_22 (fun f_11 H locs e_12 hI hS => ?_)
      have k_14 : f_11 h0 = .inr (11, [.ref (gr g h0 0), .ref (gr g h0 1), .ref (gr g h0 2), .ref (gr g h0 3), .ref (gr g h0 4), .ref (gr g h0 5), .ref (gr g h0 6), .ref (gr g h0 7), .ref (gr g h0 8), .ref (gr g h0 9), .ref (gr g h0 10), .int x_3]) := by rw [e_12, va_up_ne _ _ (ik_ne i_h0 i_5 (by decide))]; exact k_2
      have k_15 : f_11 (gr g h0 1) = .inr (7, [.ref (gr g (gr g h0 1) 0), .int p1]) := by rw [e_12]; exact va_up_self _ _ _
      have kp_13 := Kp.put hk0 i_5 (by decide) e_12
      refine lv_iload_n hx hb dX11_end_25 rfl (lv_at hl 1 rfl) ?_
      exact W.iret (v := p1) hx hb hr (fun t ht hW => ⟨⟨p1, (), rfl, trivial, ⟨f_11, k_ret ht hI, kp_13⟩⟩, hS.F ht⟩) hS.2.2 dX11_end_26
    · have c_8 := kn_le rfl rfl c_8
      refine lv_iconst (v := (-1)) hx hb dX11_end_15 (by decide) ?_
      exact W.iret (v := (-1)) hx hb hr (fun t ht hW => ⟨⟨(-1), (), rfl, trivial, ⟨f, k_ret ht hI, hk0⟩⟩, hS.F ht⟩) hS.2.2 dX11_end_16
theorem tw_466 : q_g (.methodLink RX11 109 yX7_byteAt) := ⟨(List.mem_append_right _ (List.mem_of_getElem? (i := 409) (by decide +kernel))), good_of_word (by decide +kernel)⟩
theorem tw_467 : q_g (.code yX11_tape cX11_tape 2 (some .int)) := ⟨(List.mem_append_right _ (List.mem_of_getElem? (i := 408) (by decide +kernel))), good_of_word (by decide +kernel)⟩
def ow_c_X11_tape : List Cond := [.fieldLink RX11 21 "DeadlineShare" "tape" "LDeadlineShare$Tape;", .methodLink RX11 109 yX7_byteAt, .instanceMethod yX7_byteAt, .selects RX7 yX7_byteAt yX7_byteAt, .initialized RX7]
def wq_c_X11_tape : List Cond := .code yX11_tape cX11_tape 2 (some .int) :: (ow_c_X11_tape ++ (u_ws RX11 TX11 12 ++ (wq_c_X7_byteAt ++ ([] : List Cond))))
theorem tb_c_X11_tape : ∀ w ∈ wq_c_X11_tape, q_g w := by
  unfold wq_c_X11_tape ow_c_X11_tape
  exact q_cons tw_467 (q_app (q_cons tw_463 (q_cons tw_466 (q_cons tw_194 (q_cons tw_193 (q_cons tw_192 q_nil))))) (q_app tu_X11 (q_app tb_c_X7_byteAt q_nil)))
set_option maxHeartbeats 4000000 in
set_option maxRecDepth 100000 in
theorem c_X11_tape (l : Launch) (dC : Nat → ClassId) (dI : Nat → Nat → Nat) (g : kG) (A : Nat → Prop) (hG : kWf g) (f : Nat → va_E) (h0 : Nat) (p1 : Int32) (i_h0 : ik g 11 h0) : Met l yX11_tape wq_c_X11_tape ({ frames := 1, cells := 0, slots := 0, locals := 21 } : Room) (va_Pc [.ref h0, .int p1] (fun U => kIn dC dI g A f U)) (va_Qi (fun (r : Int32) (_ : Unit) => True) (fun (_ : Unit) t => Iv dC dI g A f t.heap) A) 0 0 A := by
  refine Met.ofW (cc := cX11_tape) (maxL := 2) (ret := (some .int)) (by decide) rfl ?_
  intro p e s m args below meth c s₁ B hml hv
  obtain ⟨rfl, hI, hK, hE⟩ := hv
  have hx := B.exec
  have hb := B.bytes
  have hr := B.returns
  have hts := atoms_spec (ws := wq_c_X11_tape) B.pre
  have hown : s.vm.findClass RX11 = some m.cls := findClass_of_methodNamed B.named
  have hlocks := B.notSynchronized
  have hS : va_S A s.heap s.heap [] := va_S.rf
  have hl := lv_entry ([.ref h0, .int p1]) (n := 2) (Nat.le_of_ble_eq_true rfl)
  rw [lg_entry_eq]
  generalize (lg_sl ([.ref h0, .int p1]) ++ List.replicate (2 - (lg_sl ([.ref h0, .int p1])).length) Slot.unset).toArray = ls at hl ⊢
  have hl : lv_has ls 2 [(0, .ref h0), (1, .int p1)] := hl
  refine lv_aload_n hx hb dX11_tape_0 rfl (lv_at hl 0 rfl) ?_
  obtain ⟨x_2, k_1⟩ := op_11 hI i_h0
  refine k_get (ci := 11) (v := .ref (gr g h0 1)) (C := RX11) (T := TX11) (N := 12) hx hb hts (fun _ h0_ => List.mem_cons_of_mem _ (List.mem_append_right _ (List.mem_append_left _ h0_))) hown hK hI i_h0.1 k_1 rfl 1 (by decide) (hts (.fieldLink RX11 21 "DeadlineShare" "tape" "LDeadlineShare$Tape;") (List.mem_cons_of_mem _ (List.mem_append_left _ (List.mem_of_getElem? (i := 0) rfl)))) (fun _ h9 => h9) rfl dX11_tape_1 ?_
  have i_4 := kw_11_1 hG i_h0
  refine lv_iload_n hx hb dX11_tape_4 rfl (lv_at hl 1 rfl) ?_
  obtain ⟨x_6, k_5⟩ := op_7 hI i_4
  refine va_calli (va_runV (As := [.int p1]) (rest := []) ⟨hx, hb, hml, hown, hts⟩ (c_X7_byteAt l dC dI g A hG f (gr g h0 1) p1 i_4) (cwV 1 hts (gi_V (fun w_ h0_ => ⟨List.mem_cons_of_mem _ (List.mem_append_right _ (List.mem_append_right _ (List.mem_append_left _ h0_))), (tb_c_X7_byteAt w_ h0_).2⟩) (List.mem_cons_of_mem _ (List.mem_append_left _ (List.mem_of_getElem? (i := 1) rfl))) (List.mem_cons_of_mem _ (List.mem_append_left _ (List.mem_of_getElem? (i := 2) rfl))) (List.mem_cons_of_mem _ (List.mem_append_left _ (List.mem_of_getElem? (i := 3) rfl))) (List.mem_cons_of_mem _ (List.mem_append_left _ (List.mem_of_getElem? (i := 4) rfl)))) rfl rfl rfl (by decide +kernel) ⟨Nat.le_of_ble_eq_true rfl, Nat.le_of_ble_eq_true rfl⟩) ⟨fun a U g mk q => ⟨q.1, q.2.calling rfl rfl⟩, k_recv hK hI i_4.1 k_5 (ci := 7) rfl, fun U hU hW => ⟨rfl, kIn.of hI hK hE hS hU hW⟩⟩ rfl rfl hl.1 rfl (lv_room (Nat.le_of_ble_eq_true rfl)) dX11_tape_5 ⟨Nat.le_of_ble_eq_true rfl, Nat.le_of_ble_eq_true rfl⟩) hS (fun q _ h => h) (fun q h => h) (fun r_8 u t H1 locs ht hvm w_7 hB hz1 hk1 hS => ?_)
  have hI : Iv dC dI g A f t.heap := hB
  rw [ht] at hI
  generalize H1 = H at hI hS ⊢
  refine W.widen (k := 0) (n := 0) (Nat.le_of_ble_eq_true rfl) (Nat.le_of_ble_eq_true rfl) ?_
  exact W.iret (v := r_8) hx hb hr (fun t ht hW => ⟨⟨r_8, (), rfl, trivial, k_ret ht hI⟩, hS.F ht⟩) hS.2.2 dX11_tape_8
theorem tw_468 : q_g (.code yX11_isWeight cX11_isWeight 1 (some .boolean)) := ⟨(List.mem_append_right _ (List.mem_of_getElem? (i := 419) (by decide +kernel))), good_of_word (by decide +kernel)⟩
def ow_c_X11_isWeight : List Cond := []
def wq_c_X11_isWeight : List Cond := .code yX11_isWeight cX11_isWeight 1 (some .boolean) :: (ow_c_X11_isWeight ++ ([] : List Cond))
theorem tb_c_X11_isWeight : ∀ w ∈ wq_c_X11_isWeight, q_g w := by
  unfold wq_c_X11_isWeight ow_c_X11_isWeight
  exact q_cons tw_468 (q_app q_nil q_nil)
set_option maxHeartbeats 4000000 in
set_option maxRecDepth 100000 in
theorem c_X11_isWeight (l : Launch) (dC : Nat → ClassId) (dI : Nat → Nat → Nat) (g : kG) (A : Nat → Prop) (hG : kWf g) (f : Nat → va_E) (p1 : Int32) : Met l yX11_isWeight wq_c_X11_isWeight ({ frames := 0, cells := 0, slots := 0, locals := 0 } : Room) (va_Pc [.int p1] (fun U => kIn dC dI g A f U)) (va_Qi (fun (r : Int32) (_ : Unit) => True) (fun (_ : Unit) t => Iv dC dI g A f t.heap) A) 0 0 A := by
  refine Met.ofW (cc := cX11_isWeight) (maxL := 1) (ret := (some .boolean)) (by decide) rfl ?_
  intro p e s m args below meth c s₁ B hml hv
  obtain ⟨rfl, hI, hK, hE⟩ := hv
  have hx := B.exec
  have hb := B.bytes
  have hr := B.returns
  have hts := atoms_spec (ws := wq_c_X11_isWeight) B.pre
  have hown : s.vm.findClass RX11 = some m.cls := findClass_of_methodNamed B.named
  have hlocks := B.notSynchronized
  have hS : va_S A s.heap s.heap [] := va_S.rf
  have hl := lv_entry ([.int p1]) (n := 1) (Nat.le_of_ble_eq_true rfl)
  rw [lg_entry_eq]
  generalize (lg_sl ([.int p1]) ++ List.replicate (1 - (lg_sl ([.int p1])).length) Slot.unset).toArray = ls at hl ⊢
  have hl : lv_has ls 1 [(0, .int p1)] := hl
  refine lv_iload_n hx hb dX11_isWeight_0 rfl (lv_at hl 0 rfl) ?_
  refine lv_iconst (v := 1) hx hb dX11_isWeight_1 (by decide) ?_
  refine lv_icmp_lt (tgt := 15) hx hb dX11_isWeight_2 (by decide) (fun c_1 => ?_) (fun c_1 => ?_)
  · have c_1 := kc_lt rfl (by decide : Int32.toInt 1 = 1) c_1
    refine lv_iconst (v := 0) hx hb dX11_isWeight_15 (by decide) ?_
    exact W.zret (v := 0) hx hb hr rfl (fun t ht hW => ⟨⟨0, (), rfl, trivial, k_ret ht hI⟩, hS.F ht⟩) hS.2.2 dX11_isWeight_16
  · have c_1 := kn_lt rfl (by decide : Int32.toInt 1 = 1) c_1
    refine lv_iload_n hx hb dX11_isWeight_5 rfl (lv_at hl 0 rfl) ?_
    refine lv_bipush (v := 8) hx hb dX11_isWeight_6 (by decide) ?_
    refine lv_icmp_gt (tgt := 15) hx hb dX11_isWeight_8 (by decide) (fun c_2 => ?_) (fun c_2 => ?_)
    · have c_2 := kc_lt (by decide : Int32.toInt 8 = 8) rfl c_2
      refine lv_iconst (v := 0) hx hb dX11_isWeight_15 (by decide) ?_
      exact W.zret (v := 0) hx hb hr rfl (fun t ht hW => ⟨⟨0, (), rfl, trivial, k_ret ht hI⟩, hS.F ht⟩) hS.2.2 dX11_isWeight_16
    · have c_2 := kn_lt (by decide : Int32.toInt 8 = 8) rfl c_2
      refine lv_iconst (v := 1) hx hb dX11_isWeight_11 (by decide) ?_
      refine lv_goto (tgt := 16) hx hb dX11_isWeight_12 (by decide) ?_
      exact W.zret (v := 1) hx hb hr rfl (fun t ht hW => ⟨⟨1, (), rfl, trivial, k_ret ht hI⟩, hS.F ht⟩) hS.2.2 dX11_isWeight_16
theorem tw_469 : q_g (.code yX11_isSlice cX11_isSlice 1 (some .boolean)) := ⟨(List.mem_append_right _ (List.mem_of_getElem? (i := 422) (by decide +kernel))), good_of_word (by decide +kernel)⟩
def ow_c_X11_isSlice : List Cond := []
def wq_c_X11_isSlice : List Cond := .code yX11_isSlice cX11_isSlice 1 (some .boolean) :: (ow_c_X11_isSlice ++ ([] : List Cond))
theorem tb_c_X11_isSlice : ∀ w ∈ wq_c_X11_isSlice, q_g w := by
  unfold wq_c_X11_isSlice ow_c_X11_isSlice
  exact q_cons tw_469 (q_app q_nil q_nil)
set_option maxHeartbeats 4000000 in
set_option maxRecDepth 100000 in
theorem c_X11_isSlice (l : Launch) (dC : Nat → ClassId) (dI : Nat → Nat → Nat) (g : kG) (A : Nat → Prop) (hG : kWf g) (f : Nat → va_E) (p1 : Int32) : Met l yX11_isSlice wq_c_X11_isSlice ({ frames := 0, cells := 0, slots := 0, locals := 0 } : Room) (va_Pc [.int p1] (fun U => kIn dC dI g A f U)) (va_Qi (fun (r : Int32) (_ : Unit) => True) (fun (_ : Unit) t => Iv dC dI g A f t.heap) A) 0 0 A := by
  refine Met.ofW (cc := cX11_isSlice) (maxL := 1) (ret := (some .boolean)) (by decide) rfl ?_
  intro p e s m args below meth c s₁ B hml hv
  obtain ⟨rfl, hI, hK, hE⟩ := hv
  have hx := B.exec
  have hb := B.bytes
  have hr := B.returns
  have hts := atoms_spec (ws := wq_c_X11_isSlice) B.pre
  have hown : s.vm.findClass RX11 = some m.cls := findClass_of_methodNamed B.named
  have hlocks := B.notSynchronized
  have hS : va_S A s.heap s.heap [] := va_S.rf
  have hl := lv_entry ([.int p1]) (n := 1) (Nat.le_of_ble_eq_true rfl)
  rw [lg_entry_eq]
  generalize (lg_sl ([.int p1]) ++ List.replicate (1 - (lg_sl ([.int p1])).length) Slot.unset).toArray = ls at hl ⊢
  have hl : lv_has ls 1 [(0, .int p1)] := hl
  refine lv_iload_n hx hb dX11_isSlice_0 rfl (lv_at hl 0 rfl) ?_
  refine lv_iconst (v := 1) hx hb dX11_isSlice_1 (by decide) ?_
  refine lv_icmp_lt (tgt := 15) hx hb dX11_isSlice_2 (by decide) (fun c_1 => ?_) (fun c_1 => ?_)
  · have c_1 := kc_lt rfl (by decide : Int32.toInt 1 = 1) c_1
    refine lv_iconst (v := 0) hx hb dX11_isSlice_15 (by decide) ?_
    exact W.zret (v := 0) hx hb hr rfl (fun t ht hW => ⟨⟨0, (), rfl, trivial, k_ret ht hI⟩, hS.F ht⟩) hS.2.2 dX11_isSlice_16
  · have c_1 := kn_lt rfl (by decide : Int32.toInt 1 = 1) c_1
    refine lv_iload_n hx hb dX11_isSlice_5 rfl (lv_at hl 0 rfl) ?_
    refine lv_bipush (v := 20) hx hb dX11_isSlice_6 (by decide) ?_
    refine lv_icmp_gt (tgt := 15) hx hb dX11_isSlice_8 (by decide) (fun c_2 => ?_) (fun c_2 => ?_)
    · have c_2 := kc_lt (by decide : Int32.toInt 20 = 20) rfl c_2
      refine lv_iconst (v := 0) hx hb dX11_isSlice_15 (by decide) ?_
      exact W.zret (v := 0) hx hb hr rfl (fun t ht hW => ⟨⟨0, (), rfl, trivial, k_ret ht hI⟩, hS.F ht⟩) hS.2.2 dX11_isSlice_16
    · have c_2 := kn_lt (by decide : Int32.toInt 20 = 20) rfl c_2
      refine lv_iconst (v := 1) hx hb dX11_isSlice_11 (by decide) ?_
      refine lv_goto (tgt := 16) hx hb dX11_isSlice_12 (by decide) ?_
      exact W.zret (v := 1) hx hb hr rfl (fun t ht hW => ⟨⟨1, (), rfl, trivial, k_ret ht hI⟩, hS.F ht⟩) hS.2.2 dX11_isSlice_16
theorem tw_470 : q_g (.selects RX6 yX6_addTask yX6_addTask) := ⟨(List.mem_append_right _ (List.mem_of_getElem? (i := 456) (by decide +kernel))), good_of_word (by decide +kernel)⟩
theorem tw_471 : q_g (.instanceMethod yX6_addTask) := ⟨(List.mem_append_right _ (List.mem_of_getElem? (i := 455) (by decide +kernel))), good_of_word (by decide +kernel)⟩
theorem tw_472 : q_g (.methodLink RX11 126 yX6_addTask) := ⟨(List.mem_append_right _ (List.mem_of_getElem? (i := 454) (by decide +kernel))), good_of_word (by decide +kernel)⟩
theorem tw_473 : q_g (.initialized RX1) := ⟨(List.mem_append_right _ (List.mem_of_getElem? (i := 11) (by decide +kernel))), good_of_word (by decide +kernel)⟩
theorem tw_474 : q_g (.selects RX1 yX1_keep yX1_keep) := ⟨(List.mem_append_right _ (List.mem_of_getElem? (i := 425) (by decide +kernel))), good_of_word (by decide +kernel)⟩
theorem tw_475 : q_g (.instanceMethod yX1_keep) := ⟨(List.mem_append_right _ (List.mem_of_getElem? (i := 424) (by decide +kernel))), good_of_word (by decide +kernel)⟩
theorem tw_476 : q_g (.methodLink RX11 122 yX1_keep) := ⟨(List.mem_append_right _ (List.mem_of_getElem? (i := 423) (by decide +kernel))), good_of_word (by decide +kernel)⟩
theorem tw_477 : q_g (.fieldLink RX11 65 "DeadlineShare" "history" "LDeadlineShare$History;") := ⟨(List.mem_append_right _ (List.mem_of_getElem? (i := 329) (by decide +kernel))), good_of_word (by decide +kernel)⟩
theorem tw_478 : q_g (.fieldLink RX11 119 "DeadlineShare$State" "count" "I") := ⟨(List.mem_append_right _ (List.mem_of_getElem? (i := 237) (by decide +kernel))), good_of_word (by decide +kernel)⟩
theorem tw_479 : q_g (.fieldLink RX11 37 "DeadlineShare" "now" "LDeadlineShare$State;") := ⟨(List.mem_append_right _ (List.mem_of_getElem? (i := 323) (by decide +kernel))), good_of_word (by decide +kernel)⟩
theorem tw_480 : q_g (.static yX11_isSlice) := ⟨(List.mem_append_right _ (List.mem_of_getElem? (i := 421) (by decide +kernel))), good_of_word (by decide +kernel)⟩
theorem tw_481 : q_g (.methodLink RX11 116 yX11_isSlice) := ⟨(List.mem_append_right _ (List.mem_of_getElem? (i := 420) (by decide +kernel))), good_of_word (by decide +kernel)⟩
theorem tw_482 : q_g (.static yX11_isWeight) := ⟨(List.mem_append_right _ (List.mem_of_getElem? (i := 418) (by decide +kernel))), good_of_word (by decide +kernel)⟩
theorem tw_483 : q_g (.methodLink RX11 112 yX11_isWeight) := ⟨(List.mem_append_right _ (List.mem_of_getElem? (i := 417) (by decide +kernel))), good_of_word (by decide +kernel)⟩
theorem tw_484 : q_g (.code yX11_task cX11_task 3 (some .int)) := ⟨(List.mem_append_right _ (List.mem_of_getElem? (i := 416) (by decide +kernel))), good_of_word (by decide +kernel)⟩
def ow_c_X11_task : List Cond := [.methodLink RX11 112 yX11_isWeight, .static yX11_isWeight, .initialized RX11, .fieldLink RX11 72 "DeadlineShare" "refusals" "LDeadlineShare$Refusals;", .methodLink RX11 84 yX4_add, .instanceMethod yX4_add, .selects RX4 yX4_add yX4_add, .initialized RX4, .methodLink RX11 116 yX11_isSlice, .static yX11_isSlice, .fieldLink RX11 37 "DeadlineShare" "now" "LDeadlineShare$State;", .fieldLink RX11 119 "DeadlineShare$State" "count" "I", .fieldLink RX11 65 "DeadlineShare" "history" "LDeadlineShare$History;", .methodLink RX11 122 yX1_keep, .instanceMethod yX1_keep, .selects RX1 yX1_keep yX1_keep, .initialized RX1, .methodLink RX11 126 yX6_addTask, .instanceMethod yX6_addTask, .selects RX6 yX6_addTask yX6_addTask, .initialized RX6, .methodLink RX11 95 yX4_none, .instanceMethod yX4_none, .selects RX4 yX4_none yX4_none]
def wq_c_X11_task : List Cond := .code yX11_task cX11_task 3 (some .int) :: (ow_c_X11_task ++ (wq_c_X11_isWeight ++ (u_ws RX11 TX11 12 ++ (wq_c_X4_add ++ (wq_c_X11_isSlice ++ (u_ws RX6 TX6 10 ++ (wq_c_X1_keep ++ (wq_c_X6_addTask ++ (wq_c_X4_none ++ ([] : List Cond))))))))))
theorem tb_c_X11_task : ∀ w ∈ wq_c_X11_task, q_g w := by
  unfold wq_c_X11_task ow_c_X11_task
  exact q_cons tw_484 (q_app (q_cons tw_483 (q_cons tw_482 (q_cons tw_56 (q_cons tw_443 (q_cons tw_439 (q_cons tw_438 (q_cons tw_437 (q_cons tw_204 (q_cons tw_481 (q_cons tw_480 (q_cons tw_479 (q_cons tw_478 (q_cons tw_477 (q_cons tw_476 (q_cons tw_475 (q_cons tw_474 (q_cons tw_473 (q_cons tw_472 (q_cons tw_471 (q_cons tw_470 (q_cons tw_47 (q_cons tw_442 (q_cons tw_441 (q_cons tw_440 q_nil)))))))))))))))))))))))) (q_app tb_c_X11_isWeight (q_app tu_X11 (q_app tb_c_X4_add (q_app tb_c_X11_isSlice (q_app tu_X6 (q_app tb_c_X1_keep (q_app tb_c_X6_addTask (q_app tb_c_X4_none q_nil)))))))))
set_option maxHeartbeats 4000000 in
set_option maxRecDepth 100000 in
theorem c_X11_task (l : Launch) (dC : Nat → ClassId) (dI : Nat → Nat → Nat) (g : kG) (A : Nat → Prop) (hG : kWf g) (f : Nat → va_E) (h0 : Nat) (p1 : Int32) (p2 : Int32) (i_h0 : ik g 11 h0) : Met l yX11_task wq_c_X11_task ({ frames := 5, cells := 0, slots := 0, locals := 126 } : Room) (va_Pc [.ref h0, .int p1, .int p2] (fun U => kIn dC dI g A f U)) (va_Qi (fun (r : Int32) (_ : Unit) => True) (fun (_ : Unit) t => ∃ f1 : Nat → va_E, Iv dC dI g A f1 t.heap ∧ Kp g [1, 4, 5, 6, 8, 10, 23, 24, 27, 28] f f1) A) 0 0 A := by
  refine Met.ofW (cc := cX11_task) (maxL := 3) (ret := (some .int)) (by decide) rfl ?_
  intro p e s m args below meth c s₁ B hml hv
  obtain ⟨rfl, hI, hK, hE⟩ := hv
  have hx := B.exec
  have hb := B.bytes
  have hr := B.returns
  have hts := atoms_spec (ws := wq_c_X11_task) B.pre
  have hown : s.vm.findClass RX11 = some m.cls := findClass_of_methodNamed B.named
  have hlocks := B.notSynchronized
  have hS : va_S A s.heap s.heap [] := va_S.rf
  have hk0 : Kp g [1, 4, 5, 6, 8, 10, 23, 24, 27, 28] f f := Kp.rf
  have hl := lv_entry ([.ref h0, .int p1, .int p2]) (n := 3) (Nat.le_of_ble_eq_true rfl)
  rw [lg_entry_eq]
  generalize (lg_sl ([.ref h0, .int p1, .int p2]) ++ List.replicate (3 - (lg_sl ([.ref h0, .int p1, .int p2])).length) Slot.unset).toArray = ls at hl ⊢
  have hl : lv_has ls 3 [(0, .ref h0), (1, .int p1), (2, .int p2)] := hl
  refine lv_iload_n hx hb dX11_task_0 rfl (lv_at hl 1 rfl) ?_
  refine va_calli (va_runS (As := [.int p1]) (rest := []) ⟨hx, hb, hml, hown, hts⟩ (c_X11_isWeight l dC dI g A hG f p1) (va_cwS 1 hts (gi_S (fun w_ h0_ => ⟨List.mem_cons_of_mem _ (List.mem_append_right _ (List.mem_append_left _ h0_)), (tb_c_X11_isWeight w_ h0_).2⟩) (List.mem_cons_of_mem _ (List.mem_append_left _ (List.mem_of_getElem? (i := 0) rfl))) (List.mem_cons_of_mem _ (List.mem_append_left _ (List.mem_of_getElem? (i := 1) rfl))) (List.mem_cons_of_mem _ (List.mem_append_left _ (List.mem_of_getElem? (i := 2) rfl)))) rfl rfl rfl (by decide +kernel) ⟨Nat.le_of_ble_eq_true rfl, Nat.le_of_ble_eq_true rfl⟩) ⟨fun a U g mk q => ⟨q.1, q.2.calling rfl rfl⟩, fun U hU hW => ⟨rfl, kIn.of hI hK hE hS hU hW⟩⟩ rfl rfl hl.1 rfl (lv_room (Nat.le_of_ble_eq_true rfl)) dX11_task_1 ⟨Nat.le_of_ble_eq_true rfl, Nat.le_of_ble_eq_true rfl⟩) hS (fun q _ h => h) (fun q h => h) (fun r_2 u t H1 locs ht hvm w_1 hB hz1 hk1 hS => ?_)
  have hI : Iv dC dI g A f t.heap := hB
  rw [ht] at hI
  generalize H1 = H at hI hS ⊢
  refine W.widen (k := 0) (n := 0) (Nat.le_of_ble_eq_true rfl) (Nat.le_of_ble_eq_true rfl) ?_
  have J_14 : ∀ (H : Heap) (locs : List Loc) (ls : Array Slot), Iv dC dI g A f H → va_S A s.heap H locs → lv_has ls 3 [(0, .ref h0), (1, .int p1), (2, .int p2)] → W p l e (headSpec wq_c_X11_task ({ frames := 5, cells := 0, slots := 0, locals := 126 } : Room)).room s m ([.ref h0, .int p1, .int p2].toArray) below meth c H locs 0 0 (MQ below (va_Qi (fun (r : Int32) (_ : Unit) => True) (fun (_ : Unit) t => ∃ f1 : Nat → va_E, Iv dC dI g A f1 t.heap ∧ Kp g [1, 4, 5, 6, 8, 10, 23, 24, 27, 28] f f1) A) ([.ref h0, .int p1, .int p2].toArray) s 0 0 A) (F0 m 14 ls []) := by
    intro H locs ls hI hS  hl
    refine lv_aload_n hx hb dX11_task_14 rfl (lv_at hl 0 rfl) ?_
    obtain ⟨x_4, k_3⟩ := op_11 hI i_h0
    refine k_get (ci := 11) (v := .ref (gr g h0 10)) (C := RX11) (T := TX11) (N := 12) hx hb hts (fun _ h0_ => List.mem_cons_of_mem _ (List.mem_append_right _ (List.mem_append_right _ (List.mem_append_left _ h0_)))) hown hK hI i_h0.1 k_3 rfl 10 (by decide) (hts (.fieldLink RX11 72 "DeadlineShare" "refusals" "LDeadlineShare$Refusals;") (List.mem_cons_of_mem _ (List.mem_append_left _ (List.mem_of_getElem? (i := 3) rfl)))) (fun _ h9 => h9) rfl dX11_task_15 ?_
    have i_6 := kw_11_10 hG i_h0
    refine lv_iconst (v := (-1)) hx hb dX11_task_18 (by decide) ?_
    obtain ⟨x_8, k_7⟩ := op_4 hI i_6
    refine va_calli (va_runV (As := [.int (-1)]) (rest := []) ⟨hx, hb, hml, hown, hts⟩ (c_X4_add l dC dI g A hG f (gr g h0 10) (-1) i_6) (cwV 1 hts (gi_V (fun w_ h0_ => ⟨List.mem_cons_of_mem _ (List.mem_append_right _ (List.mem_append_right _ (List.mem_append_right _ (List.mem_append_left _ h0_)))), (tb_c_X4_add w_ h0_).2⟩) (List.mem_cons_of_mem _ (List.mem_append_left _ (List.mem_of_getElem? (i := 4) rfl))) (List.mem_cons_of_mem _ (List.mem_append_left _ (List.mem_of_getElem? (i := 5) rfl))) (List.mem_cons_of_mem _ (List.mem_append_left _ (List.mem_of_getElem? (i := 6) rfl))) (List.mem_cons_of_mem _ (List.mem_append_left _ (List.mem_of_getElem? (i := 7) rfl)))) rfl rfl rfl (by decide +kernel) ⟨Nat.le_of_ble_eq_true rfl, Nat.le_of_ble_eq_true rfl⟩) ⟨fun a U g mk q => ⟨q.1, q.2.calling rfl rfl⟩, k_recv hK hI i_6.1 k_7 (ci := 4) rfl, fun U hU hW => ⟨rfl, kIn.of hI hK hE hS hU hW⟩⟩ rfl rfl hl.1 rfl (lv_room (Nat.le_of_ble_eq_true rfl)) dX11_task_19 ⟨Nat.le_of_ble_eq_true rfl, Nat.le_of_ble_eq_true rfl⟩) hS (fun q _ h => h) (fun q h => h) (fun r_11 u t H1 locs ht hvm w_10 hB hz1 hk1 hS => ?_)
    obtain ⟨f_9, hI, kc_12⟩ := hB
    rw [ht] at hI
    have k_14 : f_9 h0 = .inr (11, [.ref (gr g h0 0), .ref (gr g h0 1), .ref (gr g h0 2), .ref (gr g h0 3), .ref (gr g h0 4), .ref (gr g h0 5), .ref (gr g h0 6), .ref (gr g h0 7), .ref (gr g h0 8), .ref (gr g h0 9), .ref (gr g h0 10), .int x_4]) := Kp.at kc_12 i_h0 (by decide) k_3
    have kp_15 := Kp.call hk0 kc_12 (by decide)
    generalize H1 = H at hI hS ⊢
    refine W.widen (k := 0) (n := 0) (Nat.le_of_ble_eq_true rfl) (Nat.le_of_ble_eq_true rfl) ?_
    exact W.iret (v := r_11) hx hb hr (fun t ht hW => ⟨⟨r_11, (), rfl, trivial, ⟨f_9, k_ret ht hI, kp_15⟩⟩, hS.F ht⟩) hS.2.2 dX11_task_22
  refine lv_if_eq (tgt := 14) hx hb dX11_task_4 (by decide) (fun c_16 => ?_) (fun c_16 => ?_)
  · have c_16 := kc_eq rfl (by decide : Int32.toInt 0 = 0) c_16
    exact J_14  _ _ _ hI hS  (lv_sub hl [0, 1, 2] rfl)
  · have c_16 := kn_eq rfl (by decide : Int32.toInt 0 = 0) c_16
    refine lv_iload_n hx hb dX11_task_7 rfl (lv_at hl 2 rfl) ?_
    refine va_calli (va_runS (As := [.int p2]) (rest := []) ⟨hx, hb, hml, hown, hts⟩ (c_X11_isSlice l dC dI g A hG f p2) (va_cwS 1 hts (gi_S (fun w_ h0_ => ⟨List.mem_cons_of_mem _ (List.mem_append_right _ (List.mem_append_right _ (List.mem_append_right _ (List.mem_append_right _ (List.mem_append_left _ h0_))))), (tb_c_X11_isSlice w_ h0_).2⟩) (List.mem_cons_of_mem _ (List.mem_append_left _ (List.mem_of_getElem? (i := 8) rfl))) (List.mem_cons_of_mem _ (List.mem_append_left _ (List.mem_of_getElem? (i := 9) rfl))) (List.mem_cons_of_mem _ (List.mem_append_left _ (List.mem_of_getElem? (i := 2) rfl)))) rfl rfl rfl (by decide +kernel) ⟨Nat.le_of_ble_eq_true rfl, Nat.le_of_ble_eq_true rfl⟩) ⟨fun a U g mk q => ⟨q.1, q.2.calling rfl rfl⟩, fun U hU hW => ⟨rfl, kIn.of hI hK hE hS hU hW⟩⟩ rfl rfl hl.1 rfl (lv_room (Nat.le_of_ble_eq_true rfl)) dX11_task_8 ⟨Nat.le_of_ble_eq_true rfl, Nat.le_of_ble_eq_true rfl⟩) hS (fun q _ h => h) (fun q h => h) (fun r_18 u t H1 locs ht hvm w_17 hB hz1 hk1 hS => ?_)
    have hI : Iv dC dI g A f t.heap := hB
    rw [ht] at hI
    generalize H1 = H at hI hS ⊢
    refine W.widen (k := 0) (n := 0) (Nat.le_of_ble_eq_true rfl) (Nat.le_of_ble_eq_true rfl) ?_
    refine lv_if_ne (tgt := 23) hx hb dX11_task_11 (by decide) (fun c_19 => ?_) (fun c_19 => ?_)
    · have c_19 := kn_eq rfl (by decide : Int32.toInt 0 = 0) c_19
      refine lv_aload_n hx hb dX11_task_23 rfl (lv_at hl 0 rfl) ?_
      obtain ⟨x_21, k_20⟩ := op_11 hI i_h0
      refine k_get (ci := 11) (v := .ref (gr g h0 3)) (C := RX11) (T := TX11) (N := 12) hx hb hts (fun _ h0_ => List.mem_cons_of_mem _ (List.mem_append_right _ (List.mem_append_right _ (List.mem_append_left _ h0_)))) hown hK hI i_h0.1 k_20 rfl 3 (by decide) (hts (.fieldLink RX11 37 "DeadlineShare" "now" "LDeadlineShare$State;") (List.mem_cons_of_mem _ (List.mem_append_left _ (List.mem_of_getElem? (i := 10) rfl)))) (fun _ h9 => h9) rfl dX11_task_24 ?_
      have i_23 := kw_11_3 hG i_h0
      obtain ⟨x_25, x_26, x_27, x_28, x_29, k_24, b_30, b_31⟩ := op_6 hI i_23
      refine k_get (ci := 6) (v := .int x_25) (C := RX6) (T := TX6) (N := 10) hx hb hts (fun _ h0_ => List.mem_cons_of_mem _ (List.mem_append_right _ (List.mem_append_right _ (List.mem_append_right _ (List.mem_append_right _ (List.mem_append_right _ (List.mem_append_left _ h0_))))))) hown hK hI i_23.1 k_24 rfl 5 (by decide) (hts (.fieldLink RX11 119 "DeadlineShare$State" "count" "I") (List.mem_cons_of_mem _ (List.mem_append_left _ (List.mem_of_getElem? (i := 11) rfl)))) (fun _ h9 => h9) rfl dX11_task_27 ?_
      refine lv_bipush (v := 12) hx hb dX11_task_30 (by decide) ?_
      refine lv_icmp_lt (tgt := 45) hx hb dX11_task_32 (by decide) (fun c_32 => ?_) (fun c_32 => ?_)
      · have c_32 := kc_lt rfl (by decide : Int32.toInt 12 = 12) c_32
        refine lv_aload_n hx hb dX11_task_45 rfl (lv_at hl 0 rfl) ?_
        refine k_get (ci := 11) (v := .ref (gr g h0 9)) (C := RX11) (T := TX11) (N := 12) hx hb hts (fun _ h0_ => List.mem_cons_of_mem _ (List.mem_append_right _ (List.mem_append_right _ (List.mem_append_left _ h0_)))) hown hK hI i_h0.1 k_20 rfl 9 (by decide) (hts (.fieldLink RX11 65 "DeadlineShare" "history" "LDeadlineShare$History;") (List.mem_cons_of_mem _ (List.mem_append_left _ (List.mem_of_getElem? (i := 12) rfl)))) (fun _ h9 => h9) rfl dX11_task_46 ?_
        have i_34 := kw_11_9 hG i_h0
        refine lv_aload_n hx hb dX11_task_49 rfl (lv_at hl 0 rfl) ?_
        refine k_get (ci := 11) (v := .ref (gr g h0 3)) (C := RX11) (T := TX11) (N := 12) hx hb hts (fun _ h0_ => List.mem_cons_of_mem _ (List.mem_append_right _ (List.mem_append_right _ (List.mem_append_left _ h0_)))) hown hK hI i_h0.1 k_20 rfl 3 (by decide) (hts (.fieldLink RX11 37 "DeadlineShare" "now" "LDeadlineShare$State;") (List.mem_cons_of_mem _ (List.mem_append_left _ (List.mem_of_getElem? (i := 10) rfl)))) (fun _ h9 => h9) rfl dX11_task_50 ?_
        refine lv_iconst (v := 0) hx hb dX11_task_53 (by decide) ?_
        obtain ⟨x_38, x_39, k_37⟩ := op_1 hI i_34
        refine va_callv (va_runV (As := [.ref (gr g h0 3), .int 0]) (rest := []) ⟨hx, hb, hml, hown, hts⟩ (c_X1_keep l dC dI g A hG f (gr g h0 9) (gr g h0 3) 0 i_34 i_23) (cwV 2 hts (gi_V (fun w_ h0_ => ⟨List.mem_cons_of_mem _ (List.mem_append_right _ (List.mem_append_right _ (List.mem_append_right _ (List.mem_append_right _ (List.mem_append_right _ (List.mem_append_right _ (List.mem_append_left _ h0_))))))), (tb_c_X1_keep w_ h0_).2⟩) (List.mem_cons_of_mem _ (List.mem_append_left _ (List.mem_of_getElem? (i := 13) rfl))) (List.mem_cons_of_mem _ (List.mem_append_left _ (List.mem_of_getElem? (i := 14) rfl))) (List.mem_cons_of_mem _ (List.mem_append_left _ (List.mem_of_getElem? (i := 15) rfl))) (List.mem_cons_of_mem _ (List.mem_append_left _ (List.mem_of_getElem? (i := 16) rfl)))) rfl rfl rfl (by decide +kernel) ⟨Nat.le_of_ble_eq_true rfl, Nat.le_of_ble_eq_true rfl⟩) ⟨fun a U g mk q => ⟨q.1, q.2.calling rfl rfl⟩, k_recv hK hI i_34.1 k_37 (ci := 1) rfl, fun U hU hW => ⟨rfl, kIn.of hI hK hE hS hU hW⟩⟩ rfl rfl hl.1 rfl (lv_room (Nat.le_of_ble_eq_true rfl)) dX11_task_54 ⟨Nat.le_of_ble_eq_true rfl, Nat.le_of_ble_eq_true rfl⟩) hS (fun q _ h => h) (fun q h => h) (fun u t H1 locs ht hvm _ hB hz1 hk1 hS => ?_)
        obtain ⟨f_40, hI, kc_42⟩ := hB
        rw [ht] at hI
        have k_44 : f_40 h0 = .inr (11, [.ref (gr g h0 0), .ref (gr g h0 1), .ref (gr g h0 2), .ref (gr g h0 3), .ref (gr g h0 4), .ref (gr g h0 5), .ref (gr g h0 6), .ref (gr g h0 7), .ref (gr g h0 8), .ref (gr g h0 9), .ref (gr g h0 10), .int x_21]) := Kp.at kc_42 i_h0 (by decide) k_20
        have kp_45 := Kp.call hk0 kc_42 (by decide)
        generalize H1 = H at hI hS ⊢
        refine W.widen (k := 0) (n := 0) (Nat.le_of_ble_eq_true rfl) (Nat.le_of_ble_eq_true rfl) ?_
        refine lv_aload_n hx hb dX11_task_57 rfl (lv_at hl 0 rfl) ?_
        refine k_get (ci := 11) (v := .ref (gr g h0 10)) (C := RX11) (T := TX11) (N := 12) hx hb hts (fun _ h0_ => List.mem_cons_of_mem _ (List.mem_append_right _ (List.mem_append_right _ (List.mem_append_left _ h0_)))) hown hK hI i_h0.1 k_44 rfl 10 (by decide) (hts (.fieldLink RX11 72 "DeadlineShare" "refusals" "LDeadlineShare$Refusals;") (List.mem_cons_of_mem _ (List.mem_append_left _ (List.mem_of_getElem? (i := 3) rfl)))) (fun _ h9 => h9) rfl dX11_task_58 ?_
        have i_47 := kw_11_10 hG i_h0
        refine lv_aload_n hx hb dX11_task_61 rfl (lv_at hl 0 rfl) ?_
        refine k_get (ci := 11) (v := .ref (gr g h0 3)) (C := RX11) (T := TX11) (N := 12) hx hb hts (fun _ h0_ => List.mem_cons_of_mem _ (List.mem_append_right _ (List.mem_append_right _ (List.mem_append_left _ h0_)))) hown hK hI i_h0.1 k_44 rfl 3 (by decide) (hts (.fieldLink RX11 37 "DeadlineShare" "now" "LDeadlineShare$State;") (List.mem_cons_of_mem _ (List.mem_append_left _ (List.mem_of_getElem? (i := 10) rfl)))) (fun _ h9 => h9) rfl dX11_task_62 ?_
        refine lv_iload_n hx hb dX11_task_65 rfl (lv_at hl 1 rfl) ?_
        refine lv_iload_n hx hb dX11_task_66 rfl (lv_at hl 2 rfl) ?_
        obtain ⟨x_51, x_52, x_53, x_54, x_55, k_50, b_56, b_57⟩ := op_6 hI i_23
        refine va_calli (va_runV (As := [.int p1, .int p2]) (rest := [.ref (gr g h0 10)]) ⟨hx, hb, hml, hown, hts⟩ (c_X6_addTask l dC dI g A hG f_40 (gr g h0 3) p1 p2 i_23) (cwV 2 hts (gi_V (fun w_ h0_ => ⟨List.mem_cons_of_mem _ (List.mem_append_right _ (List.mem_append_right _ (List.mem_append_right _ (List.mem_append_right _ (List.mem_append_right _ (List.mem_append_right _ (List.mem_append_right _ (List.mem_append_left _ h0_)))))))), (tb_c_X6_addTask w_ h0_).2⟩) (List.mem_cons_of_mem _ (List.mem_append_left _ (List.mem_of_getElem? (i := 17) rfl))) (List.mem_cons_of_mem _ (List.mem_append_left _ (List.mem_of_getElem? (i := 18) rfl))) (List.mem_cons_of_mem _ (List.mem_append_left _ (List.mem_of_getElem? (i := 19) rfl))) (List.mem_cons_of_mem _ (List.mem_append_left _ (List.mem_of_getElem? (i := 20) rfl)))) rfl rfl rfl (by decide +kernel) ⟨Nat.le_of_ble_eq_true rfl, Nat.le_of_ble_eq_true rfl⟩) ⟨fun a U g mk q => ⟨q.1, q.2.calling rfl rfl⟩, k_recv hK hI i_23.1 k_50 (ci := 6) rfl, fun U hU hW => ⟨rfl, kIn.of hI hK hE hS hU hW⟩⟩ rfl rfl hl.1 rfl (lv_room (Nat.le_of_ble_eq_true rfl)) dX11_task_67 ⟨Nat.le_of_ble_eq_true rfl, Nat.le_of_ble_eq_true rfl⟩) hS (fun q _ h => h) (fun q h => h) (fun r_60 u t H1 locs ht hvm w_59 hB hz1 hk1 hS => ?_)
        obtain ⟨f_58, hI, kc_61⟩ := hB
        rw [ht] at hI
        have k_63 : f_58 h0 = .inr (11, [.ref (gr g h0 0), .ref (gr g h0 1), .ref (gr g h0 2), .ref (gr g h0 3), .ref (gr g h0 4), .ref (gr g h0 5), .ref (gr g h0 6), .ref (gr g h0 7), .ref (gr g h0 8), .ref (gr g h0 9), .ref (gr g h0 10), .int x_21]) := Kp.at kc_61 i_h0 (by decide) k_44
        have kp_64 := Kp.call kp_45 kc_61 (by decide)
        generalize H1 = H at hI hS ⊢
        refine W.widen (k := 0) (n := 0) (Nat.le_of_ble_eq_true rfl) (Nat.le_of_ble_eq_true rfl) ?_
        obtain ⟨x_66, k_65⟩ := op_4 hI i_47
        refine va_calli (va_runV (As := [.int r_60]) (rest := []) ⟨hx, hb, hml, hown, hts⟩ (c_X4_none l dC dI g A hG f_58 (gr g h0 10) r_60 i_47) (cwV 1 hts (gi_V (fun w_ h0_ => ⟨List.mem_cons_of_mem _ (List.mem_append_right _ (List.mem_append_right _ (List.mem_append_right _ (List.mem_append_right _ (List.mem_append_right _ (List.mem_append_right _ (List.mem_append_right _ (List.mem_append_right _ (List.mem_append_left _ h0_))))))))), (tb_c_X4_none w_ h0_).2⟩) (List.mem_cons_of_mem _ (List.mem_append_left _ (List.mem_of_getElem? (i := 21) rfl))) (List.mem_cons_of_mem _ (List.mem_append_left _ (List.mem_of_getElem? (i := 22) rfl))) (List.mem_cons_of_mem _ (List.mem_append_left _ (List.mem_of_getElem? (i := 23) rfl))) (List.mem_cons_of_mem _ (List.mem_append_left _ (List.mem_of_getElem? (i := 7) rfl)))) rfl rfl rfl (by decide +kernel) ⟨Nat.le_of_ble_eq_true rfl, Nat.le_of_ble_eq_true rfl⟩) ⟨fun a U g mk q => ⟨q.1, q.2.calling rfl rfl⟩, k_recv hK hI i_47.1 k_65 (ci := 4) rfl, fun U hU hW => ⟨rfl, kIn.of hI hK hE hS hU hW⟩⟩ rfl rfl hl.1 rfl (lv_room (Nat.le_of_ble_eq_true rfl)) dX11_task_70 ⟨Nat.le_of_ble_eq_true rfl, Nat.le_of_ble_eq_true rfl⟩) hS (fun q _ h => h) (fun q h => h) (fun r_69 u t H1 locs ht hvm w_68 hB hz1 hk1 hS => ?_)
        obtain ⟨f_67, hI, kc_70⟩ := hB
        rw [ht] at hI
        have k_72 : f_67 h0 = .inr (11, [.ref (gr g h0 0), .ref (gr g h0 1), .ref (gr g h0 2), .ref (gr g h0 3), .ref (gr g h0 4), .ref (gr g h0 5), .ref (gr g h0 6), .ref (gr g h0 7), .ref (gr g h0 8), .ref (gr g h0 9), .ref (gr g h0 10), .int x_21]) := Kp.at kc_70 i_h0 (by decide) k_63
        have kp_73 := Kp.call kp_64 kc_70 (by decide)
        generalize H1 = H at hI hS ⊢
        refine W.widen (k := 0) (n := 0) (Nat.le_of_ble_eq_true rfl) (Nat.le_of_ble_eq_true rfl) ?_
        exact W.iret (v := r_69) hx hb hr (fun t ht hW => ⟨⟨r_69, (), rfl, trivial, ⟨f_67, k_ret ht hI, kp_73⟩⟩, hS.F ht⟩) hS.2.2 dX11_task_73
      · have c_32 := kn_lt rfl (by decide : Int32.toInt 12 = 12) c_32
        refine lv_aload_n hx hb dX11_task_35 rfl (lv_at hl 0 rfl) ?_
        refine k_get (ci := 11) (v := .ref (gr g h0 10)) (C := RX11) (T := TX11) (N := 12) hx hb hts (fun _ h0_ => List.mem_cons_of_mem _ (List.mem_append_right _ (List.mem_append_right _ (List.mem_append_left _ h0_)))) hown hK hI i_h0.1 k_20 rfl 10 (by decide) (hts (.fieldLink RX11 72 "DeadlineShare" "refusals" "LDeadlineShare$Refusals;") (List.mem_cons_of_mem _ (List.mem_append_left _ (List.mem_of_getElem? (i := 3) rfl)))) (fun _ h9 => h9) rfl dX11_task_36 ?_
        have i_75 := kw_11_10 hG i_h0
        refine lv_bipush (v := (-5)) hx hb dX11_task_39 (by decide) ?_
        obtain ⟨x_77, k_76⟩ := op_4 hI i_75
        refine va_calli (va_runV (As := [.int (-5)]) (rest := []) ⟨hx, hb, hml, hown, hts⟩ (c_X4_add l dC dI g A hG f (gr g h0 10) (-5) i_75) (cwV 1 hts (gi_V (fun w_ h0_ => ⟨List.mem_cons_of_mem _ (List.mem_append_right _ (List.mem_append_right _ (List.mem_append_right _ (List.mem_append_left _ h0_)))), (tb_c_X4_add w_ h0_).2⟩) (List.mem_cons_of_mem _ (List.mem_append_left _ (List.mem_of_getElem? (i := 4) rfl))) (List.mem_cons_of_mem _ (List.mem_append_left _ (List.mem_of_getElem? (i := 5) rfl))) (List.mem_cons_of_mem _ (List.mem_append_left _ (List.mem_of_getElem? (i := 6) rfl))) (List.mem_cons_of_mem _ (List.mem_append_left _ (List.mem_of_getElem? (i := 7) rfl)))) rfl rfl rfl (by decide +kernel) ⟨Nat.le_of_ble_eq_true rfl, Nat.le_of_ble_eq_true rfl⟩) ⟨fun a U g mk q => ⟨q.1, q.2.calling rfl rfl⟩, k_recv hK hI i_75.1 k_76 (ci := 4) rfl, fun U hU hW => ⟨rfl, kIn.of hI hK hE hS hU hW⟩⟩ rfl rfl hl.1 rfl (lv_room (Nat.le_of_ble_eq_true rfl)) dX11_task_41 ⟨Nat.le_of_ble_eq_true rfl, Nat.le_of_ble_eq_true rfl⟩) hS (fun q _ h => h) (fun q h => h) (fun r_80 u t H1 locs ht hvm w_79 hB hz1 hk1 hS => ?_)
        obtain ⟨f_78, hI, kc_81⟩ := hB
        rw [ht] at hI
        have k_83 : f_78 h0 = .inr (11, [.ref (gr g h0 0), .ref (gr g h0 1), .ref (gr g h0 2), .ref (gr g h0 3), .ref (gr g h0 4), .ref (gr g h0 5), .ref (gr g h0 6), .ref (gr g h0 7), .ref (gr g h0 8), .ref (gr g h0 9), .ref (gr g h0 10), .int x_21]) := Kp.at kc_81 i_h0 (by decide) k_20
        have k_84 : f_78 (gr g h0 3) = .inr (6, [.ref (gr g (gr g h0 3) 0), .ref (gr g (gr g h0 3) 1), .ref (gr g (gr g h0 3) 2), .ref (gr g (gr g h0 3) 3), .ref (gr g (gr g h0 3) 4), .int x_25, .int x_26, .long x_27, .int x_28, .int x_29]) := Kp.at kc_81 i_23 (by decide) k_24
        have kp_85 := Kp.call hk0 kc_81 (by decide)
        generalize H1 = H at hI hS ⊢
        refine W.widen (k := 0) (n := 0) (Nat.le_of_ble_eq_true rfl) (Nat.le_of_ble_eq_true rfl) ?_
        exact W.iret (v := r_80) hx hb hr (fun t ht hW => ⟨⟨r_80, (), rfl, trivial, ⟨f_78, k_ret ht hI, kp_85⟩⟩, hS.F ht⟩) hS.2.2 dX11_task_44
    · have c_19 := kc_eq rfl (by decide : Int32.toInt 0 = 0) c_19
      exact J_14  _ _ _ hI hS  (lv_sub hl [0, 1, 2] rfl)
theorem tw_485 : q_g (.methodLink RX11 155 yX6_weightOfAll) := ⟨(List.mem_append_right _ (List.mem_of_getElem? (i := 545) (by decide +kernel))), good_of_word (by decide +kernel)⟩
theorem tw_486 : q_g (.methodLink RX11 151 yX6_enter) := ⟨(List.mem_append_right _ (List.mem_of_getElem? (i := 495) (by decide +kernel))), good_of_word (by decide +kernel)⟩
theorem tw_487 : q_g (.methodLink RX11 148 yX6_hasRoomFor) := ⟨(List.mem_append_right _ (List.mem_of_getElem? (i := 487) (by decide +kernel))), good_of_word (by decide +kernel)⟩
theorem tw_488 : q_g (.fieldLink RX11 145 "DeadlineShare$Task" "weight" "I") := ⟨(List.mem_append_right _ (List.mem_of_getElem? (i := 156) (by decide +kernel))), good_of_word (by decide +kernel)⟩
theorem tw_489 : q_g (.methodLink RX11 142 yX8_isSpent) := ⟨(List.mem_append_right _ (List.mem_of_getElem? (i := 483) (by decide +kernel))), good_of_word (by decide +kernel)⟩
theorem tw_490 : q_g (.fieldLink RX11 137 "DeadlineShare$Task" "state" "I") := ⟨(List.mem_append_right _ (List.mem_of_getElem? (i := 162) (by decide +kernel))), good_of_word (by decide +kernel)⟩
theorem tw_491 : q_g (.fieldLink RX11 133 "DeadlineShare$State" "tasks" "[LDeadlineShare$Task;") := ⟨(List.mem_append_right _ (List.mem_of_getElem? (i := 231) (by decide +kernel))), good_of_word (by decide +kernel)⟩
theorem tw_492 : q_g (.methodLink RX11 130 yX6_has) := ⟨(List.mem_append_right _ (List.mem_of_getElem? (i := 479) (by decide +kernel))), good_of_word (by decide +kernel)⟩
theorem tw_493 : q_g (.code yX11_join cX11_join 3 (some .int)) := ⟨(List.mem_append_right _ (List.mem_of_getElem? (i := 478) (by decide +kernel))), good_of_word (by decide +kernel)⟩
def ow_c_X11_join : List Cond := [.fieldLink RX11 37 "DeadlineShare" "now" "LDeadlineShare$State;", .methodLink RX11 130 yX6_has, .instanceMethod yX6_has, .selects RX6 yX6_has yX6_has, .initialized RX6, .fieldLink RX11 133 "DeadlineShare$State" "tasks" "[LDeadlineShare$Task;", .fieldLink RX11 137 "DeadlineShare$Task" "state" "I", .fieldLink RX11 72 "DeadlineShare" "refusals" "LDeadlineShare$Refusals;", .methodLink RX11 84 yX4_add, .instanceMethod yX4_add, .selects RX4 yX4_add yX4_add, .initialized RX4, .methodLink RX11 142 yX8_isSpent, .instanceMethod yX8_isSpent, .selects RX8 yX8_isSpent yX8_isSpent, .initialized RX8, .fieldLink RX11 145 "DeadlineShare$Task" "weight" "I", .methodLink RX11 148 yX6_hasRoomFor, .instanceMethod yX6_hasRoomFor, .selects RX6 yX6_hasRoomFor yX6_hasRoomFor, .fieldLink RX11 65 "DeadlineShare" "history" "LDeadlineShare$History;", .methodLink RX11 122 yX1_keep, .instanceMethod yX1_keep, .selects RX1 yX1_keep yX1_keep, .initialized RX1, .methodLink RX11 151 yX6_enter, .instanceMethod yX6_enter, .selects RX6 yX6_enter yX6_enter, .methodLink RX11 155 yX6_weightOfAll, .instanceMethod yX6_weightOfAll, .selects RX6 yX6_weightOfAll yX6_weightOfAll, .methodLink RX11 95 yX4_none, .instanceMethod yX4_none, .selects RX4 yX4_none yX4_none]
def wq_c_X11_join : List Cond := .code yX11_join cX11_join 3 (some .int) :: (ow_c_X11_join ++ (u_ws RX11 TX11 12 ++ (wq_c_X6_has ++ (u_ws RX6 TX6 10 ++ (u_ws RX8 TX8 18 ++ (wq_c_X4_add ++ (wq_c_X8_isSpent ++ (wq_c_X6_hasRoomFor ++ (wq_c_X1_keep ++ (wq_c_X6_enter ++ (wq_c_X6_weightOfAll ++ (wq_c_X4_none ++ ([] : List Cond)))))))))))))
theorem tb_c_X11_join : ∀ w ∈ wq_c_X11_join, q_g w := by
  unfold wq_c_X11_join ow_c_X11_join
  exact q_cons tw_493 (q_app (q_cons tw_479 (q_cons tw_492 (q_cons tw_74 (q_cons tw_73 (q_cons tw_47 (q_cons tw_491 (q_cons tw_490 (q_cons tw_443 (q_cons tw_439 (q_cons tw_438 (q_cons tw_437 (q_cons tw_204 (q_cons tw_489 (q_cons tw_360 (q_cons tw_359 (q_cons tw_8 (q_cons tw_488 (q_cons tw_487 (q_cons tw_357 (q_cons tw_356 (q_cons tw_477 (q_cons tw_476 (q_cons tw_475 (q_cons tw_474 (q_cons tw_473 (q_cons tw_486 (q_cons tw_354 (q_cons tw_353 (q_cons tw_485 (q_cons tw_88 (q_cons tw_87 (q_cons tw_442 (q_cons tw_441 (q_cons tw_440 q_nil)))))))))))))))))))))))))))))))))) (q_app tu_X11 (q_app tb_c_X6_has (q_app tu_X6 (q_app tu_X8 (q_app tb_c_X4_add (q_app tb_c_X8_isSpent (q_app tb_c_X6_hasRoomFor (q_app tb_c_X1_keep (q_app tb_c_X6_enter (q_app tb_c_X6_weightOfAll (q_app tb_c_X4_none q_nil))))))))))))
set_option maxHeartbeats 4000000 in
set_option maxRecDepth 100000 in
theorem c_X11_join (l : Launch) (dC : Nat → ClassId) (dI : Nat → Nat → Nat) (g : kG) (A : Nat → Prop) (hG : kWf g) (f : Nat → va_E) (h0 : Nat) (p1 : Int32) (i_h0 : ik g 11 h0) : Met l yX11_join wq_c_X11_join ({ frames := 5, cells := 0, slots := 0, locals := 126 } : Room) (va_Pc [.ref h0, .int p1] (fun U => kIn dC dI g A f U)) (va_Qi (fun (r : Int32) (_ : Unit) => True) (fun (_ : Unit) t => ∃ f1 : Nat → va_E, Iv dC dI g A f1 t.heap ∧ Kp g [1, 4, 5, 6, 8, 10, 23, 24, 27, 28] f f1) A) 0 0 A := by
  refine Met.ofW (cc := cX11_join) (maxL := 3) (ret := (some .int)) (by decide) rfl ?_
  intro p e s m args below meth c s₁ B hml hv
  obtain ⟨rfl, hI, hK, hE⟩ := hv
  have hx := B.exec
  have hb := B.bytes
  have hr := B.returns
  have hts := atoms_spec (ws := wq_c_X11_join) B.pre
  have hown : s.vm.findClass RX11 = some m.cls := findClass_of_methodNamed B.named
  have hlocks := B.notSynchronized
  have hS : va_S A s.heap s.heap [] := va_S.rf
  have hk0 : Kp g [1, 4, 5, 6, 8, 10, 23, 24, 27, 28] f f := Kp.rf
  have hl := lv_entry ([.ref h0, .int p1]) (n := 3) (Nat.le_of_ble_eq_true rfl)
  rw [lg_entry_eq]
  generalize (lg_sl ([.ref h0, .int p1]) ++ List.replicate (3 - (lg_sl ([.ref h0, .int p1])).length) Slot.unset).toArray = ls at hl ⊢
  have hl : lv_has ls 3 [(0, .ref h0), (1, .int p1)] := hl
  refine lv_aload_n hx hb dX11_join_0 rfl (lv_at hl 0 rfl) ?_
  obtain ⟨x_2, k_1⟩ := op_11 hI i_h0
  refine k_get (ci := 11) (v := .ref (gr g h0 3)) (C := RX11) (T := TX11) (N := 12) hx hb hts (fun _ h0_ => List.mem_cons_of_mem _ (List.mem_append_right _ (List.mem_append_left _ h0_))) hown hK hI i_h0.1 k_1 rfl 3 (by decide) (hts (.fieldLink RX11 37 "DeadlineShare" "now" "LDeadlineShare$State;") (List.mem_cons_of_mem _ (List.mem_append_left _ (List.mem_of_getElem? (i := 0) rfl)))) (fun _ h9 => h9) rfl dX11_join_1 ?_
  have i_4 := kw_11_3 hG i_h0
  refine lv_iload_n hx hb dX11_join_4 rfl (lv_at hl 1 rfl) ?_
  obtain ⟨x_6, x_7, x_8, x_9, x_10, k_5, b_11, b_12⟩ := op_6 hI i_4
  refine va_calli (va_runV (As := [.int p1]) (rest := []) ⟨hx, hb, hml, hown, hts⟩ (c_X6_has l dC dI g A hG f (gr g h0 3) p1 i_4) (cwV 1 hts (gi_V (fun w_ h0_ => ⟨List.mem_cons_of_mem _ (List.mem_append_right _ (List.mem_append_right _ (List.mem_append_left _ h0_))), (tb_c_X6_has w_ h0_).2⟩) (List.mem_cons_of_mem _ (List.mem_append_left _ (List.mem_of_getElem? (i := 1) rfl))) (List.mem_cons_of_mem _ (List.mem_append_left _ (List.mem_of_getElem? (i := 2) rfl))) (List.mem_cons_of_mem _ (List.mem_append_left _ (List.mem_of_getElem? (i := 3) rfl))) (List.mem_cons_of_mem _ (List.mem_append_left _ (List.mem_of_getElem? (i := 4) rfl)))) rfl rfl rfl (by decide +kernel) ⟨Nat.le_of_ble_eq_true rfl, Nat.le_of_ble_eq_true rfl⟩) ⟨fun a U g mk q => ⟨q.1, q.2.calling rfl rfl⟩, k_recv hK hI i_4.1 k_5 (ci := 6) rfl, fun U hU hW => ⟨rfl, kIn.of hI hK hE hS hU hW⟩⟩ rfl rfl hl.1 rfl (lv_room (Nat.le_of_ble_eq_true rfl)) dX11_join_5 ⟨Nat.le_of_ble_eq_true rfl, Nat.le_of_ble_eq_true rfl⟩) hS (fun q _ h => h) (fun q h => h) (fun r_14 u t H1 locs ht hvm w_13 hB hz1 hk1 hS => ?_)
  have hI : Iv dC dI g A f t.heap := hB
  rw [ht] at hI
  generalize H1 = H at hI hS ⊢
  refine W.widen (k := 0) (n := 0) (Nat.le_of_ble_eq_true rfl) (Nat.le_of_ble_eq_true rfl) ?_
  have w_13 : r_14.toInt = 0 ∨ (0 ≤ p1.toInt ∧ p1.toInt < 12) := w_13
  refine lv_if_ne (tgt := 21) hx hb dX11_join_8 (by decide) (fun c_15 => ?_) (fun c_15 => ?_)
  · have c_15 := kn_eq rfl (by decide : Int32.toInt 0 = 0) c_15
    refine lv_aload_n hx hb dX11_join_21 rfl (lv_at hl 0 rfl) ?_
    refine k_get (ci := 11) (v := .ref (gr g h0 3)) (C := RX11) (T := TX11) (N := 12) hx hb hts (fun _ h0_ => List.mem_cons_of_mem _ (List.mem_append_right _ (List.mem_append_left _ h0_))) hown hK hI i_h0.1 k_1 rfl 3 (by decide) (hts (.fieldLink RX11 37 "DeadlineShare" "now" "LDeadlineShare$State;") (List.mem_cons_of_mem _ (List.mem_append_left _ (List.mem_of_getElem? (i := 0) rfl)))) (fun _ h9 => h9) rfl dX11_join_22 ?_
    refine k_get (ci := 6) (v := .ref (gr g (gr g h0 3) 1)) (C := RX6) (T := TX6) (N := 10) hx hb hts (fun _ h0_ => List.mem_cons_of_mem _ (List.mem_append_right _ (List.mem_append_right _ (List.mem_append_right _ (List.mem_append_left _ h0_))))) hown hK hI i_4.1 k_5 rfl 1 (by decide) (hts (.fieldLink RX11 133 "DeadlineShare$State" "tasks" "[LDeadlineShare$Task;") (List.mem_cons_of_mem _ (List.mem_append_left _ (List.mem_of_getElem? (i := 5) rfl)))) (fun _ h9 => h9) rfl dX11_join_25 ?_
    have i_19 := kw_6_1 hG i_4
    refine lv_iload_n hx hb dX11_join_28 rfl (lv_at hl 1 rfl) ?_
    obtain ⟨q_21, k_20, b_22⟩ := op_20 hI i_19
    refine k_aald hx hb hK hI i_19.1 4 k_20 rfl (vp_in_iff.mpr (by omega)) b_22 (fun _ hj => kw_20 hG i_19 hj) dX11_join_29 (fun a_23 i_24 => ?_)
    refine lv_astore_n (lv' := [(2, .ref a_23), (0, .ref h0), (1, .int p1)]) hx hb dX11_join_30 rfl hl (by decide) rfl (fun ls hl => ?_)
    refine lv_aload_n hx hb dX11_join_31 rfl (lv_at hl 0 rfl) ?_
    obtain ⟨x_26, x_27, x_28, x_29, x_30, x_31, x_32, x_33, x_34, x_35, x_36, x_37, x_38, x_39, x_40, x_41, k_25⟩ := op_8 hI i_24
    refine k_get (ci := 8) (v := .int x_29) (C := RX8) (T := TX8) (N := 18) hx hb hts (fun _ h0_ => List.mem_cons_of_mem _ (List.mem_append_right _ (List.mem_append_right _ (List.mem_append_right _ (List.mem_append_right _ (List.mem_append_left _ h0_)))))) hown hK hI i_24.1 k_25 rfl 4 (by decide) (hts (.fieldLink RX11 137 "DeadlineShare$Task" "state" "I") (List.mem_cons_of_mem _ (List.mem_append_left _ (List.mem_of_getElem? (i := 6) rfl)))) (fun _ h9 => h9) rfl dX11_join_32 ?_
    have J_45 : ∀ (H : Heap) (locs : List Loc) (ls : Array Slot), Iv dC dI g A f H → va_S A s.heap H locs → lv_has ls 3 [(2, .ref a_23), (0, .ref h0), (1, .int p1)] → W p l e (headSpec wq_c_X11_join ({ frames := 5, cells := 0, slots := 0, locals := 126 } : Room)).room s m ([.ref h0, .int p1].toArray) below meth c H locs 0 0 (MQ below (va_Qi (fun (r : Int32) (_ : Unit) => True) (fun (_ : Unit) t => ∃ f1 : Nat → va_E, Iv dC dI g A f1 t.heap ∧ Kp g [1, 4, 5, 6, 8, 10, 23, 24, 27, 28] f f1) A) ([.ref h0, .int p1].toArray) s 0 0 A) (F0 m 45 ls []) := by
      intro H locs ls hI hS  hl
      refine lv_aload_n hx hb dX11_join_45 rfl (lv_at hl 1 rfl) ?_
      refine k_get (ci := 11) (v := .ref (gr g h0 10)) (C := RX11) (T := TX11) (N := 12) hx hb hts (fun _ h0_ => List.mem_cons_of_mem _ (List.mem_append_right _ (List.mem_append_left _ h0_))) hown hK hI i_h0.1 k_1 rfl 10 (by decide) (hts (.fieldLink RX11 72 "DeadlineShare" "refusals" "LDeadlineShare$Refusals;") (List.mem_cons_of_mem _ (List.mem_append_left _ (List.mem_of_getElem? (i := 7) rfl)))) (fun _ h9 => h9) rfl dX11_join_46 ?_
      have i_43 := kw_11_10 hG i_h0
      refine lv_bipush (v := (-4)) hx hb dX11_join_49 (by decide) ?_
      obtain ⟨x_45, k_44⟩ := op_4 hI i_43
      refine va_calli (va_runV (As := [.int (-4)]) (rest := []) ⟨hx, hb, hml, hown, hts⟩ (c_X4_add l dC dI g A hG f (gr g h0 10) (-4) i_43) (cwV 1 hts (gi_V (fun w_ h0_ => ⟨List.mem_cons_of_mem _ (List.mem_append_right _ (List.mem_append_right _ (List.mem_append_right _ (List.mem_append_right _ (List.mem_append_right _ (List.mem_append_left _ h0_)))))), (tb_c_X4_add w_ h0_).2⟩) (List.mem_cons_of_mem _ (List.mem_append_left _ (List.mem_of_getElem? (i := 8) rfl))) (List.mem_cons_of_mem _ (List.mem_append_left _ (List.mem_of_getElem? (i := 9) rfl))) (List.mem_cons_of_mem _ (List.mem_append_left _ (List.mem_of_getElem? (i := 10) rfl))) (List.mem_cons_of_mem _ (List.mem_append_left _ (List.mem_of_getElem? (i := 11) rfl)))) rfl rfl rfl (by decide +kernel) ⟨Nat.le_of_ble_eq_true rfl, Nat.le_of_ble_eq_true rfl⟩) ⟨fun a U g mk q => ⟨q.1, q.2.calling rfl rfl⟩, k_recv hK hI i_43.1 k_44 (ci := 4) rfl, fun U hU hW => ⟨rfl, kIn.of hI hK hE hS hU hW⟩⟩ rfl rfl hl.1 rfl (lv_room (Nat.le_of_ble_eq_true rfl)) dX11_join_51 ⟨Nat.le_of_ble_eq_true rfl, Nat.le_of_ble_eq_true rfl⟩) hS (fun q _ h => h) (fun q h => h) (fun r_48 u t H1 locs ht hvm w_47 hB hz1 hk1 hS => ?_)
      obtain ⟨f_46, hI, kc_49⟩ := hB
      rw [ht] at hI
      have k_51 : f_46 h0 = .inr (11, [.ref (gr g h0 0), .ref (gr g h0 1), .ref (gr g h0 2), .ref (gr g h0 3), .ref (gr g h0 4), .ref (gr g h0 5), .ref (gr g h0 6), .ref (gr g h0 7), .ref (gr g h0 8), .ref (gr g h0 9), .ref (gr g h0 10), .int x_2]) := Kp.at kc_49 i_h0 (by decide) k_1
      have k_52 : f_46 (gr g h0 3) = .inr (6, [.ref (gr g (gr g h0 3) 0), .ref (gr g (gr g h0 3) 1), .ref (gr g (gr g h0 3) 2), .ref (gr g (gr g h0 3) 3), .ref (gr g (gr g h0 3) 4), .int x_6, .int x_7, .long x_8, .int x_9, .int x_10]) := Kp.at kc_49 i_4 (by decide) k_5
      have k_53 : f_46 (gr g (gr g h0 3) 1) = .inl (gc g 4, 12, .inr (.inr (.inr (.inr q_21)))) := Kp.at kc_49 i_19 (by decide) k_20
      have k_54 : f_46 a_23 = .inr (8, [.int x_26, .ref (gr g a_23 1), .int x_27, .int x_28, .int x_29, .long x_30, .int x_31, .ref (gr g a_23 7), .int x_32, .int x_33, .int x_34, .int x_35, .int x_36, .int x_37, .int x_38, .int x_39, .int x_40, .int x_41]) := Kp.at kc_49 i_24 (by decide) k_25
      have kp_55 := Kp.call hk0 kc_49 (by decide)
      generalize H1 = H at hI hS ⊢
      refine W.widen (k := 0) (n := 0) (Nat.le_of_ble_eq_true rfl) (Nat.le_of_ble_eq_true rfl) ?_
      exact W.iret (v := r_48) hx hb hr (fun t ht hW => ⟨⟨r_48, (), rfl, trivial, ⟨f_46, k_ret ht hI, kp_55⟩⟩, hS.F ht⟩) hS.2.2 dX11_join_54
    refine lv_if_ne (tgt := 45) hx hb dX11_join_35 (by decide) (fun c_56 => ?_) (fun c_56 => ?_)
    · have c_56 := kn_eq rfl (by decide : Int32.toInt 0 = 0) c_56
      exact J_45  _ _ _ hI hS  (lv_sub hl [0, 1, 2] rfl)
    · have c_56 := kc_eq rfl (by decide : Int32.toInt 0 = 0) c_56
      refine lv_aload_n hx hb dX11_join_38 rfl (lv_at hl 0 rfl) ?_
      refine va_calli (va_runV (As := []) (rest := []) ⟨hx, hb, hml, hown, hts⟩ (c_X8_isSpent l dC dI g A hG f a_23 i_24) (cwV 0 hts (gi_V (fun w_ h0_ => ⟨List.mem_cons_of_mem _ (List.mem_append_right _ (List.mem_append_right _ (List.mem_append_right _ (List.mem_append_right _ (List.mem_append_right _ (List.mem_append_right _ (List.mem_append_left _ h0_))))))), (tb_c_X8_isSpent w_ h0_).2⟩) (List.mem_cons_of_mem _ (List.mem_append_left _ (List.mem_of_getElem? (i := 12) rfl))) (List.mem_cons_of_mem _ (List.mem_append_left _ (List.mem_of_getElem? (i := 13) rfl))) (List.mem_cons_of_mem _ (List.mem_append_left _ (List.mem_of_getElem? (i := 14) rfl))) (List.mem_cons_of_mem _ (List.mem_append_left _ (List.mem_of_getElem? (i := 15) rfl)))) rfl rfl rfl (by decide +kernel) ⟨Nat.le_of_ble_eq_true rfl, Nat.le_of_ble_eq_true rfl⟩) ⟨fun a U g mk q => ⟨q.1, q.2.calling rfl rfl⟩, k_recv hK hI i_24.1 k_25 (ci := 8) rfl, fun U hU hW => ⟨rfl, kIn.of hI hK hE hS hU hW⟩⟩ rfl rfl hl.1 rfl (lv_room (Nat.le_of_ble_eq_true rfl)) dX11_join_39 ⟨Nat.le_of_ble_eq_true rfl, Nat.le_of_ble_eq_true rfl⟩) hS (fun q _ h => h) (fun q h => h) (fun r_58 u t H1 locs ht hvm w_57 hB hz1 hk1 hS => ?_)
      have hI : Iv dC dI g A f t.heap := hB
      rw [ht] at hI
      generalize H1 = H at hI hS ⊢
      refine W.widen (k := 0) (n := 0) (Nat.le_of_ble_eq_true rfl) (Nat.le_of_ble_eq_true rfl) ?_
      refine lv_if_eq (tgt := 55) hx hb dX11_join_42 (by decide) (fun c_59 => ?_) (fun c_59 => ?_)
      · have c_59 := kc_eq rfl (by decide : Int32.toInt 0 = 0) c_59
        refine lv_aload_n hx hb dX11_join_55 rfl (lv_at hl 1 rfl) ?_
        refine k_get (ci := 11) (v := .ref (gr g h0 3)) (C := RX11) (T := TX11) (N := 12) hx hb hts (fun _ h0_ => List.mem_cons_of_mem _ (List.mem_append_right _ (List.mem_append_left _ h0_))) hown hK hI i_h0.1 k_1 rfl 3 (by decide) (hts (.fieldLink RX11 37 "DeadlineShare" "now" "LDeadlineShare$State;") (List.mem_cons_of_mem _ (List.mem_append_left _ (List.mem_of_getElem? (i := 0) rfl)))) (fun _ h9 => h9) rfl dX11_join_56 ?_
        refine lv_aload_n hx hb dX11_join_59 rfl (lv_at hl 0 rfl) ?_
        refine k_get (ci := 8) (v := .int x_27) (C := RX8) (T := TX8) (N := 18) hx hb hts (fun _ h0_ => List.mem_cons_of_mem _ (List.mem_append_right _ (List.mem_append_right _ (List.mem_append_right _ (List.mem_append_right _ (List.mem_append_left _ h0_)))))) hown hK hI i_24.1 k_25 rfl 2 (by decide) (hts (.fieldLink RX11 145 "DeadlineShare$Task" "weight" "I") (List.mem_cons_of_mem _ (List.mem_append_left _ (List.mem_of_getElem? (i := 16) rfl)))) (fun _ h9 => h9) rfl dX11_join_60 ?_
        refine va_calli (va_runV (As := [.int x_27]) (rest := []) ⟨hx, hb, hml, hown, hts⟩ (c_X6_hasRoomFor l dC dI g A hG f (gr g h0 3) x_27 i_4) (cwV 1 hts (gi_V (fun w_ h0_ => ⟨List.mem_cons_of_mem _ (List.mem_append_right _ (List.mem_append_right _ (List.mem_append_right _ (List.mem_append_right _ (List.mem_append_right _ (List.mem_append_right _ (List.mem_append_right _ (List.mem_append_left _ h0_)))))))), (tb_c_X6_hasRoomFor w_ h0_).2⟩) (List.mem_cons_of_mem _ (List.mem_append_left _ (List.mem_of_getElem? (i := 17) rfl))) (List.mem_cons_of_mem _ (List.mem_append_left _ (List.mem_of_getElem? (i := 18) rfl))) (List.mem_cons_of_mem _ (List.mem_append_left _ (List.mem_of_getElem? (i := 19) rfl))) (List.mem_cons_of_mem _ (List.mem_append_left _ (List.mem_of_getElem? (i := 4) rfl)))) rfl rfl rfl (by decide +kernel) ⟨Nat.le_of_ble_eq_true rfl, Nat.le_of_ble_eq_true rfl⟩) ⟨fun a U g mk q => ⟨q.1, q.2.calling rfl rfl⟩, k_recv hK hI i_4.1 k_5 (ci := 6) rfl, fun U hU hW => ⟨rfl, kIn.of hI hK hE hS hU hW⟩⟩ rfl rfl hl.1 rfl (lv_room (Nat.le_of_ble_eq_true rfl)) dX11_join_63 ⟨Nat.le_of_ble_eq_true rfl, Nat.le_of_ble_eq_true rfl⟩) hS (fun q _ h => h) (fun q h => h) (fun r_63 u t H1 locs ht hvm w_62 hB hz1 hk1 hS => ?_)
        have hI : Iv dC dI g A f t.heap := hB
        rw [ht] at hI
        generalize H1 = H at hI hS ⊢
        refine W.widen (k := 0) (n := 0) (Nat.le_of_ble_eq_true rfl) (Nat.le_of_ble_eq_true rfl) ?_
        refine lv_if_ne (tgt := 79) hx hb dX11_join_66 (by decide) (fun c_64 => ?_) (fun c_64 => ?_)
        · have c_64 := kn_eq rfl (by decide : Int32.toInt 0 = 0) c_64
          refine lv_aload_n hx hb dX11_join_79 rfl (lv_at hl 1 rfl) ?_
          refine k_get (ci := 11) (v := .ref (gr g h0 9)) (C := RX11) (T := TX11) (N := 12) hx hb hts (fun _ h0_ => List.mem_cons_of_mem _ (List.mem_append_right _ (List.mem_append_left _ h0_))) hown hK hI i_h0.1 k_1 rfl 9 (by decide) (hts (.fieldLink RX11 65 "DeadlineShare" "history" "LDeadlineShare$History;") (List.mem_cons_of_mem _ (List.mem_append_left _ (List.mem_of_getElem? (i := 20) rfl)))) (fun _ h9 => h9) rfl dX11_join_80 ?_
          have i_66 := kw_11_9 hG i_h0
          refine lv_aload_n hx hb dX11_join_83 rfl (lv_at hl 1 rfl) ?_
          refine k_get (ci := 11) (v := .ref (gr g h0 3)) (C := RX11) (T := TX11) (N := 12) hx hb hts (fun _ h0_ => List.mem_cons_of_mem _ (List.mem_append_right _ (List.mem_append_left _ h0_))) hown hK hI i_h0.1 k_1 rfl 3 (by decide) (hts (.fieldLink RX11 37 "DeadlineShare" "now" "LDeadlineShare$State;") (List.mem_cons_of_mem _ (List.mem_append_left _ (List.mem_of_getElem? (i := 0) rfl)))) (fun _ h9 => h9) rfl dX11_join_84 ?_
          refine lv_iconst (v := 1) hx hb dX11_join_87 (by decide) ?_
          obtain ⟨x_70, x_71, k_69⟩ := op_1 hI i_66
          refine va_callv (va_runV (As := [.ref (gr g h0 3), .int 1]) (rest := []) ⟨hx, hb, hml, hown, hts⟩ (c_X1_keep l dC dI g A hG f (gr g h0 9) (gr g h0 3) 1 i_66 i_4) (cwV 2 hts (gi_V (fun w_ h0_ => ⟨List.mem_cons_of_mem _ (List.mem_append_right _ (List.mem_append_right _ (List.mem_append_right _ (List.mem_append_right _ (List.mem_append_right _ (List.mem_append_right _ (List.mem_append_right _ (List.mem_append_right _ (List.mem_append_left _ h0_))))))))), (tb_c_X1_keep w_ h0_).2⟩) (List.mem_cons_of_mem _ (List.mem_append_left _ (List.mem_of_getElem? (i := 21) rfl))) (List.mem_cons_of_mem _ (List.mem_append_left _ (List.mem_of_getElem? (i := 22) rfl))) (List.mem_cons_of_mem _ (List.mem_append_left _ (List.mem_of_getElem? (i := 23) rfl))) (List.mem_cons_of_mem _ (List.mem_append_left _ (List.mem_of_getElem? (i := 24) rfl)))) rfl rfl rfl (by decide +kernel) ⟨Nat.le_of_ble_eq_true rfl, Nat.le_of_ble_eq_true rfl⟩) ⟨fun a U g mk q => ⟨q.1, q.2.calling rfl rfl⟩, k_recv hK hI i_66.1 k_69 (ci := 1) rfl, fun U hU hW => ⟨rfl, kIn.of hI hK hE hS hU hW⟩⟩ rfl rfl hl.1 rfl (lv_room (Nat.le_of_ble_eq_true rfl)) dX11_join_88 ⟨Nat.le_of_ble_eq_true rfl, Nat.le_of_ble_eq_true rfl⟩) hS (fun q _ h => h) (fun q h => h) (fun u t H1 locs ht hvm _ hB hz1 hk1 hS => ?_)
          obtain ⟨f_72, hI, kc_74⟩ := hB
          rw [ht] at hI
          have k_76 : f_72 h0 = .inr (11, [.ref (gr g h0 0), .ref (gr g h0 1), .ref (gr g h0 2), .ref (gr g h0 3), .ref (gr g h0 4), .ref (gr g h0 5), .ref (gr g h0 6), .ref (gr g h0 7), .ref (gr g h0 8), .ref (gr g h0 9), .ref (gr g h0 10), .int x_2]) := Kp.at kc_74 i_h0 (by decide) k_1
          have k_77 : f_72 (gr g (gr g h0 3) 1) = .inl (gc g 4, 12, .inr (.inr (.inr (.inr q_21)))) := Kp.at kc_74 i_19 (by decide) k_20
          have kp_78 := Kp.call hk0 kc_74 (by decide)
          generalize H1 = H at hI hS ⊢
          refine W.widen (k := 0) (n := 0) (Nat.le_of_ble_eq_true rfl) (Nat.le_of_ble_eq_true rfl) ?_
          refine lv_aload_n hx hb dX11_join_91 rfl (lv_at hl 1 rfl) ?_
          refine k_get (ci := 11) (v := .ref (gr g h0 3)) (C := RX11) (T := TX11) (N := 12) hx hb hts (fun _ h0_ => List.mem_cons_of_mem _ (List.mem_append_right _ (List.mem_append_left _ h0_))) hown hK hI i_h0.1 k_76 rfl 3 (by decide) (hts (.fieldLink RX11 37 "DeadlineShare" "now" "LDeadlineShare$State;") (List.mem_cons_of_mem _ (List.mem_append_left _ (List.mem_of_getElem? (i := 0) rfl)))) (fun _ h9 => h9) rfl dX11_join_92 ?_
          refine lv_aload_n hx hb dX11_join_95 rfl (lv_at hl 0 rfl) ?_
          obtain ⟨x_82, x_83, x_84, x_85, x_86, k_81, b_87, b_88⟩ := op_6 hI i_4
          refine va_callv (va_runV (As := [.ref a_23]) (rest := []) ⟨hx, hb, hml, hown, hts⟩ (c_X6_enter l dC dI g A hG f_72 (gr g h0 3) a_23 i_4 i_24) (cwV 1 hts (gi_V (fun w_ h0_ => ⟨List.mem_cons_of_mem _ (List.mem_append_right _ (List.mem_append_right _ (List.mem_append_right _ (List.mem_append_right _ (List.mem_append_right _ (List.mem_append_right _ (List.mem_append_right _ (List.mem_append_right _ (List.mem_append_right _ (List.mem_append_left _ h0_)))))))))), (tb_c_X6_enter w_ h0_).2⟩) (List.mem_cons_of_mem _ (List.mem_append_left _ (List.mem_of_getElem? (i := 25) rfl))) (List.mem_cons_of_mem _ (List.mem_append_left _ (List.mem_of_getElem? (i := 26) rfl))) (List.mem_cons_of_mem _ (List.mem_append_left _ (List.mem_of_getElem? (i := 27) rfl))) (List.mem_cons_of_mem _ (List.mem_append_left _ (List.mem_of_getElem? (i := 4) rfl)))) rfl rfl rfl (by decide +kernel) ⟨Nat.le_of_ble_eq_true rfl, Nat.le_of_ble_eq_true rfl⟩) ⟨fun a U g mk q => ⟨q.1, q.2.calling rfl rfl⟩, k_recv hK hI i_4.1 k_81 (ci := 6) rfl, fun U hU hW => ⟨rfl, kIn.of hI hK hE hS hU hW⟩⟩ rfl rfl hl.1 rfl (lv_room (Nat.le_of_ble_eq_true rfl)) dX11_join_96 ⟨Nat.le_of_ble_eq_true rfl, Nat.le_of_ble_eq_true rfl⟩) hS (fun q _ h => h) (fun q h => h) (fun u t H1 locs ht hvm _ hB hz1 hk1 hS => ?_)
          obtain ⟨f_89, hI, kc_91⟩ := hB
          rw [ht] at hI
          have k_93 : f_89 h0 = .inr (11, [.ref (gr g h0 0), .ref (gr g h0 1), .ref (gr g h0 2), .ref (gr g h0 3), .ref (gr g h0 4), .ref (gr g h0 5), .ref (gr g h0 6), .ref (gr g h0 7), .ref (gr g h0 8), .ref (gr g h0 9), .ref (gr g h0 10), .int x_2]) := Kp.at kc_91 i_h0 (by decide) k_76
          have k_94 : f_89 (gr g (gr g h0 3) 1) = .inl (gc g 4, 12, .inr (.inr (.inr (.inr q_21)))) := Kp.at kc_91 i_19 (by decide) k_77
          have k_95 : f_89 (gr g h0 3) = .inr (6, [.ref (gr g (gr g h0 3) 0), .ref (gr g (gr g h0 3) 1), .ref (gr g (gr g h0 3) 2), .ref (gr g (gr g h0 3) 3), .ref (gr g (gr g h0 3) 4), .int x_82, .int x_83, .long x_84, .int x_85, .int x_86]) := Kp.at kc_91 i_4 (by decide) k_81
          have kp_96 := Kp.call kp_78 kc_91 (by decide)
          generalize H1 = H at hI hS ⊢
          refine W.widen (k := 0) (n := 0) (Nat.le_of_ble_eq_true rfl) (Nat.le_of_ble_eq_true rfl) ?_
          refine lv_aload_n hx hb dX11_join_99 rfl (lv_at hl 1 rfl) ?_
          refine k_get (ci := 11) (v := .ref (gr g h0 10)) (C := RX11) (T := TX11) (N := 12) hx hb hts (fun _ h0_ => List.mem_cons_of_mem _ (List.mem_append_right _ (List.mem_append_left _ h0_))) hown hK hI i_h0.1 k_93 rfl 10 (by decide) (hts (.fieldLink RX11 72 "DeadlineShare" "refusals" "LDeadlineShare$Refusals;") (List.mem_cons_of_mem _ (List.mem_append_left _ (List.mem_of_getElem? (i := 7) rfl)))) (fun _ h9 => h9) rfl dX11_join_100 ?_
          have i_98 := kw_11_10 hG i_h0
          refine lv_aload_n hx hb dX11_join_103 rfl (lv_at hl 1 rfl) ?_
          refine k_get (ci := 11) (v := .ref (gr g h0 3)) (C := RX11) (T := TX11) (N := 12) hx hb hts (fun _ h0_ => List.mem_cons_of_mem _ (List.mem_append_right _ (List.mem_append_left _ h0_))) hown hK hI i_h0.1 k_93 rfl 3 (by decide) (hts (.fieldLink RX11 37 "DeadlineShare" "now" "LDeadlineShare$State;") (List.mem_cons_of_mem _ (List.mem_append_left _ (List.mem_of_getElem? (i := 0) rfl)))) (fun _ h9 => h9) rfl dX11_join_104 ?_
          refine va_calli (va_runV (As := []) (rest := [.ref (gr g h0 10)]) ⟨hx, hb, hml, hown, hts⟩ (c_X6_weightOfAll l dC dI g A hG f_89 (gr g h0 3) i_4) (cwV 0 hts (gi_V (fun w_ h0_ => ⟨List.mem_cons_of_mem _ (List.mem_append_right _ (List.mem_append_right _ (List.mem_append_right _ (List.mem_append_right _ (List.mem_append_right _ (List.mem_append_right _ (List.mem_append_right _ (List.mem_append_right _ (List.mem_append_right _ (List.mem_append_right _ (List.mem_append_left _ h0_))))))))))), (tb_c_X6_weightOfAll w_ h0_).2⟩) (List.mem_cons_of_mem _ (List.mem_append_left _ (List.mem_of_getElem? (i := 28) rfl))) (List.mem_cons_of_mem _ (List.mem_append_left _ (List.mem_of_getElem? (i := 29) rfl))) (List.mem_cons_of_mem _ (List.mem_append_left _ (List.mem_of_getElem? (i := 30) rfl))) (List.mem_cons_of_mem _ (List.mem_append_left _ (List.mem_of_getElem? (i := 4) rfl)))) rfl rfl rfl (by decide +kernel) ⟨Nat.le_of_ble_eq_true rfl, Nat.le_of_ble_eq_true rfl⟩) ⟨fun a U g mk q => ⟨q.1, q.2.calling rfl rfl⟩, k_recv hK hI i_4.1 k_95 (ci := 6) rfl, fun U hU hW => ⟨rfl, kIn.of hI hK hE hS hU hW⟩⟩ rfl rfl hl.1 rfl (lv_room (Nat.le_of_ble_eq_true rfl)) dX11_join_107 ⟨Nat.le_of_ble_eq_true rfl, Nat.le_of_ble_eq_true rfl⟩) hS (fun q _ h => h) (fun q h => h) (fun r_102 u t H1 locs ht hvm w_101 hB hz1 hk1 hS => ?_)
          have hI : Iv dC dI g A f_89 t.heap := hB
          rw [ht] at hI
          generalize H1 = H at hI hS ⊢
          refine W.widen (k := 0) (n := 0) (Nat.le_of_ble_eq_true rfl) (Nat.le_of_ble_eq_true rfl) ?_
          obtain ⟨x_104, k_103⟩ := op_4 hI i_98
          refine va_calli (va_runV (As := [.int r_102]) (rest := []) ⟨hx, hb, hml, hown, hts⟩ (c_X4_none l dC dI g A hG f_89 (gr g h0 10) r_102 i_98) (cwV 1 hts (gi_V (fun w_ h0_ => ⟨List.mem_cons_of_mem _ (List.mem_append_right _ (List.mem_append_right _ (List.mem_append_right _ (List.mem_append_right _ (List.mem_append_right _ (List.mem_append_right _ (List.mem_append_right _ (List.mem_append_right _ (List.mem_append_right _ (List.mem_append_right _ (List.mem_append_right _ (List.mem_append_left _ h0_)))))))))))), (tb_c_X4_none w_ h0_).2⟩) (List.mem_cons_of_mem _ (List.mem_append_left _ (List.mem_of_getElem? (i := 31) rfl))) (List.mem_cons_of_mem _ (List.mem_append_left _ (List.mem_of_getElem? (i := 32) rfl))) (List.mem_cons_of_mem _ (List.mem_append_left _ (List.mem_of_getElem? (i := 33) rfl))) (List.mem_cons_of_mem _ (List.mem_append_left _ (List.mem_of_getElem? (i := 11) rfl)))) rfl rfl rfl (by decide +kernel) ⟨Nat.le_of_ble_eq_true rfl, Nat.le_of_ble_eq_true rfl⟩) ⟨fun a U g mk q => ⟨q.1, q.2.calling rfl rfl⟩, k_recv hK hI i_98.1 k_103 (ci := 4) rfl, fun U hU hW => ⟨rfl, kIn.of hI hK hE hS hU hW⟩⟩ rfl rfl hl.1 rfl (lv_room (Nat.le_of_ble_eq_true rfl)) dX11_join_110 ⟨Nat.le_of_ble_eq_true rfl, Nat.le_of_ble_eq_true rfl⟩) hS (fun q _ h => h) (fun q h => h) (fun r_107 u t H1 locs ht hvm w_106 hB hz1 hk1 hS => ?_)
          obtain ⟨f_105, hI, kc_108⟩ := hB
          rw [ht] at hI
          have k_110 : f_105 h0 = .inr (11, [.ref (gr g h0 0), .ref (gr g h0 1), .ref (gr g h0 2), .ref (gr g h0 3), .ref (gr g h0 4), .ref (gr g h0 5), .ref (gr g h0 6), .ref (gr g h0 7), .ref (gr g h0 8), .ref (gr g h0 9), .ref (gr g h0 10), .int x_2]) := Kp.at kc_108 i_h0 (by decide) k_93
          have k_111 : f_105 (gr g (gr g h0 3) 1) = .inl (gc g 4, 12, .inr (.inr (.inr (.inr q_21)))) := Kp.at kc_108 i_19 (by decide) k_94
          have k_112 : f_105 (gr g h0 3) = .inr (6, [.ref (gr g (gr g h0 3) 0), .ref (gr g (gr g h0 3) 1), .ref (gr g (gr g h0 3) 2), .ref (gr g (gr g h0 3) 3), .ref (gr g (gr g h0 3) 4), .int x_82, .int x_83, .long x_84, .int x_85, .int x_86]) := Kp.at kc_108 i_4 (by decide) k_95
          have kp_113 := Kp.call kp_96 kc_108 (by decide)
          generalize H1 = H at hI hS ⊢
          refine W.widen (k := 0) (n := 0) (Nat.le_of_ble_eq_true rfl) (Nat.le_of_ble_eq_true rfl) ?_
          exact W.iret (v := r_107) hx hb hr (fun t ht hW => ⟨⟨r_107, (), rfl, trivial, ⟨f_105, k_ret ht hI, kp_113⟩⟩, hS.F ht⟩) hS.2.2 dX11_join_113
        · have c_64 := kc_eq rfl (by decide : Int32.toInt 0 = 0) c_64
          refine lv_aload_n hx hb dX11_join_69 rfl (lv_at hl 1 rfl) ?_
          refine k_get (ci := 11) (v := .ref (gr g h0 10)) (C := RX11) (T := TX11) (N := 12) hx hb hts (fun _ h0_ => List.mem_cons_of_mem _ (List.mem_append_right _ (List.mem_append_left _ h0_))) hown hK hI i_h0.1 k_1 rfl 10 (by decide) (hts (.fieldLink RX11 72 "DeadlineShare" "refusals" "LDeadlineShare$Refusals;") (List.mem_cons_of_mem _ (List.mem_append_left _ (List.mem_of_getElem? (i := 7) rfl)))) (fun _ h9 => h9) rfl dX11_join_70 ?_
          have i_115 := kw_11_10 hG i_h0
          refine lv_bipush (v := (-5)) hx hb dX11_join_73 (by decide) ?_
          obtain ⟨x_117, k_116⟩ := op_4 hI i_115
          refine va_calli (va_runV (As := [.int (-5)]) (rest := []) ⟨hx, hb, hml, hown, hts⟩ (c_X4_add l dC dI g A hG f (gr g h0 10) (-5) i_115) (cwV 1 hts (gi_V (fun w_ h0_ => ⟨List.mem_cons_of_mem _ (List.mem_append_right _ (List.mem_append_right _ (List.mem_append_right _ (List.mem_append_right _ (List.mem_append_right _ (List.mem_append_left _ h0_)))))), (tb_c_X4_add w_ h0_).2⟩) (List.mem_cons_of_mem _ (List.mem_append_left _ (List.mem_of_getElem? (i := 8) rfl))) (List.mem_cons_of_mem _ (List.mem_append_left _ (List.mem_of_getElem? (i := 9) rfl))) (List.mem_cons_of_mem _ (List.mem_append_left _ (List.mem_of_getElem? (i := 10) rfl))) (List.mem_cons_of_mem _ (List.mem_append_left _ (List.mem_of_getElem? (i := 11) rfl)))) rfl rfl rfl (by decide +kernel) ⟨Nat.le_of_ble_eq_true rfl, Nat.le_of_ble_eq_true rfl⟩) ⟨fun a U g mk q => ⟨q.1, q.2.calling rfl rfl⟩, k_recv hK hI i_115.1 k_116 (ci := 4) rfl, fun U hU hW => ⟨rfl, kIn.of hI hK hE hS hU hW⟩⟩ rfl rfl hl.1 rfl (lv_room (Nat.le_of_ble_eq_true rfl)) dX11_join_75 ⟨Nat.le_of_ble_eq_true rfl, Nat.le_of_ble_eq_true rfl⟩) hS (fun q _ h => h) (fun q h => h) (fun r_120 u t H1 locs ht hvm w_119 hB hz1 hk1 hS => ?_)
          obtain ⟨f_118, hI, kc_121⟩ := hB
          rw [ht] at hI
          have k_123 : f_118 h0 = .inr (11, [.ref (gr g h0 0), .ref (gr g h0 1), .ref (gr g h0 2), .ref (gr g h0 3), .ref (gr g h0 4), .ref (gr g h0 5), .ref (gr g h0 6), .ref (gr g h0 7), .ref (gr g h0 8), .ref (gr g h0 9), .ref (gr g h0 10), .int x_2]) := Kp.at kc_121 i_h0 (by decide) k_1
          have k_124 : f_118 (gr g h0 3) = .inr (6, [.ref (gr g (gr g h0 3) 0), .ref (gr g (gr g h0 3) 1), .ref (gr g (gr g h0 3) 2), .ref (gr g (gr g h0 3) 3), .ref (gr g (gr g h0 3) 4), .int x_6, .int x_7, .long x_8, .int x_9, .int x_10]) := Kp.at kc_121 i_4 (by decide) k_5
          have k_125 : f_118 (gr g (gr g h0 3) 1) = .inl (gc g 4, 12, .inr (.inr (.inr (.inr q_21)))) := Kp.at kc_121 i_19 (by decide) k_20
          have k_126 : f_118 a_23 = .inr (8, [.int x_26, .ref (gr g a_23 1), .int x_27, .int x_28, .int x_29, .long x_30, .int x_31, .ref (gr g a_23 7), .int x_32, .int x_33, .int x_34, .int x_35, .int x_36, .int x_37, .int x_38, .int x_39, .int x_40, .int x_41]) := Kp.at kc_121 i_24 (by decide) k_25
          have kp_127 := Kp.call hk0 kc_121 (by decide)
          generalize H1 = H at hI hS ⊢
          refine W.widen (k := 0) (n := 0) (Nat.le_of_ble_eq_true rfl) (Nat.le_of_ble_eq_true rfl) ?_
          exact W.iret (v := r_120) hx hb hr (fun t ht hW => ⟨⟨r_120, (), rfl, trivial, ⟨f_118, k_ret ht hI, kp_127⟩⟩, hS.F ht⟩) hS.2.2 dX11_join_78
      · have c_59 := kn_eq rfl (by decide : Int32.toInt 0 = 0) c_59
        exact J_45  _ _ _ hI hS  (lv_sub hl [0, 1, 2] rfl)
  · have c_15 := kc_eq rfl (by decide : Int32.toInt 0 = 0) c_15
    refine lv_aload_n hx hb dX11_join_11 rfl (lv_at hl 0 rfl) ?_
    refine k_get (ci := 11) (v := .ref (gr g h0 10)) (C := RX11) (T := TX11) (N := 12) hx hb hts (fun _ h0_ => List.mem_cons_of_mem _ (List.mem_append_right _ (List.mem_append_left _ h0_))) hown hK hI i_h0.1 k_1 rfl 10 (by decide) (hts (.fieldLink RX11 72 "DeadlineShare" "refusals" "LDeadlineShare$Refusals;") (List.mem_cons_of_mem _ (List.mem_append_left _ (List.mem_of_getElem? (i := 7) rfl)))) (fun _ h9 => h9) rfl dX11_join_12 ?_
    have i_129 := kw_11_10 hG i_h0
    refine lv_bipush (v := (-2)) hx hb dX11_join_15 (by decide) ?_
    obtain ⟨x_131, k_130⟩ := op_4 hI i_129
    refine va_calli (va_runV (As := [.int (-2)]) (rest := []) ⟨hx, hb, hml, hown, hts⟩ (c_X4_add l dC dI g A hG f (gr g h0 10) (-2) i_129) (cwV 1 hts (gi_V (fun w_ h0_ => ⟨List.mem_cons_of_mem _ (List.mem_append_right _ (List.mem_append_right _ (List.mem_append_right _ (List.mem_append_right _ (List.mem_append_right _ (List.mem_append_left _ h0_)))))), (tb_c_X4_add w_ h0_).2⟩) (List.mem_cons_of_mem _ (List.mem_append_left _ (List.mem_of_getElem? (i := 8) rfl))) (List.mem_cons_of_mem _ (List.mem_append_left _ (List.mem_of_getElem? (i := 9) rfl))) (List.mem_cons_of_mem _ (List.mem_append_left _ (List.mem_of_getElem? (i := 10) rfl))) (List.mem_cons_of_mem _ (List.mem_append_left _ (List.mem_of_getElem? (i := 11) rfl)))) rfl rfl rfl (by decide +kernel) ⟨Nat.le_of_ble_eq_true rfl, Nat.le_of_ble_eq_true rfl⟩) ⟨fun a U g mk q => ⟨q.1, q.2.calling rfl rfl⟩, k_recv hK hI i_129.1 k_130 (ci := 4) rfl, fun U hU hW => ⟨rfl, kIn.of hI hK hE hS hU hW⟩⟩ rfl rfl hl.1 rfl (lv_room (Nat.le_of_ble_eq_true rfl)) dX11_join_17 ⟨Nat.le_of_ble_eq_true rfl, Nat.le_of_ble_eq_true rfl⟩) hS (fun q _ h => h) (fun q h => h) (fun r_134 u t H1 locs ht hvm w_133 hB hz1 hk1 hS => ?_)
    obtain ⟨f_132, hI, kc_135⟩ := hB
    rw [ht] at hI
    have k_137 : f_132 h0 = .inr (11, [.ref (gr g h0 0), .ref (gr g h0 1), .ref (gr g h0 2), .ref (gr g h0 3), .ref (gr g h0 4), .ref (gr g h0 5), .ref (gr g h0 6), .ref (gr g h0 7), .ref (gr g h0 8), .ref (gr g h0 9), .ref (gr g h0 10), .int x_2]) := Kp.at kc_135 i_h0 (by decide) k_1
    have k_138 : f_132 (gr g h0 3) = .inr (6, [.ref (gr g (gr g h0 3) 0), .ref (gr g (gr g h0 3) 1), .ref (gr g (gr g h0 3) 2), .ref (gr g (gr g h0 3) 3), .ref (gr g (gr g h0 3) 4), .int x_6, .int x_7, .long x_8, .int x_9, .int x_10]) := Kp.at kc_135 i_4 (by decide) k_5
    have kp_139 := Kp.call hk0 kc_135 (by decide)
    generalize H1 = H at hI hS ⊢
    refine W.widen (k := 0) (n := 0) (Nat.le_of_ble_eq_true rfl) (Nat.le_of_ble_eq_true rfl) ?_
    exact W.iret (v := r_134) hx hb hr (fun t ht hW => ⟨⟨r_134, (), rfl, trivial, ⟨f_132, k_ret ht hI, kp_139⟩⟩, hS.F ht⟩) hS.2.2 dX11_join_20
theorem tw_494 : q_g (.methodLink RX11 162 yX6_depart) := ⟨(List.mem_append_right _ (List.mem_of_getElem? (i := 554) (by decide +kernel))), good_of_word (by decide +kernel)⟩
theorem tw_495 : q_g (.methodLink RX11 170 yX5_drop) := ⟨(List.mem_append_right _ (List.mem_of_getElem? (i := 562) (by decide +kernel))), good_of_word (by decide +kernel)⟩
theorem tw_496 : q_g (.fieldLink RX11 166 "DeadlineShare$Task" "script" "LDeadlineShare$Script;") := ⟨(List.mem_append_right _ (List.mem_of_getElem? (i := 152) (by decide +kernel))), good_of_word (by decide +kernel)⟩
theorem tw_497 : q_g (.methodLink RX11 159 yX8_isOn) := ⟨(List.mem_append_right _ (List.mem_of_getElem? (i := 550) (by decide +kernel))), good_of_word (by decide +kernel)⟩
theorem tw_498 : q_g (.code yX11_leave cX11_leave 3 (some .int)) := ⟨(List.mem_append_right _ (List.mem_of_getElem? (i := 549) (by decide +kernel))), good_of_word (by decide +kernel)⟩
def ow_c_X11_leave : List Cond := [.fieldLink RX11 37 "DeadlineShare" "now" "LDeadlineShare$State;", .methodLink RX11 130 yX6_has, .instanceMethod yX6_has, .selects RX6 yX6_has yX6_has, .initialized RX6, .fieldLink RX11 133 "DeadlineShare$State" "tasks" "[LDeadlineShare$Task;", .fieldLink RX11 137 "DeadlineShare$Task" "state" "I", .fieldLink RX11 65 "DeadlineShare" "history" "LDeadlineShare$History;", .methodLink RX11 122 yX1_keep, .instanceMethod yX1_keep, .selects RX1 yX1_keep yX1_keep, .initialized RX1, .methodLink RX11 159 yX8_isOn, .instanceMethod yX8_isOn, .selects RX8 yX8_isOn yX8_isOn, .initialized RX8, .fieldLink RX11 166 "DeadlineShare$Task" "script" "LDeadlineShare$Script;", .methodLink RX11 170 yX5_drop, .instanceMethod yX5_drop, .selects RX5 yX5_drop yX5_drop, .initialized RX5, .fieldLink RX11 72 "DeadlineShare" "refusals" "LDeadlineShare$Refusals;", .methodLink RX11 155 yX6_weightOfAll, .instanceMethod yX6_weightOfAll, .selects RX6 yX6_weightOfAll yX6_weightOfAll, .methodLink RX11 95 yX4_none, .instanceMethod yX4_none, .selects RX4 yX4_none yX4_none, .initialized RX4, .methodLink RX11 162 yX6_depart, .instanceMethod yX6_depart, .selects RX6 yX6_depart yX6_depart, .methodLink RX11 84 yX4_add, .instanceMethod yX4_add, .selects RX4 yX4_add yX4_add]
def wq_c_X11_leave : List Cond := .code yX11_leave cX11_leave 3 (some .int) :: (ow_c_X11_leave ++ (u_ws RX11 TX11 12 ++ (wq_c_X6_has ++ (u_ws RX6 TX6 10 ++ (u_ws RX8 TX8 18 ++ (wq_c_X1_keep ++ (wq_c_X8_isOn ++ (wq_c_X5_drop ++ (wq_c_X6_weightOfAll ++ (wq_c_X4_none ++ (wq_c_X6_depart ++ (wq_c_X4_add ++ ([] : List Cond)))))))))))))
theorem tb_c_X11_leave : ∀ w ∈ wq_c_X11_leave, q_g w := by
  unfold wq_c_X11_leave ow_c_X11_leave
  exact q_cons tw_498 (q_app (q_cons tw_479 (q_cons tw_492 (q_cons tw_74 (q_cons tw_73 (q_cons tw_47 (q_cons tw_491 (q_cons tw_490 (q_cons tw_477 (q_cons tw_476 (q_cons tw_475 (q_cons tw_474 (q_cons tw_473 (q_cons tw_497 (q_cons tw_10 (q_cons tw_9 (q_cons tw_8 (q_cons tw_496 (q_cons tw_495 (q_cons tw_236 (q_cons tw_235 (q_cons tw_133 (q_cons tw_443 (q_cons tw_485 (q_cons tw_88 (q_cons tw_87 (q_cons tw_442 (q_cons tw_441 (q_cons tw_440 (q_cons tw_204 (q_cons tw_494 (q_cons tw_347 (q_cons tw_346 (q_cons tw_439 (q_cons tw_438 (q_cons tw_437 q_nil))))))))))))))))))))))))))))))))))) (q_app tu_X11 (q_app tb_c_X6_has (q_app tu_X6 (q_app tu_X8 (q_app tb_c_X1_keep (q_app tb_c_X8_isOn (q_app tb_c_X5_drop (q_app tb_c_X6_weightOfAll (q_app tb_c_X4_none (q_app tb_c_X6_depart (q_app tb_c_X4_add q_nil))))))))))))
set_option maxHeartbeats 4000000 in
set_option maxRecDepth 100000 in
theorem c_X11_leave (l : Launch) (dC : Nat → ClassId) (dI : Nat → Nat → Nat) (g : kG) (A : Nat → Prop) (hG : kWf g) (f : Nat → va_E) (h0 : Nat) (p1 : Int32) (i_h0 : ik g 11 h0) : Met l yX11_leave wq_c_X11_leave ({ frames := 5, cells := 0, slots := 0, locals := 126 } : Room) (va_Pc [.ref h0, .int p1] (fun U => kIn dC dI g A f U)) (va_Qi (fun (r : Int32) (_ : Unit) => True) (fun (_ : Unit) t => ∃ f1 : Nat → va_E, Iv dC dI g A f1 t.heap ∧ Kp g [1, 4, 5, 6, 8, 10, 23, 24, 27, 28] f f1) A) 0 0 A := by
  refine Met.ofW (cc := cX11_leave) (maxL := 3) (ret := (some .int)) (by decide) rfl ?_
  intro p e s m args below meth c s₁ B hml hv
  obtain ⟨rfl, hI, hK, hE⟩ := hv
  have hx := B.exec
  have hb := B.bytes
  have hr := B.returns
  have hts := atoms_spec (ws := wq_c_X11_leave) B.pre
  have hown : s.vm.findClass RX11 = some m.cls := findClass_of_methodNamed B.named
  have hlocks := B.notSynchronized
  have hS : va_S A s.heap s.heap [] := va_S.rf
  have hk0 : Kp g [1, 4, 5, 6, 8, 10, 23, 24, 27, 28] f f := Kp.rf
  have hl := lv_entry ([.ref h0, .int p1]) (n := 3) (Nat.le_of_ble_eq_true rfl)
  rw [lg_entry_eq]
  generalize (lg_sl ([.ref h0, .int p1]) ++ List.replicate (3 - (lg_sl ([.ref h0, .int p1])).length) Slot.unset).toArray = ls at hl ⊢
  have hl : lv_has ls 3 [(0, .ref h0), (1, .int p1)] := hl
  refine lv_aload_n hx hb dX11_leave_0 rfl (lv_at hl 0 rfl) ?_
  obtain ⟨x_2, k_1⟩ := op_11 hI i_h0
  refine k_get (ci := 11) (v := .ref (gr g h0 3)) (C := RX11) (T := TX11) (N := 12) hx hb hts (fun _ h0_ => List.mem_cons_of_mem _ (List.mem_append_right _ (List.mem_append_left _ h0_))) hown hK hI i_h0.1 k_1 rfl 3 (by decide) (hts (.fieldLink RX11 37 "DeadlineShare" "now" "LDeadlineShare$State;") (List.mem_cons_of_mem _ (List.mem_append_left _ (List.mem_of_getElem? (i := 0) rfl)))) (fun _ h9 => h9) rfl dX11_leave_1 ?_
  have i_4 := kw_11_3 hG i_h0
  refine lv_iload_n hx hb dX11_leave_4 rfl (lv_at hl 1 rfl) ?_
  obtain ⟨x_6, x_7, x_8, x_9, x_10, k_5, b_11, b_12⟩ := op_6 hI i_4
  refine va_calli (va_runV (As := [.int p1]) (rest := []) ⟨hx, hb, hml, hown, hts⟩ (c_X6_has l dC dI g A hG f (gr g h0 3) p1 i_4) (cwV 1 hts (gi_V (fun w_ h0_ => ⟨List.mem_cons_of_mem _ (List.mem_append_right _ (List.mem_append_right _ (List.mem_append_left _ h0_))), (tb_c_X6_has w_ h0_).2⟩) (List.mem_cons_of_mem _ (List.mem_append_left _ (List.mem_of_getElem? (i := 1) rfl))) (List.mem_cons_of_mem _ (List.mem_append_left _ (List.mem_of_getElem? (i := 2) rfl))) (List.mem_cons_of_mem _ (List.mem_append_left _ (List.mem_of_getElem? (i := 3) rfl))) (List.mem_cons_of_mem _ (List.mem_append_left _ (List.mem_of_getElem? (i := 4) rfl)))) rfl rfl rfl (by decide +kernel) ⟨Nat.le_of_ble_eq_true rfl, Nat.le_of_ble_eq_true rfl⟩) ⟨fun a U g mk q => ⟨q.1, q.2.calling rfl rfl⟩, k_recv hK hI i_4.1 k_5 (ci := 6) rfl, fun U hU hW => ⟨rfl, kIn.of hI hK hE hS hU hW⟩⟩ rfl rfl hl.1 rfl (lv_room (Nat.le_of_ble_eq_true rfl)) dX11_leave_5 ⟨Nat.le_of_ble_eq_true rfl, Nat.le_of_ble_eq_true rfl⟩) hS (fun q _ h => h) (fun q h => h) (fun r_14 u t H1 locs ht hvm w_13 hB hz1 hk1 hS => ?_)
  have hI : Iv dC dI g A f t.heap := hB
  rw [ht] at hI
  generalize H1 = H at hI hS ⊢
  refine W.widen (k := 0) (n := 0) (Nat.le_of_ble_eq_true rfl) (Nat.le_of_ble_eq_true rfl) ?_
  have w_13 : r_14.toInt = 0 ∨ (0 ≤ p1.toInt ∧ p1.toInt < 12) := w_13
  refine lv_if_ne (tgt := 21) hx hb dX11_leave_8 (by decide) (fun c_15 => ?_) (fun c_15 => ?_)
  · have c_15 := kn_eq rfl (by decide : Int32.toInt 0 = 0) c_15
    refine lv_aload_n hx hb dX11_leave_21 rfl (lv_at hl 0 rfl) ?_
    refine k_get (ci := 11) (v := .ref (gr g h0 3)) (C := RX11) (T := TX11) (N := 12) hx hb hts (fun _ h0_ => List.mem_cons_of_mem _ (List.mem_append_right _ (List.mem_append_left _ h0_))) hown hK hI i_h0.1 k_1 rfl 3 (by decide) (hts (.fieldLink RX11 37 "DeadlineShare" "now" "LDeadlineShare$State;") (List.mem_cons_of_mem _ (List.mem_append_left _ (List.mem_of_getElem? (i := 0) rfl)))) (fun _ h9 => h9) rfl dX11_leave_22 ?_
    refine k_get (ci := 6) (v := .ref (gr g (gr g h0 3) 1)) (C := RX6) (T := TX6) (N := 10) hx hb hts (fun _ h0_ => List.mem_cons_of_mem _ (List.mem_append_right _ (List.mem_append_right _ (List.mem_append_right _ (List.mem_append_left _ h0_))))) hown hK hI i_4.1 k_5 rfl 1 (by decide) (hts (.fieldLink RX11 133 "DeadlineShare$State" "tasks" "[LDeadlineShare$Task;") (List.mem_cons_of_mem _ (List.mem_append_left _ (List.mem_of_getElem? (i := 5) rfl)))) (fun _ h9 => h9) rfl dX11_leave_25 ?_
    have i_19 := kw_6_1 hG i_4
    refine lv_iload_n hx hb dX11_leave_28 rfl (lv_at hl 1 rfl) ?_
    obtain ⟨q_21, k_20, b_22⟩ := op_20 hI i_19
    refine k_aald hx hb hK hI i_19.1 4 k_20 rfl (vp_in_iff.mpr (by omega)) b_22 (fun _ hj => kw_20 hG i_19 hj) dX11_leave_29 (fun a_23 i_24 => ?_)
    refine lv_astore_n (lv' := [(2, .ref a_23), (0, .ref h0), (1, .int p1)]) hx hb dX11_leave_30 rfl hl (by decide) rfl (fun ls hl => ?_)
    refine lv_aload_n hx hb dX11_leave_31 rfl (lv_at hl 0 rfl) ?_
    obtain ⟨x_26, x_27, x_28, x_29, x_30, x_31, x_32, x_33, x_34, x_35, x_36, x_37, x_38, x_39, x_40, x_41, k_25⟩ := op_8 hI i_24
    refine k_get (ci := 8) (v := .int x_29) (C := RX8) (T := TX8) (N := 18) hx hb hts (fun _ h0_ => List.mem_cons_of_mem _ (List.mem_append_right _ (List.mem_append_right _ (List.mem_append_right _ (List.mem_append_right _ (List.mem_append_left _ h0_)))))) hown hK hI i_24.1 k_25 rfl 4 (by decide) (hts (.fieldLink RX11 137 "DeadlineShare$Task" "state" "I") (List.mem_cons_of_mem _ (List.mem_append_left _ (List.mem_of_getElem? (i := 6) rfl)))) (fun _ h9 => h9) rfl dX11_leave_32 ?_
    refine lv_if_ne (tgt := 48) hx hb dX11_leave_35 (by decide) (fun c_42 => ?_) (fun c_42 => ?_)
    · have c_42 := kn_eq rfl (by decide : Int32.toInt 0 = 0) c_42
      refine lv_aload_n hx hb dX11_leave_48 rfl (lv_at hl 1 rfl) ?_
      refine k_get (ci := 11) (v := .ref (gr g h0 9)) (C := RX11) (T := TX11) (N := 12) hx hb hts (fun _ h0_ => List.mem_cons_of_mem _ (List.mem_append_right _ (List.mem_append_left _ h0_))) hown hK hI i_h0.1 k_1 rfl 9 (by decide) (hts (.fieldLink RX11 65 "DeadlineShare" "history" "LDeadlineShare$History;") (List.mem_cons_of_mem _ (List.mem_append_left _ (List.mem_of_getElem? (i := 7) rfl)))) (fun _ h9 => h9) rfl dX11_leave_49 ?_
      have i_44 := kw_11_9 hG i_h0
      refine lv_aload_n hx hb dX11_leave_52 rfl (lv_at hl 1 rfl) ?_
      refine k_get (ci := 11) (v := .ref (gr g h0 3)) (C := RX11) (T := TX11) (N := 12) hx hb hts (fun _ h0_ => List.mem_cons_of_mem _ (List.mem_append_right _ (List.mem_append_left _ h0_))) hown hK hI i_h0.1 k_1 rfl 3 (by decide) (hts (.fieldLink RX11 37 "DeadlineShare" "now" "LDeadlineShare$State;") (List.mem_cons_of_mem _ (List.mem_append_left _ (List.mem_of_getElem? (i := 0) rfl)))) (fun _ h9 => h9) rfl dX11_leave_53 ?_
      refine lv_iconst (v := 2) hx hb dX11_leave_56 (by decide) ?_
      obtain ⟨x_48, x_49, k_47⟩ := op_1 hI i_44
      refine va_callv (va_runV (As := [.ref (gr g h0 3), .int 2]) (rest := []) ⟨hx, hb, hml, hown, hts⟩ (c_X1_keep l dC dI g A hG f (gr g h0 9) (gr g h0 3) 2 i_44 i_4) (cwV 2 hts (gi_V (fun w_ h0_ => ⟨List.mem_cons_of_mem _ (List.mem_append_right _ (List.mem_append_right _ (List.mem_append_right _ (List.mem_append_right _ (List.mem_append_right _ (List.mem_append_left _ h0_)))))), (tb_c_X1_keep w_ h0_).2⟩) (List.mem_cons_of_mem _ (List.mem_append_left _ (List.mem_of_getElem? (i := 8) rfl))) (List.mem_cons_of_mem _ (List.mem_append_left _ (List.mem_of_getElem? (i := 9) rfl))) (List.mem_cons_of_mem _ (List.mem_append_left _ (List.mem_of_getElem? (i := 10) rfl))) (List.mem_cons_of_mem _ (List.mem_append_left _ (List.mem_of_getElem? (i := 11) rfl)))) rfl rfl rfl (by decide +kernel) ⟨Nat.le_of_ble_eq_true rfl, Nat.le_of_ble_eq_true rfl⟩) ⟨fun a U g mk q => ⟨q.1, q.2.calling rfl rfl⟩, k_recv hK hI i_44.1 k_47 (ci := 1) rfl, fun U hU hW => ⟨rfl, kIn.of hI hK hE hS hU hW⟩⟩ rfl rfl hl.1 rfl (lv_room (Nat.le_of_ble_eq_true rfl)) dX11_leave_57 ⟨Nat.le_of_ble_eq_true rfl, Nat.le_of_ble_eq_true rfl⟩) hS (fun q _ h => h) (fun q h => h) (fun u t H1 locs ht hvm _ hB hz1 hk1 hS => ?_)
      obtain ⟨f_50, hI, kc_52⟩ := hB
      rw [ht] at hI
      have k_54 : f_50 h0 = .inr (11, [.ref (gr g h0 0), .ref (gr g h0 1), .ref (gr g h0 2), .ref (gr g h0 3), .ref (gr g h0 4), .ref (gr g h0 5), .ref (gr g h0 6), .ref (gr g h0 7), .ref (gr g h0 8), .ref (gr g h0 9), .ref (gr g h0 10), .int x_2]) := Kp.at kc_52 i_h0 (by decide) k_1
      have k_55 : f_50 (gr g (gr g h0 3) 1) = .inl (gc g 4, 12, .inr (.inr (.inr (.inr q_21)))) := Kp.at kc_52 i_19 (by decide) k_20
      have kp_56 := Kp.call hk0 kc_52 (by decide)
      generalize H1 = H at hI hS ⊢
      refine W.widen (k := 0) (n := 0) (Nat.le_of_ble_eq_true rfl) (Nat.le_of_ble_eq_true rfl) ?_
      refine lv_aload_n hx hb dX11_leave_60 rfl (lv_at hl 0 rfl) ?_
      obtain ⟨x_58, x_59, x_60, x_61, x_62, x_63, x_64, x_65, x_66, x_67, x_68, x_69, x_70, x_71, x_72, x_73, k_57⟩ := op_8 hI i_24
      refine va_calli (va_runV (As := []) (rest := []) ⟨hx, hb, hml, hown, hts⟩ (c_X8_isOn l dC dI g A hG f_50 a_23 i_24) (cwV 0 hts (gi_V (fun w_ h0_ => ⟨List.mem_cons_of_mem _ (List.mem_append_right _ (List.mem_append_right _ (List.mem_append_right _ (List.mem_append_right _ (List.mem_append_right _ (List.mem_append_right _ (List.mem_append_left _ h0_))))))), (tb_c_X8_isOn w_ h0_).2⟩) (List.mem_cons_of_mem _ (List.mem_append_left _ (List.mem_of_getElem? (i := 12) rfl))) (List.mem_cons_of_mem _ (List.mem_append_left _ (List.mem_of_getElem? (i := 13) rfl))) (List.mem_cons_of_mem _ (List.mem_append_left _ (List.mem_of_getElem? (i := 14) rfl))) (List.mem_cons_of_mem _ (List.mem_append_left _ (List.mem_of_getElem? (i := 15) rfl)))) rfl rfl rfl (by decide +kernel) ⟨Nat.le_of_ble_eq_true rfl, Nat.le_of_ble_eq_true rfl⟩) ⟨fun a U g mk q => ⟨q.1, q.2.calling rfl rfl⟩, k_recv hK hI i_24.1 k_57 (ci := 8) rfl, fun U hU hW => ⟨rfl, kIn.of hI hK hE hS hU hW⟩⟩ rfl rfl hl.1 rfl (lv_room (Nat.le_of_ble_eq_true rfl)) dX11_leave_61 ⟨Nat.le_of_ble_eq_true rfl, Nat.le_of_ble_eq_true rfl⟩) hS (fun q _ h => h) (fun q h => h) (fun r_75 u t H1 locs ht hvm w_74 hB hz1 hk1 hS => ?_)
      have hI : Iv dC dI g A f_50 t.heap := hB
      rw [ht] at hI
      generalize H1 = H at hI hS ⊢
      refine W.widen (k := 0) (n := 0) (Nat.le_of_ble_eq_true rfl) (Nat.le_of_ble_eq_true rfl) ?_
      have J_76 : ∀ (f_76 : Nat → va_E) (H : Heap) (locs : List Loc) (ls : Array Slot), Iv dC dI g A f_76 H → va_S A s.heap H locs → f_76 h0 = .inr (11, [.ref (gr g h0 0), .ref (gr g h0 1), .ref (gr g h0 2), .ref (gr g h0 3), .ref (gr g h0 4), .ref (gr g h0 5), .ref (gr g h0 6), .ref (gr g h0 7), .ref (gr g h0 8), .ref (gr g h0 9), .ref (gr g h0 10), .int x_2]) → f_76 (gr g (gr g h0 3) 1) = .inl (gc g 4, 12, .inr (.inr (.inr (.inr q_21)))) → Kp g [1, 4, 5, 6, 8, 10, 23, 24, 27, 28] f f_76 → lv_has ls 3 [(2, .ref a_23), (0, .ref h0), (1, .int p1)] → W p l e (headSpec wq_c_X11_leave ({ frames := 5, cells := 0, slots := 0, locals := 126 } : Room)).room s m ([.ref h0, .int p1].toArray) below meth c H locs 0 0 (MQ below (va_Qi (fun (r : Int32) (_ : Unit) => True) (fun (_ : Unit) t => ∃ f1 : Nat → va_E, Iv dC dI g A f1 t.heap ∧ Kp g [1, 4, 5, 6, 8, 10, 23, 24, 27, 28] f f1) A) ([.ref h0, .int p1].toArray) s 0 0 A) (F0 m 76 ls []) := by
        intro f_76 H locs ls hI hS k_77 k_78 kp_79 hl
        refine lv_aload_n hx hb dX11_leave_76 rfl (lv_at hl 0 rfl) ?_
        refine lv_iconst (v := 0) hx hb dX11_leave_77 (by decide) ?_
        obtain ⟨x_81, x_82, x_83, x_84, x_85, x_86, x_87, x_88, x_89, x_90, x_91, x_92, x_93, x_94, x_95, x_96, k_80⟩ := op_8 hI i_24
        refine k_put (ci := 8) (v := .int 0) (ty := .int) (C := RX8) (T := TX8) (N := 18) hx hb hts (fun _ h0_ => List.mem_cons_of_mem _ (List.mem_append_right _ (List.mem_append_right _ (List.mem_append_right _ (List.mem_append_right _ (List.mem_append_left _ h0_)))))) tyX8 tyX8_ok nmX8 hown hK hI hS i_24.1 k_80 rfl 4 (by decide) (hts (.fieldLink RX11 137 "DeadlineShare$Task" "state" "I") (List.mem_cons_of_mem _ (List.mem_append_left _ (List.mem_of_getElem? (i := 6) rfl)))) (fun _ h9 => h9) rfl (by decide +kernel) rfl rfl (Nat.le_of_ble_eq_true rfl) rfl (cl_8 i_24) dX11_leave_78 (fun f_97 H locs e_98 hI hS => ?_)
        have k_100 : f_97 h0 = .inr (11, [.ref (gr g h0 0), .ref (gr g h0 1), .ref (gr g h0 2), .ref (gr g h0 3), .ref (gr g h0 4), .ref (gr g h0 5), .ref (gr g h0 6), .ref (gr g h0 7), .ref (gr g h0 8), .ref (gr g h0 9), .ref (gr g h0 10), .int x_2]) := by rw [e_98, va_up_ne _ _ (ik_ne i_h0 i_24 (by decide))]; exact k_77
        have k_101 : f_97 (gr g (gr g h0 3) 1) = .inl (gc g 4, 12, .inr (.inr (.inr (.inr q_21)))) := by rw [e_98, va_up_ne _ _ (ik_ne i_19 i_24 (by decide))]; exact k_78
        have k_102 : f_97 a_23 = .inr (8, [.int x_81, .ref (gr g a_23 1), .int x_82, .int x_83, .int 0, .long x_85, .int x_86, .ref (gr g a_23 7), .int x_87, .int x_88, .int x_89, .int x_90, .int x_91, .int x_92, .int x_93, .int x_94, .int x_95, .int x_96]) := by rw [e_98]; exact va_up_self _ _ _
        have kp_99 := Kp.put kp_79 i_24 (by decide) e_98
        refine lv_aload_n hx hb dX11_leave_81 rfl (lv_at hl 0 rfl) ?_
        refine k_get (ci := 8) (v := .ref (gr g a_23 1)) (C := RX8) (T := TX8) (N := 18) hx hb hts (fun _ h0_ => List.mem_cons_of_mem _ (List.mem_append_right _ (List.mem_append_right _ (List.mem_append_right _ (List.mem_append_right _ (List.mem_append_left _ h0_)))))) hown hK hI i_24.1 k_102 rfl 1 (by decide) (hts (.fieldLink RX11 166 "DeadlineShare$Task" "script" "LDeadlineShare$Script;") (List.mem_cons_of_mem _ (List.mem_append_left _ (List.mem_of_getElem? (i := 16) rfl)))) (fun _ h9 => h9) rfl dX11_leave_82 ?_
        have i_104 := kw_8_1 hG i_24
        obtain ⟨x_106, x_107, x_108, x_109, k_105, b_110, b_111⟩ := op_5 hI i_104
        refine va_callv (va_runV (As := []) (rest := []) ⟨hx, hb, hml, hown, hts⟩ (c_X5_drop l dC dI g A hG f_97 (gr g a_23 1) i_104) (cwV 0 hts (gi_V (fun w_ h0_ => ⟨List.mem_cons_of_mem _ (List.mem_append_right _ (List.mem_append_right _ (List.mem_append_right _ (List.mem_append_right _ (List.mem_append_right _ (List.mem_append_right _ (List.mem_append_right _ (List.mem_append_left _ h0_)))))))), (tb_c_X5_drop w_ h0_).2⟩) (List.mem_cons_of_mem _ (List.mem_append_left _ (List.mem_of_getElem? (i := 17) rfl))) (List.mem_cons_of_mem _ (List.mem_append_left _ (List.mem_of_getElem? (i := 18) rfl))) (List.mem_cons_of_mem _ (List.mem_append_left _ (List.mem_of_getElem? (i := 19) rfl))) (List.mem_cons_of_mem _ (List.mem_append_left _ (List.mem_of_getElem? (i := 20) rfl)))) rfl rfl rfl (by decide +kernel) ⟨Nat.le_of_ble_eq_true rfl, Nat.le_of_ble_eq_true rfl⟩) ⟨fun a U g mk q => ⟨q.1, q.2.calling rfl rfl⟩, k_recv hK hI i_104.1 k_105 (ci := 5) rfl, fun U hU hW => ⟨rfl, kIn.of hI hK hE hS hU hW⟩⟩ rfl rfl hl.1 rfl (lv_room (Nat.le_of_ble_eq_true rfl)) dX11_leave_85 ⟨Nat.le_of_ble_eq_true rfl, Nat.le_of_ble_eq_true rfl⟩) hS (fun q _ h => h) (fun q h => h) (fun u t H1 locs ht hvm _ hB hz1 hk1 hS => ?_)
        obtain ⟨f_112, hI, kc_114⟩ := hB
        rw [ht] at hI
        have k_116 : f_112 h0 = .inr (11, [.ref (gr g h0 0), .ref (gr g h0 1), .ref (gr g h0 2), .ref (gr g h0 3), .ref (gr g h0 4), .ref (gr g h0 5), .ref (gr g h0 6), .ref (gr g h0 7), .ref (gr g h0 8), .ref (gr g h0 9), .ref (gr g h0 10), .int x_2]) := Kp.at kc_114 i_h0 (by decide) k_100
        have k_117 : f_112 (gr g (gr g h0 3) 1) = .inl (gc g 4, 12, .inr (.inr (.inr (.inr q_21)))) := Kp.at kc_114 i_19 (by decide) k_101
        have k_118 : f_112 a_23 = .inr (8, [.int x_81, .ref (gr g a_23 1), .int x_82, .int x_83, .int 0, .long x_85, .int x_86, .ref (gr g a_23 7), .int x_87, .int x_88, .int x_89, .int x_90, .int x_91, .int x_92, .int x_93, .int x_94, .int x_95, .int x_96]) := Kp.at kc_114 i_24 (by decide) k_102
        have kp_119 := Kp.call kp_99 kc_114 (by decide)
        generalize H1 = H at hI hS ⊢
        refine W.widen (k := 0) (n := 0) (Nat.le_of_ble_eq_true rfl) (Nat.le_of_ble_eq_true rfl) ?_
        refine lv_aload_n hx hb dX11_leave_88 rfl (lv_at hl 1 rfl) ?_
        refine k_get (ci := 11) (v := .ref (gr g h0 10)) (C := RX11) (T := TX11) (N := 12) hx hb hts (fun _ h0_ => List.mem_cons_of_mem _ (List.mem_append_right _ (List.mem_append_left _ h0_))) hown hK hI i_h0.1 k_116 rfl 10 (by decide) (hts (.fieldLink RX11 72 "DeadlineShare" "refusals" "LDeadlineShare$Refusals;") (List.mem_cons_of_mem _ (List.mem_append_left _ (List.mem_of_getElem? (i := 21) rfl)))) (fun _ h9 => h9) rfl dX11_leave_89 ?_
        have i_121 := kw_11_10 hG i_h0
        refine lv_aload_n hx hb dX11_leave_92 rfl (lv_at hl 1 rfl) ?_
        refine k_get (ci := 11) (v := .ref (gr g h0 3)) (C := RX11) (T := TX11) (N := 12) hx hb hts (fun _ h0_ => List.mem_cons_of_mem _ (List.mem_append_right _ (List.mem_append_left _ h0_))) hown hK hI i_h0.1 k_116 rfl 3 (by decide) (hts (.fieldLink RX11 37 "DeadlineShare" "now" "LDeadlineShare$State;") (List.mem_cons_of_mem _ (List.mem_append_left _ (List.mem_of_getElem? (i := 0) rfl)))) (fun _ h9 => h9) rfl dX11_leave_93 ?_
        obtain ⟨x_125, x_126, x_127, x_128, x_129, k_124, b_130, b_131⟩ := op_6 hI i_4
        refine va_calli (va_runV (As := []) (rest := [.ref (gr g h0 10)]) ⟨hx, hb, hml, hown, hts⟩ (c_X6_weightOfAll l dC dI g A hG f_112 (gr g h0 3) i_4) (cwV 0 hts (gi_V (fun w_ h0_ => ⟨List.mem_cons_of_mem _ (List.mem_append_right _ (List.mem_append_right _ (List.mem_append_right _ (List.mem_append_right _ (List.mem_append_right _ (List.mem_append_right _ (List.mem_append_right _ (List.mem_append_right _ (List.mem_append_left _ h0_))))))))), (tb_c_X6_weightOfAll w_ h0_).2⟩) (List.mem_cons_of_mem _ (List.mem_append_left _ (List.mem_of_getElem? (i := 22) rfl))) (List.mem_cons_of_mem _ (List.mem_append_left _ (List.mem_of_getElem? (i := 23) rfl))) (List.mem_cons_of_mem _ (List.mem_append_left _ (List.mem_of_getElem? (i := 24) rfl))) (List.mem_cons_of_mem _ (List.mem_append_left _ (List.mem_of_getElem? (i := 4) rfl)))) rfl rfl rfl (by decide +kernel) ⟨Nat.le_of_ble_eq_true rfl, Nat.le_of_ble_eq_true rfl⟩) ⟨fun a U g mk q => ⟨q.1, q.2.calling rfl rfl⟩, k_recv hK hI i_4.1 k_124 (ci := 6) rfl, fun U hU hW => ⟨rfl, kIn.of hI hK hE hS hU hW⟩⟩ rfl rfl hl.1 rfl (lv_room (Nat.le_of_ble_eq_true rfl)) dX11_leave_96 ⟨Nat.le_of_ble_eq_true rfl, Nat.le_of_ble_eq_true rfl⟩) hS (fun q _ h => h) (fun q h => h) (fun r_133 u t H1 locs ht hvm w_132 hB hz1 hk1 hS => ?_)
        have hI : Iv dC dI g A f_112 t.heap := hB
        rw [ht] at hI
        generalize H1 = H at hI hS ⊢
        refine W.widen (k := 0) (n := 0) (Nat.le_of_ble_eq_true rfl) (Nat.le_of_ble_eq_true rfl) ?_
        obtain ⟨x_135, k_134⟩ := op_4 hI i_121
        refine va_calli (va_runV (As := [.int r_133]) (rest := []) ⟨hx, hb, hml, hown, hts⟩ (c_X4_none l dC dI g A hG f_112 (gr g h0 10) r_133 i_121) (cwV 1 hts (gi_V (fun w_ h0_ => ⟨List.mem_cons_of_mem _ (List.mem_append_right _ (List.mem_append_right _ (List.mem_append_right _ (List.mem_append_right _ (List.mem_append_right _ (List.mem_append_right _ (List.mem_append_right _ (List.mem_append_right _ (List.mem_append_right _ (List.mem_append_left _ h0_)))))))))), (tb_c_X4_none w_ h0_).2⟩) (List.mem_cons_of_mem _ (List.mem_append_left _ (List.mem_of_getElem? (i := 25) rfl))) (List.mem_cons_of_mem _ (List.mem_append_left _ (List.mem_of_getElem? (i := 26) rfl))) (List.mem_cons_of_mem _ (List.mem_append_left _ (List.mem_of_getElem? (i := 27) rfl))) (List.mem_cons_of_mem _ (List.mem_append_left _ (List.mem_of_getElem? (i := 28) rfl)))) rfl rfl rfl (by decide +kernel) ⟨Nat.le_of_ble_eq_true rfl, Nat.le_of_ble_eq_true rfl⟩) ⟨fun a U g mk q => ⟨q.1, q.2.calling rfl rfl⟩, k_recv hK hI i_121.1 k_134 (ci := 4) rfl, fun U hU hW => ⟨rfl, kIn.of hI hK hE hS hU hW⟩⟩ rfl rfl hl.1 rfl (lv_room (Nat.le_of_ble_eq_true rfl)) dX11_leave_99 ⟨Nat.le_of_ble_eq_true rfl, Nat.le_of_ble_eq_true rfl⟩) hS (fun q _ h => h) (fun q h => h) (fun r_138 u t H1 locs ht hvm w_137 hB hz1 hk1 hS => ?_)
        obtain ⟨f_136, hI, kc_139⟩ := hB
        rw [ht] at hI
        have k_141 : f_136 h0 = .inr (11, [.ref (gr g h0 0), .ref (gr g h0 1), .ref (gr g h0 2), .ref (gr g h0 3), .ref (gr g h0 4), .ref (gr g h0 5), .ref (gr g h0 6), .ref (gr g h0 7), .ref (gr g h0 8), .ref (gr g h0 9), .ref (gr g h0 10), .int x_2]) := Kp.at kc_139 i_h0 (by decide) k_116
        have k_142 : f_136 (gr g (gr g h0 3) 1) = .inl (gc g 4, 12, .inr (.inr (.inr (.inr q_21)))) := Kp.at kc_139 i_19 (by decide) k_117
        have k_143 : f_136 a_23 = .inr (8, [.int x_81, .ref (gr g a_23 1), .int x_82, .int x_83, .int 0, .long x_85, .int x_86, .ref (gr g a_23 7), .int x_87, .int x_88, .int x_89, .int x_90, .int x_91, .int x_92, .int x_93, .int x_94, .int x_95, .int x_96]) := Kp.at kc_139 i_24 (by decide) k_118
        have k_144 : f_136 (gr g h0 3) = .inr (6, [.ref (gr g (gr g h0 3) 0), .ref (gr g (gr g h0 3) 1), .ref (gr g (gr g h0 3) 2), .ref (gr g (gr g h0 3) 3), .ref (gr g (gr g h0 3) 4), .int x_125, .int x_126, .long x_127, .int x_128, .int x_129]) := Kp.at kc_139 i_4 (by decide) k_124
        have kp_145 := Kp.call kp_119 kc_139 (by decide)
        generalize H1 = H at hI hS ⊢
        refine W.widen (k := 0) (n := 0) (Nat.le_of_ble_eq_true rfl) (Nat.le_of_ble_eq_true rfl) ?_
        exact W.iret (v := r_138) hx hb hr (fun t ht hW => ⟨⟨r_138, (), rfl, trivial, ⟨f_136, k_ret ht hI, kp_145⟩⟩, hS.F ht⟩) hS.2.2 dX11_leave_102
      refine lv_if_eq (tgt := 76) hx hb dX11_leave_64 (by decide) (fun c_146 => ?_) (fun c_146 => ?_)
      · have c_146 := kc_eq rfl (by decide : Int32.toInt 0 = 0) c_146
        exact J_76 f_50 _ _ _ hI hS k_54 k_55 kp_56 (lv_sub hl [0, 1, 2] rfl)
      · have c_146 := kn_eq rfl (by decide : Int32.toInt 0 = 0) c_146
        refine lv_aload_n hx hb dX11_leave_67 rfl (lv_at hl 1 rfl) ?_
        refine k_get (ci := 11) (v := .ref (gr g h0 3)) (C := RX11) (T := TX11) (N := 12) hx hb hts (fun _ h0_ => List.mem_cons_of_mem _ (List.mem_append_right _ (List.mem_append_left _ h0_))) hown hK hI i_h0.1 k_54 rfl 3 (by decide) (hts (.fieldLink RX11 37 "DeadlineShare" "now" "LDeadlineShare$State;") (List.mem_cons_of_mem _ (List.mem_append_left _ (List.mem_of_getElem? (i := 0) rfl)))) (fun _ h9 => h9) rfl dX11_leave_68 ?_
        refine lv_aload_n hx hb dX11_leave_71 rfl (lv_at hl 0 rfl) ?_
        refine lv_iconst (v := 0) hx hb dX11_leave_72 (by decide) ?_
        obtain ⟨x_150, x_151, x_152, x_153, x_154, k_149, b_155, b_156⟩ := op_6 hI i_4
        refine va_callv (va_runV (As := [.ref a_23, .int 0]) (rest := []) ⟨hx, hb, hml, hown, hts⟩ (c_X6_depart l dC dI g A hG f_50 (gr g h0 3) a_23 0 i_4 i_24) (cwV 2 hts (gi_V (fun w_ h0_ => ⟨List.mem_cons_of_mem _ (List.mem_append_right _ (List.mem_append_right _ (List.mem_append_right _ (List.mem_append_right _ (List.mem_append_right _ (List.mem_append_right _ (List.mem_append_right _ (List.mem_append_right _ (List.mem_append_right _ (List.mem_append_right _ (List.mem_append_left _ h0_))))))))))), (tb_c_X6_depart w_ h0_).2⟩) (List.mem_cons_of_mem _ (List.mem_append_left _ (List.mem_of_getElem? (i := 29) rfl))) (List.mem_cons_of_mem _ (List.mem_append_left _ (List.mem_of_getElem? (i := 30) rfl))) (List.mem_cons_of_mem _ (List.mem_append_left _ (List.mem_of_getElem? (i := 31) rfl))) (List.mem_cons_of_mem _ (List.mem_append_left _ (List.mem_of_getElem? (i := 4) rfl)))) rfl rfl rfl (by decide +kernel) ⟨Nat.le_of_ble_eq_true rfl, Nat.le_of_ble_eq_true rfl⟩) ⟨fun a U g mk q => ⟨q.1, q.2.calling rfl rfl⟩, k_recv hK hI i_4.1 k_149 (ci := 6) rfl, fun U hU hW => ⟨rfl, kIn.of hI hK hE hS hU hW⟩⟩ rfl rfl hl.1 rfl (lv_room (Nat.le_of_ble_eq_true rfl)) dX11_leave_73 ⟨Nat.le_of_ble_eq_true rfl, Nat.le_of_ble_eq_true rfl⟩) hS (fun q _ h => h) (fun q h => h) (fun u t H1 locs ht hvm _ hB hz1 hk1 hS => ?_)
        obtain ⟨f_157, hI, kc_159⟩ := hB
        rw [ht] at hI
        have k_161 : f_157 h0 = .inr (11, [.ref (gr g h0 0), .ref (gr g h0 1), .ref (gr g h0 2), .ref (gr g h0 3), .ref (gr g h0 4), .ref (gr g h0 5), .ref (gr g h0 6), .ref (gr g h0 7), .ref (gr g h0 8), .ref (gr g h0 9), .ref (gr g h0 10), .int x_2]) := Kp.at kc_159 i_h0 (by decide) k_54
        have k_162 : f_157 (gr g (gr g h0 3) 1) = .inl (gc g 4, 12, .inr (.inr (.inr (.inr q_21)))) := Kp.at kc_159 i_19 (by decide) k_55
        have kp_163 := Kp.call kp_56 kc_159 (by decide)
        generalize H1 = H at hI hS ⊢
        refine W.widen (k := 0) (n := 0) (Nat.le_of_ble_eq_true rfl) (Nat.le_of_ble_eq_true rfl) ?_
        exact J_76 f_157 _ _ _ hI hS k_161 k_162 kp_163 (lv_sub hl [0, 1, 2] rfl)
    · have c_42 := kc_eq rfl (by decide : Int32.toInt 0 = 0) c_42
      refine lv_aload_n hx hb dX11_leave_38 rfl (lv_at hl 1 rfl) ?_
      refine k_get (ci := 11) (v := .ref (gr g h0 10)) (C := RX11) (T := TX11) (N := 12) hx hb hts (fun _ h0_ => List.mem_cons_of_mem _ (List.mem_append_right _ (List.mem_append_left _ h0_))) hown hK hI i_h0.1 k_1 rfl 10 (by decide) (hts (.fieldLink RX11 72 "DeadlineShare" "refusals" "LDeadlineShare$Refusals;") (List.mem_cons_of_mem _ (List.mem_append_left _ (List.mem_of_getElem? (i := 21) rfl)))) (fun _ h9 => h9) rfl dX11_leave_39 ?_
      have i_165 := kw_11_10 hG i_h0
      refine lv_bipush (v := (-4)) hx hb dX11_leave_42 (by decide) ?_
      obtain ⟨x_167, k_166⟩ := op_4 hI i_165
      refine va_calli (va_runV (As := [.int (-4)]) (rest := []) ⟨hx, hb, hml, hown, hts⟩ (c_X4_add l dC dI g A hG f (gr g h0 10) (-4) i_165) (cwV 1 hts (gi_V (fun w_ h0_ => ⟨List.mem_cons_of_mem _ (List.mem_append_right _ (List.mem_append_right _ (List.mem_append_right _ (List.mem_append_right _ (List.mem_append_right _ (List.mem_append_right _ (List.mem_append_right _ (List.mem_append_right _ (List.mem_append_right _ (List.mem_append_right _ (List.mem_append_right _ (List.mem_append_left _ h0_)))))))))))), (tb_c_X4_add w_ h0_).2⟩) (List.mem_cons_of_mem _ (List.mem_append_left _ (List.mem_of_getElem? (i := 32) rfl))) (List.mem_cons_of_mem _ (List.mem_append_left _ (List.mem_of_getElem? (i := 33) rfl))) (List.mem_cons_of_mem _ (List.mem_append_left _ (List.mem_of_getElem? (i := 34) rfl))) (List.mem_cons_of_mem _ (List.mem_append_left _ (List.mem_of_getElem? (i := 28) rfl)))) rfl rfl rfl (by decide +kernel) ⟨Nat.le_of_ble_eq_true rfl, Nat.le_of_ble_eq_true rfl⟩) ⟨fun a U g mk q => ⟨q.1, q.2.calling rfl rfl⟩, k_recv hK hI i_165.1 k_166 (ci := 4) rfl, fun U hU hW => ⟨rfl, kIn.of hI hK hE hS hU hW⟩⟩ rfl rfl hl.1 rfl (lv_room (Nat.le_of_ble_eq_true rfl)) dX11_leave_44 ⟨Nat.le_of_ble_eq_true rfl, Nat.le_of_ble_eq_true rfl⟩) hS (fun q _ h => h) (fun q h => h) (fun r_170 u t H1 locs ht hvm w_169 hB hz1 hk1 hS => ?_)
      obtain ⟨f_168, hI, kc_171⟩ := hB
      rw [ht] at hI
      have k_173 : f_168 h0 = .inr (11, [.ref (gr g h0 0), .ref (gr g h0 1), .ref (gr g h0 2), .ref (gr g h0 3), .ref (gr g h0 4), .ref (gr g h0 5), .ref (gr g h0 6), .ref (gr g h0 7), .ref (gr g h0 8), .ref (gr g h0 9), .ref (gr g h0 10), .int x_2]) := Kp.at kc_171 i_h0 (by decide) k_1
      have k_174 : f_168 (gr g h0 3) = .inr (6, [.ref (gr g (gr g h0 3) 0), .ref (gr g (gr g h0 3) 1), .ref (gr g (gr g h0 3) 2), .ref (gr g (gr g h0 3) 3), .ref (gr g (gr g h0 3) 4), .int x_6, .int x_7, .long x_8, .int x_9, .int x_10]) := Kp.at kc_171 i_4 (by decide) k_5
      have k_175 : f_168 (gr g (gr g h0 3) 1) = .inl (gc g 4, 12, .inr (.inr (.inr (.inr q_21)))) := Kp.at kc_171 i_19 (by decide) k_20
      have k_176 : f_168 a_23 = .inr (8, [.int x_26, .ref (gr g a_23 1), .int x_27, .int x_28, .int x_29, .long x_30, .int x_31, .ref (gr g a_23 7), .int x_32, .int x_33, .int x_34, .int x_35, .int x_36, .int x_37, .int x_38, .int x_39, .int x_40, .int x_41]) := Kp.at kc_171 i_24 (by decide) k_25
      have kp_177 := Kp.call hk0 kc_171 (by decide)
      generalize H1 = H at hI hS ⊢
      refine W.widen (k := 0) (n := 0) (Nat.le_of_ble_eq_true rfl) (Nat.le_of_ble_eq_true rfl) ?_
      exact W.iret (v := r_170) hx hb hr (fun t ht hW => ⟨⟨r_170, (), rfl, trivial, ⟨f_168, k_ret ht hI, kp_177⟩⟩, hS.F ht⟩) hS.2.2 dX11_leave_47
  · have c_15 := kc_eq rfl (by decide : Int32.toInt 0 = 0) c_15
    refine lv_aload_n hx hb dX11_leave_11 rfl (lv_at hl 0 rfl) ?_
    refine k_get (ci := 11) (v := .ref (gr g h0 10)) (C := RX11) (T := TX11) (N := 12) hx hb hts (fun _ h0_ => List.mem_cons_of_mem _ (List.mem_append_right _ (List.mem_append_left _ h0_))) hown hK hI i_h0.1 k_1 rfl 10 (by decide) (hts (.fieldLink RX11 72 "DeadlineShare" "refusals" "LDeadlineShare$Refusals;") (List.mem_cons_of_mem _ (List.mem_append_left _ (List.mem_of_getElem? (i := 21) rfl)))) (fun _ h9 => h9) rfl dX11_leave_12 ?_
    have i_179 := kw_11_10 hG i_h0
    refine lv_bipush (v := (-2)) hx hb dX11_leave_15 (by decide) ?_
    obtain ⟨x_181, k_180⟩ := op_4 hI i_179
    refine va_calli (va_runV (As := [.int (-2)]) (rest := []) ⟨hx, hb, hml, hown, hts⟩ (c_X4_add l dC dI g A hG f (gr g h0 10) (-2) i_179) (cwV 1 hts (gi_V (fun w_ h0_ => ⟨List.mem_cons_of_mem _ (List.mem_append_right _ (List.mem_append_right _ (List.mem_append_right _ (List.mem_append_right _ (List.mem_append_right _ (List.mem_append_right _ (List.mem_append_right _ (List.mem_append_right _ (List.mem_append_right _ (List.mem_append_right _ (List.mem_append_right _ (List.mem_append_left _ h0_)))))))))))), (tb_c_X4_add w_ h0_).2⟩) (List.mem_cons_of_mem _ (List.mem_append_left _ (List.mem_of_getElem? (i := 32) rfl))) (List.mem_cons_of_mem _ (List.mem_append_left _ (List.mem_of_getElem? (i := 33) rfl))) (List.mem_cons_of_mem _ (List.mem_append_left _ (List.mem_of_getElem? (i := 34) rfl))) (List.mem_cons_of_mem _ (List.mem_append_left _ (List.mem_of_getElem? (i := 28) rfl)))) rfl rfl rfl (by decide +kernel) ⟨Nat.le_of_ble_eq_true rfl, Nat.le_of_ble_eq_true rfl⟩) ⟨fun a U g mk q => ⟨q.1, q.2.calling rfl rfl⟩, k_recv hK hI i_179.1 k_180 (ci := 4) rfl, fun U hU hW => ⟨rfl, kIn.of hI hK hE hS hU hW⟩⟩ rfl rfl hl.1 rfl (lv_room (Nat.le_of_ble_eq_true rfl)) dX11_leave_17 ⟨Nat.le_of_ble_eq_true rfl, Nat.le_of_ble_eq_true rfl⟩) hS (fun q _ h => h) (fun q h => h) (fun r_184 u t H1 locs ht hvm w_183 hB hz1 hk1 hS => ?_)
    obtain ⟨f_182, hI, kc_185⟩ := hB
    rw [ht] at hI
    have k_187 : f_182 h0 = .inr (11, [.ref (gr g h0 0), .ref (gr g h0 1), .ref (gr g h0 2), .ref (gr g h0 3), .ref (gr g h0 4), .ref (gr g h0 5), .ref (gr g h0 6), .ref (gr g h0 7), .ref (gr g h0 8), .ref (gr g h0 9), .ref (gr g h0 10), .int x_2]) := Kp.at kc_185 i_h0 (by decide) k_1
    have k_188 : f_182 (gr g h0 3) = .inr (6, [.ref (gr g (gr g h0 3) 0), .ref (gr g (gr g h0 3) 1), .ref (gr g (gr g h0 3) 2), .ref (gr g (gr g h0 3) 3), .ref (gr g (gr g h0 3) 4), .int x_6, .int x_7, .long x_8, .int x_9, .int x_10]) := Kp.at kc_185 i_4 (by decide) k_5
    have kp_189 := Kp.call hk0 kc_185 (by decide)
    generalize H1 = H at hI hS ⊢
    refine W.widen (k := 0) (n := 0) (Nat.le_of_ble_eq_true rfl) (Nat.le_of_ble_eq_true rfl) ?_
    exact W.iret (v := r_184) hx hb hr (fun t ht hW => ⟨⟨r_184, (), rfl, trivial, ⟨f_182, k_ret ht hI, kp_189⟩⟩, hS.F ht⟩) hS.2.2 dX11_leave_20
theorem tw_499 : q_g (.methodLink RX11 179 yX6_weighAnew) := ⟨(List.mem_append_right _ (List.mem_of_getElem? (i := 572) (by decide +kernel))), good_of_word (by decide +kernel)⟩
theorem tw_500 : q_g (.methodLink RX11 175 yX6_canWeigh) := ⟨(List.mem_append_right _ (List.mem_of_getElem? (i := 567) (by decide +kernel))), good_of_word (by decide +kernel)⟩
theorem tw_501 : q_g (.code yX11_weigh cX11_weigh 5 (some .int)) := ⟨(List.mem_append_right _ (List.mem_of_getElem? (i := 566) (by decide +kernel))), good_of_word (by decide +kernel)⟩
def ow_c_X11_weigh : List Cond := [.methodLink RX11 112 yX11_isWeight, .static yX11_isWeight, .initialized RX11, .fieldLink RX11 37 "DeadlineShare" "now" "LDeadlineShare$State;", .methodLink RX11 130 yX6_has, .instanceMethod yX6_has, .selects RX6 yX6_has yX6_has, .initialized RX6, .fieldLink RX11 133 "DeadlineShare$State" "tasks" "[LDeadlineShare$Task;", .fieldLink RX11 145 "DeadlineShare$Task" "weight" "I", .methodLink RX11 175 yX6_canWeigh, .instanceMethod yX6_canWeigh, .selects RX6 yX6_canWeigh yX6_canWeigh, .fieldLink RX11 65 "DeadlineShare" "history" "LDeadlineShare$History;", .methodLink RX11 122 yX1_keep, .instanceMethod yX1_keep, .selects RX1 yX1_keep yX1_keep, .initialized RX1, .methodLink RX11 179 yX6_weighAnew, .instanceMethod yX6_weighAnew, .selects RX6 yX6_weighAnew yX6_weighAnew, .fieldLink RX11 72 "DeadlineShare" "refusals" "LDeadlineShare$Refusals;", .methodLink RX11 95 yX4_none, .instanceMethod yX4_none, .selects RX4 yX4_none yX4_none, .initialized RX4, .methodLink RX11 84 yX4_add, .instanceMethod yX4_add, .selects RX4 yX4_add yX4_add]
def wq_c_X11_weigh : List Cond := .code yX11_weigh cX11_weigh 5 (some .int) :: (ow_c_X11_weigh ++ (wq_c_X11_isWeight ++ (u_ws RX11 TX11 12 ++ (wq_c_X6_has ++ (u_ws RX6 TX6 10 ++ (u_ws RX8 TX8 18 ++ (wq_c_X6_canWeigh ++ (wq_c_X1_keep ++ (wq_c_X6_weighAnew ++ (wq_c_X4_none ++ (wq_c_X4_add ++ ([] : List Cond))))))))))))
theorem tb_c_X11_weigh : ∀ w ∈ wq_c_X11_weigh, q_g w := by
  unfold wq_c_X11_weigh ow_c_X11_weigh
  exact q_cons tw_501 (q_app (q_cons tw_483 (q_cons tw_482 (q_cons tw_56 (q_cons tw_479 (q_cons tw_492 (q_cons tw_74 (q_cons tw_73 (q_cons tw_47 (q_cons tw_491 (q_cons tw_488 (q_cons tw_500 (q_cons tw_335 (q_cons tw_334 (q_cons tw_477 (q_cons tw_476 (q_cons tw_475 (q_cons tw_474 (q_cons tw_473 (q_cons tw_499 (q_cons tw_332 (q_cons tw_331 (q_cons tw_443 (q_cons tw_442 (q_cons tw_441 (q_cons tw_440 (q_cons tw_204 (q_cons tw_439 (q_cons tw_438 (q_cons tw_437 q_nil))))))))))))))))))))))))))))) (q_app tb_c_X11_isWeight (q_app tu_X11 (q_app tb_c_X6_has (q_app tu_X6 (q_app tu_X8 (q_app tb_c_X6_canWeigh (q_app tb_c_X1_keep (q_app tb_c_X6_weighAnew (q_app tb_c_X4_none (q_app tb_c_X4_add q_nil)))))))))))
set_option maxHeartbeats 4000000 in
set_option maxRecDepth 100000 in
theorem c_X11_weigh (l : Launch) (dC : Nat → ClassId) (dI : Nat → Nat → Nat) (g : kG) (A : Nat → Prop) (hG : kWf g) (f : Nat → va_E) (h0 : Nat) (p1 : Int32) (p2 : Int32) (i_h0 : ik g 11 h0) : Met l yX11_weigh wq_c_X11_weigh ({ frames := 5, cells := 0, slots := 0, locals := 126 } : Room) (va_Pc [.ref h0, .int p1, .int p2] (fun U => kIn dC dI g A f U)) (va_Qi (fun (r : Int32) (_ : Unit) => True) (fun (_ : Unit) t => ∃ f1 : Nat → va_E, Iv dC dI g A f1 t.heap ∧ Kp g [1, 4, 5, 6, 8, 10, 23, 24, 27, 28] f f1) A) 0 0 A := by
  refine Met.ofW (cc := cX11_weigh) (maxL := 5) (ret := (some .int)) (by decide) rfl ?_
  intro p e s m args below meth c s₁ B hml hv
  obtain ⟨rfl, hI, hK, hE⟩ := hv
  have hx := B.exec
  have hb := B.bytes
  have hr := B.returns
  have hts := atoms_spec (ws := wq_c_X11_weigh) B.pre
  have hown : s.vm.findClass RX11 = some m.cls := findClass_of_methodNamed B.named
  have hlocks := B.notSynchronized
  have hS : va_S A s.heap s.heap [] := va_S.rf
  have hk0 : Kp g [1, 4, 5, 6, 8, 10, 23, 24, 27, 28] f f := Kp.rf
  have hl := lv_entry ([.ref h0, .int p1, .int p2]) (n := 5) (Nat.le_of_ble_eq_true rfl)
  rw [lg_entry_eq]
  generalize (lg_sl ([.ref h0, .int p1, .int p2]) ++ List.replicate (5 - (lg_sl ([.ref h0, .int p1, .int p2])).length) Slot.unset).toArray = ls at hl ⊢
  have hl : lv_has ls 5 [(0, .ref h0), (1, .int p1), (2, .int p2)] := hl
  refine lv_iload_n hx hb dX11_weigh_0 rfl (lv_at hl 2 rfl) ?_
  refine va_calli (va_runS (As := [.int p2]) (rest := []) ⟨hx, hb, hml, hown, hts⟩ (c_X11_isWeight l dC dI g A hG f p2) (va_cwS 1 hts (gi_S (fun w_ h0_ => ⟨List.mem_cons_of_mem _ (List.mem_append_right _ (List.mem_append_left _ h0_)), (tb_c_X11_isWeight w_ h0_).2⟩) (List.mem_cons_of_mem _ (List.mem_append_left _ (List.mem_of_getElem? (i := 0) rfl))) (List.mem_cons_of_mem _ (List.mem_append_left _ (List.mem_of_getElem? (i := 1) rfl))) (List.mem_cons_of_mem _ (List.mem_append_left _ (List.mem_of_getElem? (i := 2) rfl)))) rfl rfl rfl (by decide +kernel) ⟨Nat.le_of_ble_eq_true rfl, Nat.le_of_ble_eq_true rfl⟩) ⟨fun a U g mk q => ⟨q.1, q.2.calling rfl rfl⟩, fun U hU hW => ⟨rfl, kIn.of hI hK hE hS hU hW⟩⟩ rfl rfl hl.1 rfl (lv_room (Nat.le_of_ble_eq_true rfl)) dX11_weigh_1 ⟨Nat.le_of_ble_eq_true rfl, Nat.le_of_ble_eq_true rfl⟩) hS (fun q _ h => h) (fun q h => h) (fun r_2 u t H1 locs ht hvm w_1 hB hz1 hk1 hS => ?_)
  have hI : Iv dC dI g A f t.heap := hB
  rw [ht] at hI
  generalize H1 = H at hI hS ⊢
  refine W.widen (k := 0) (n := 0) (Nat.le_of_ble_eq_true rfl) (Nat.le_of_ble_eq_true rfl) ?_
  refine lv_if_ne (tgt := 16) hx hb dX11_weigh_4 (by decide) (fun c_3 => ?_) (fun c_3 => ?_)
  · have c_3 := kn_eq rfl (by decide : Int32.toInt 0 = 0) c_3
    refine lv_aload_n hx hb dX11_weigh_16 rfl (lv_at hl 0 rfl) ?_
    obtain ⟨x_5, k_4⟩ := op_11 hI i_h0
    refine k_get (ci := 11) (v := .ref (gr g h0 3)) (C := RX11) (T := TX11) (N := 12) hx hb hts (fun _ h0_ => List.mem_cons_of_mem _ (List.mem_append_right _ (List.mem_append_right _ (List.mem_append_left _ h0_)))) hown hK hI i_h0.1 k_4 rfl 3 (by decide) (hts (.fieldLink RX11 37 "DeadlineShare" "now" "LDeadlineShare$State;") (List.mem_cons_of_mem _ (List.mem_append_left _ (List.mem_of_getElem? (i := 3) rfl)))) (fun _ h9 => h9) rfl dX11_weigh_17 ?_
    have i_7 := kw_11_3 hG i_h0
    refine lv_iload_n hx hb dX11_weigh_20 rfl (lv_at hl 1 rfl) ?_
    obtain ⟨x_9, x_10, x_11, x_12, x_13, k_8, b_14, b_15⟩ := op_6 hI i_7
    refine va_calli (va_runV (As := [.int p1]) (rest := []) ⟨hx, hb, hml, hown, hts⟩ (c_X6_has l dC dI g A hG f (gr g h0 3) p1 i_7) (cwV 1 hts (gi_V (fun w_ h0_ => ⟨List.mem_cons_of_mem _ (List.mem_append_right _ (List.mem_append_right _ (List.mem_append_right _ (List.mem_append_left _ h0_)))), (tb_c_X6_has w_ h0_).2⟩) (List.mem_cons_of_mem _ (List.mem_append_left _ (List.mem_of_getElem? (i := 4) rfl))) (List.mem_cons_of_mem _ (List.mem_append_left _ (List.mem_of_getElem? (i := 5) rfl))) (List.mem_cons_of_mem _ (List.mem_append_left _ (List.mem_of_getElem? (i := 6) rfl))) (List.mem_cons_of_mem _ (List.mem_append_left _ (List.mem_of_getElem? (i := 7) rfl)))) rfl rfl rfl (by decide +kernel) ⟨Nat.le_of_ble_eq_true rfl, Nat.le_of_ble_eq_true rfl⟩) ⟨fun a U g mk q => ⟨q.1, q.2.calling rfl rfl⟩, k_recv hK hI i_7.1 k_8 (ci := 6) rfl, fun U hU hW => ⟨rfl, kIn.of hI hK hE hS hU hW⟩⟩ rfl rfl hl.1 rfl (lv_room (Nat.le_of_ble_eq_true rfl)) dX11_weigh_21 ⟨Nat.le_of_ble_eq_true rfl, Nat.le_of_ble_eq_true rfl⟩) hS (fun q _ h => h) (fun q h => h) (fun r_17 u t H1 locs ht hvm w_16 hB hz1 hk1 hS => ?_)
    have hI : Iv dC dI g A f t.heap := hB
    rw [ht] at hI
    generalize H1 = H at hI hS ⊢
    refine W.widen (k := 0) (n := 0) (Nat.le_of_ble_eq_true rfl) (Nat.le_of_ble_eq_true rfl) ?_
    have w_16 : r_17.toInt = 0 ∨ (0 ≤ p1.toInt ∧ p1.toInt < 12) := w_16
    refine lv_if_ne (tgt := 37) hx hb dX11_weigh_24 (by decide) (fun c_18 => ?_) (fun c_18 => ?_)
    · have c_18 := kn_eq rfl (by decide : Int32.toInt 0 = 0) c_18
      refine lv_aload_n hx hb dX11_weigh_37 rfl (lv_at hl 0 rfl) ?_
      refine k_get (ci := 11) (v := .ref (gr g h0 3)) (C := RX11) (T := TX11) (N := 12) hx hb hts (fun _ h0_ => List.mem_cons_of_mem _ (List.mem_append_right _ (List.mem_append_right _ (List.mem_append_left _ h0_)))) hown hK hI i_h0.1 k_4 rfl 3 (by decide) (hts (.fieldLink RX11 37 "DeadlineShare" "now" "LDeadlineShare$State;") (List.mem_cons_of_mem _ (List.mem_append_left _ (List.mem_of_getElem? (i := 3) rfl)))) (fun _ h9 => h9) rfl dX11_weigh_38 ?_
      refine k_get (ci := 6) (v := .ref (gr g (gr g h0 3) 1)) (C := RX6) (T := TX6) (N := 10) hx hb hts (fun _ h0_ => List.mem_cons_of_mem _ (List.mem_append_right _ (List.mem_append_right _ (List.mem_append_right _ (List.mem_append_right _ (List.mem_append_left _ h0_)))))) hown hK hI i_7.1 k_8 rfl 1 (by decide) (hts (.fieldLink RX11 133 "DeadlineShare$State" "tasks" "[LDeadlineShare$Task;") (List.mem_cons_of_mem _ (List.mem_append_left _ (List.mem_of_getElem? (i := 8) rfl)))) (fun _ h9 => h9) rfl dX11_weigh_41 ?_
      have i_22 := kw_6_1 hG i_7
      refine lv_iload_n hx hb dX11_weigh_44 rfl (lv_at hl 1 rfl) ?_
      obtain ⟨q_24, k_23, b_25⟩ := op_20 hI i_22
      refine k_aald hx hb hK hI i_22.1 4 k_23 rfl (vp_in_iff.mpr (by omega)) b_25 (fun _ hj => kw_20 hG i_22 hj) dX11_weigh_45 (fun a_26 i_27 => ?_)
      refine lv_astore_n (lv' := [(3, .ref a_26), (0, .ref h0), (1, .int p1), (2, .int p2)]) hx hb dX11_weigh_46 rfl hl (by decide) rfl (fun ls hl => ?_)
      refine lv_aload_n hx hb dX11_weigh_47 rfl (lv_at hl 0 rfl) ?_
      obtain ⟨x_29, x_30, x_31, x_32, x_33, x_34, x_35, x_36, x_37, x_38, x_39, x_40, x_41, x_42, x_43, x_44, k_28⟩ := op_8 hI i_27
      refine k_get (ci := 8) (v := .int x_30) (C := RX8) (T := TX8) (N := 18) hx hb hts (fun _ h0_ => List.mem_cons_of_mem _ (List.mem_append_right _ (List.mem_append_right _ (List.mem_append_right _ (List.mem_append_right _ (List.mem_append_right _ (List.mem_append_left _ h0_))))))) hown hK hI i_27.1 k_28 rfl 2 (by decide) (hts (.fieldLink RX11 145 "DeadlineShare$Task" "weight" "I") (List.mem_cons_of_mem _ (List.mem_append_left _ (List.mem_of_getElem? (i := 9) rfl)))) (fun _ h9 => h9) rfl dX11_weigh_48 ?_
      refine lv_istore (lv' := [(4, .int x_30), (3, .ref a_26), (0, .ref h0), (1, .int p1), (2, .int p2)]) hx hb dX11_weigh_51 hl (by decide) rfl (fun ls hl => ?_)
      refine lv_iload hx hb dX11_weigh_53 (lv_at hl 0 rfl) ?_
      refine lv_iload_n hx hb dX11_weigh_55 rfl (lv_at hl 4 rfl) ?_
      refine lv_icmp_ne (tgt := 69) hx hb dX11_weigh_56 (by decide) (fun c_45 => ?_) (fun c_45 => ?_)
      · have c_45 := kn_eq rfl rfl c_45
        refine lv_aload_n hx hb dX11_weigh_69 rfl (lv_at hl 2 rfl) ?_
        refine k_get (ci := 11) (v := .ref (gr g h0 3)) (C := RX11) (T := TX11) (N := 12) hx hb hts (fun _ h0_ => List.mem_cons_of_mem _ (List.mem_append_right _ (List.mem_append_right _ (List.mem_append_left _ h0_)))) hown hK hI i_h0.1 k_4 rfl 3 (by decide) (hts (.fieldLink RX11 37 "DeadlineShare" "now" "LDeadlineShare$State;") (List.mem_cons_of_mem _ (List.mem_append_left _ (List.mem_of_getElem? (i := 3) rfl)))) (fun _ h9 => h9) rfl dX11_weigh_70 ?_
        refine lv_aload_n hx hb dX11_weigh_73 rfl (lv_at hl 1 rfl) ?_
        refine lv_iload_n hx hb dX11_weigh_74 rfl (lv_at hl 4 rfl) ?_
        refine va_calli (va_runV (As := [.ref a_26, .int p2]) (rest := []) ⟨hx, hb, hml, hown, hts⟩ (c_X6_canWeigh l dC dI g A hG f (gr g h0 3) a_26 p2 i_7 i_27) (cwV 2 hts (gi_V (fun w_ h0_ => ⟨List.mem_cons_of_mem _ (List.mem_append_right _ (List.mem_append_right _ (List.mem_append_right _ (List.mem_append_right _ (List.mem_append_right _ (List.mem_append_right _ (List.mem_append_left _ h0_))))))), (tb_c_X6_canWeigh w_ h0_).2⟩) (List.mem_cons_of_mem _ (List.mem_append_left _ (List.mem_of_getElem? (i := 10) rfl))) (List.mem_cons_of_mem _ (List.mem_append_left _ (List.mem_of_getElem? (i := 11) rfl))) (List.mem_cons_of_mem _ (List.mem_append_left _ (List.mem_of_getElem? (i := 12) rfl))) (List.mem_cons_of_mem _ (List.mem_append_left _ (List.mem_of_getElem? (i := 7) rfl)))) rfl rfl rfl (by decide +kernel) ⟨Nat.le_of_ble_eq_true rfl, Nat.le_of_ble_eq_true rfl⟩) ⟨fun a U g mk q => ⟨q.1, q.2.calling rfl rfl⟩, k_recv hK hI i_7.1 k_8 (ci := 6) rfl, fun U hU hW => ⟨rfl, kIn.of hI hK hE hS hU hW⟩⟩ rfl rfl hl.1 rfl (lv_room (Nat.le_of_ble_eq_true rfl)) dX11_weigh_75 ⟨Nat.le_of_ble_eq_true rfl, Nat.le_of_ble_eq_true rfl⟩) hS (fun q _ h => h) (fun q h => h) (fun r_49 u t H1 locs ht hvm w_48 hB hz1 hk1 hS => ?_)
        have hI : Iv dC dI g A f t.heap := hB
        rw [ht] at hI
        generalize H1 = H at hI hS ⊢
        refine W.widen (k := 0) (n := 0) (Nat.le_of_ble_eq_true rfl) (Nat.le_of_ble_eq_true rfl) ?_
        refine lv_if_ne (tgt := 91) hx hb dX11_weigh_78 (by decide) (fun c_50 => ?_) (fun c_50 => ?_)
        · have c_50 := kn_eq rfl (by decide : Int32.toInt 0 = 0) c_50
          refine lv_aload_n hx hb dX11_weigh_91 rfl (lv_at hl 2 rfl) ?_
          refine k_get (ci := 11) (v := .ref (gr g h0 9)) (C := RX11) (T := TX11) (N := 12) hx hb hts (fun _ h0_ => List.mem_cons_of_mem _ (List.mem_append_right _ (List.mem_append_right _ (List.mem_append_left _ h0_)))) hown hK hI i_h0.1 k_4 rfl 9 (by decide) (hts (.fieldLink RX11 65 "DeadlineShare" "history" "LDeadlineShare$History;") (List.mem_cons_of_mem _ (List.mem_append_left _ (List.mem_of_getElem? (i := 13) rfl)))) (fun _ h9 => h9) rfl dX11_weigh_92 ?_
          have i_52 := kw_11_9 hG i_h0
          refine lv_aload_n hx hb dX11_weigh_95 rfl (lv_at hl 2 rfl) ?_
          refine k_get (ci := 11) (v := .ref (gr g h0 3)) (C := RX11) (T := TX11) (N := 12) hx hb hts (fun _ h0_ => List.mem_cons_of_mem _ (List.mem_append_right _ (List.mem_append_right _ (List.mem_append_left _ h0_)))) hown hK hI i_h0.1 k_4 rfl 3 (by decide) (hts (.fieldLink RX11 37 "DeadlineShare" "now" "LDeadlineShare$State;") (List.mem_cons_of_mem _ (List.mem_append_left _ (List.mem_of_getElem? (i := 3) rfl)))) (fun _ h9 => h9) rfl dX11_weigh_96 ?_
          refine lv_iconst (v := 3) hx hb dX11_weigh_99 (by decide) ?_
          obtain ⟨x_56, x_57, k_55⟩ := op_1 hI i_52
          refine va_callv (va_runV (As := [.ref (gr g h0 3), .int 3]) (rest := []) ⟨hx, hb, hml, hown, hts⟩ (c_X1_keep l dC dI g A hG f (gr g h0 9) (gr g h0 3) 3 i_52 i_7) (cwV 2 hts (gi_V (fun w_ h0_ => ⟨List.mem_cons_of_mem _ (List.mem_append_right _ (List.mem_append_right _ (List.mem_append_right _ (List.mem_append_right _ (List.mem_append_right _ (List.mem_append_right _ (List.mem_append_right _ (List.mem_append_left _ h0_)))))))), (tb_c_X1_keep w_ h0_).2⟩) (List.mem_cons_of_mem _ (List.mem_append_left _ (List.mem_of_getElem? (i := 14) rfl))) (List.mem_cons_of_mem _ (List.mem_append_left _ (List.mem_of_getElem? (i := 15) rfl))) (List.mem_cons_of_mem _ (List.mem_append_left _ (List.mem_of_getElem? (i := 16) rfl))) (List.mem_cons_of_mem _ (List.mem_append_left _ (List.mem_of_getElem? (i := 17) rfl)))) rfl rfl rfl (by decide +kernel) ⟨Nat.le_of_ble_eq_true rfl, Nat.le_of_ble_eq_true rfl⟩) ⟨fun a U g mk q => ⟨q.1, q.2.calling rfl rfl⟩, k_recv hK hI i_52.1 k_55 (ci := 1) rfl, fun U hU hW => ⟨rfl, kIn.of hI hK hE hS hU hW⟩⟩ rfl rfl hl.1 rfl (lv_room (Nat.le_of_ble_eq_true rfl)) dX11_weigh_100 ⟨Nat.le_of_ble_eq_true rfl, Nat.le_of_ble_eq_true rfl⟩) hS (fun q _ h => h) (fun q h => h) (fun u t H1 locs ht hvm _ hB hz1 hk1 hS => ?_)
          obtain ⟨f_58, hI, kc_60⟩ := hB
          rw [ht] at hI
          have k_62 : f_58 h0 = .inr (11, [.ref (gr g h0 0), .ref (gr g h0 1), .ref (gr g h0 2), .ref (gr g h0 3), .ref (gr g h0 4), .ref (gr g h0 5), .ref (gr g h0 6), .ref (gr g h0 7), .ref (gr g h0 8), .ref (gr g h0 9), .ref (gr g h0 10), .int x_5]) := Kp.at kc_60 i_h0 (by decide) k_4
          have k_63 : f_58 (gr g (gr g h0 3) 1) = .inl (gc g 4, 12, .inr (.inr (.inr (.inr q_24)))) := Kp.at kc_60 i_22 (by decide) k_23
          have kp_64 := Kp.call hk0 kc_60 (by decide)
          generalize H1 = H at hI hS ⊢
          refine W.widen (k := 0) (n := 0) (Nat.le_of_ble_eq_true rfl) (Nat.le_of_ble_eq_true rfl) ?_
          refine lv_aload_n hx hb dX11_weigh_103 rfl (lv_at hl 2 rfl) ?_
          refine k_get (ci := 11) (v := .ref (gr g h0 3)) (C := RX11) (T := TX11) (N := 12) hx hb hts (fun _ h0_ => List.mem_cons_of_mem _ (List.mem_append_right _ (List.mem_append_right _ (List.mem_append_left _ h0_)))) hown hK hI i_h0.1 k_62 rfl 3 (by decide) (hts (.fieldLink RX11 37 "DeadlineShare" "now" "LDeadlineShare$State;") (List.mem_cons_of_mem _ (List.mem_append_left _ (List.mem_of_getElem? (i := 3) rfl)))) (fun _ h9 => h9) rfl dX11_weigh_104 ?_
          refine lv_aload_n hx hb dX11_weigh_107 rfl (lv_at hl 1 rfl) ?_
          refine lv_iload_n hx hb dX11_weigh_108 rfl (lv_at hl 4 rfl) ?_
          obtain ⟨x_68, x_69, x_70, x_71, x_72, k_67, b_73, b_74⟩ := op_6 hI i_7
          refine va_callv (va_runV (As := [.ref a_26, .int p2]) (rest := []) ⟨hx, hb, hml, hown, hts⟩ (c_X6_weighAnew l dC dI g A hG f_58 (gr g h0 3) a_26 p2 i_7 i_27) (cwV 2 hts (gi_V (fun w_ h0_ => ⟨List.mem_cons_of_mem _ (List.mem_append_right _ (List.mem_append_right _ (List.mem_append_right _ (List.mem_append_right _ (List.mem_append_right _ (List.mem_append_right _ (List.mem_append_right _ (List.mem_append_right _ (List.mem_append_left _ h0_))))))))), (tb_c_X6_weighAnew w_ h0_).2⟩) (List.mem_cons_of_mem _ (List.mem_append_left _ (List.mem_of_getElem? (i := 18) rfl))) (List.mem_cons_of_mem _ (List.mem_append_left _ (List.mem_of_getElem? (i := 19) rfl))) (List.mem_cons_of_mem _ (List.mem_append_left _ (List.mem_of_getElem? (i := 20) rfl))) (List.mem_cons_of_mem _ (List.mem_append_left _ (List.mem_of_getElem? (i := 7) rfl)))) rfl rfl rfl (by decide +kernel) ⟨Nat.le_of_ble_eq_true rfl, Nat.le_of_ble_eq_true rfl⟩) ⟨fun a U g mk q => ⟨q.1, q.2.calling rfl rfl⟩, k_recv hK hI i_7.1 k_67 (ci := 6) rfl, fun U hU hW => ⟨rfl, kIn.of hI hK hE hS hU hW⟩⟩ rfl rfl hl.1 rfl (lv_room (Nat.le_of_ble_eq_true rfl)) dX11_weigh_109 ⟨Nat.le_of_ble_eq_true rfl, Nat.le_of_ble_eq_true rfl⟩) hS (fun q _ h => h) (fun q h => h) (fun u t H1 locs ht hvm _ hB hz1 hk1 hS => ?_)
          obtain ⟨f_75, hI, kc_77⟩ := hB
          rw [ht] at hI
          have k_79 : f_75 h0 = .inr (11, [.ref (gr g h0 0), .ref (gr g h0 1), .ref (gr g h0 2), .ref (gr g h0 3), .ref (gr g h0 4), .ref (gr g h0 5), .ref (gr g h0 6), .ref (gr g h0 7), .ref (gr g h0 8), .ref (gr g h0 9), .ref (gr g h0 10), .int x_5]) := Kp.at kc_77 i_h0 (by decide) k_62
          have k_80 : f_75 (gr g (gr g h0 3) 1) = .inl (gc g 4, 12, .inr (.inr (.inr (.inr q_24)))) := Kp.at kc_77 i_22 (by decide) k_63
          have k_81 : f_75 (gr g h0 3) = .inr (6, [.ref (gr g (gr g h0 3) 0), .ref (gr g (gr g h0 3) 1), .ref (gr g (gr g h0 3) 2), .ref (gr g (gr g h0 3) 3), .ref (gr g (gr g h0 3) 4), .int x_68, .int x_69, .long x_70, .int x_71, .int x_72]) := Kp.at kc_77 i_7 (by decide) k_67
          have kp_82 := Kp.call kp_64 kc_77 (by decide)
          generalize H1 = H at hI hS ⊢
          refine W.widen (k := 0) (n := 0) (Nat.le_of_ble_eq_true rfl) (Nat.le_of_ble_eq_true rfl) ?_
          refine lv_aload_n hx hb dX11_weigh_112 rfl (lv_at hl 2 rfl) ?_
          refine k_get (ci := 11) (v := .ref (gr g h0 10)) (C := RX11) (T := TX11) (N := 12) hx hb hts (fun _ h0_ => List.mem_cons_of_mem _ (List.mem_append_right _ (List.mem_append_right _ (List.mem_append_left _ h0_)))) hown hK hI i_h0.1 k_79 rfl 10 (by decide) (hts (.fieldLink RX11 72 "DeadlineShare" "refusals" "LDeadlineShare$Refusals;") (List.mem_cons_of_mem _ (List.mem_append_left _ (List.mem_of_getElem? (i := 21) rfl)))) (fun _ h9 => h9) rfl dX11_weigh_113 ?_
          have i_84 := kw_11_10 hG i_h0
          refine lv_iload hx hb dX11_weigh_116 (lv_at hl 0 rfl) ?_
          obtain ⟨x_86, k_85⟩ := op_4 hI i_84
          refine va_calli (va_runV (As := [.int x_30]) (rest := []) ⟨hx, hb, hml, hown, hts⟩ (c_X4_none l dC dI g A hG f_75 (gr g h0 10) x_30 i_84) (cwV 1 hts (gi_V (fun w_ h0_ => ⟨List.mem_cons_of_mem _ (List.mem_append_right _ (List.mem_append_right _ (List.mem_append_right _ (List.mem_append_right _ (List.mem_append_right _ (List.mem_append_right _ (List.mem_append_right _ (List.mem_append_right _ (List.mem_append_right _ (List.mem_append_left _ h0_)))))))))), (tb_c_X4_none w_ h0_).2⟩) (List.mem_cons_of_mem _ (List.mem_append_left _ (List.mem_of_getElem? (i := 22) rfl))) (List.mem_cons_of_mem _ (List.mem_append_left _ (List.mem_of_getElem? (i := 23) rfl))) (List.mem_cons_of_mem _ (List.mem_append_left _ (List.mem_of_getElem? (i := 24) rfl))) (List.mem_cons_of_mem _ (List.mem_append_left _ (List.mem_of_getElem? (i := 25) rfl)))) rfl rfl rfl (by decide +kernel) ⟨Nat.le_of_ble_eq_true rfl, Nat.le_of_ble_eq_true rfl⟩) ⟨fun a U g mk q => ⟨q.1, q.2.calling rfl rfl⟩, k_recv hK hI i_84.1 k_85 (ci := 4) rfl, fun U hU hW => ⟨rfl, kIn.of hI hK hE hS hU hW⟩⟩ rfl rfl hl.1 rfl (lv_room (Nat.le_of_ble_eq_true rfl)) dX11_weigh_118 ⟨Nat.le_of_ble_eq_true rfl, Nat.le_of_ble_eq_true rfl⟩) hS (fun q _ h => h) (fun q h => h) (fun r_89 u t H1 locs ht hvm w_88 hB hz1 hk1 hS => ?_)
          obtain ⟨f_87, hI, kc_90⟩ := hB
          rw [ht] at hI
          have k_92 : f_87 h0 = .inr (11, [.ref (gr g h0 0), .ref (gr g h0 1), .ref (gr g h0 2), .ref (gr g h0 3), .ref (gr g h0 4), .ref (gr g h0 5), .ref (gr g h0 6), .ref (gr g h0 7), .ref (gr g h0 8), .ref (gr g h0 9), .ref (gr g h0 10), .int x_5]) := Kp.at kc_90 i_h0 (by decide) k_79
          have k_93 : f_87 (gr g (gr g h0 3) 1) = .inl (gc g 4, 12, .inr (.inr (.inr (.inr q_24)))) := Kp.at kc_90 i_22 (by decide) k_80
          have k_94 : f_87 (gr g h0 3) = .inr (6, [.ref (gr g (gr g h0 3) 0), .ref (gr g (gr g h0 3) 1), .ref (gr g (gr g h0 3) 2), .ref (gr g (gr g h0 3) 3), .ref (gr g (gr g h0 3) 4), .int x_68, .int x_69, .long x_70, .int x_71, .int x_72]) := Kp.at kc_90 i_7 (by decide) k_81
          have kp_95 := Kp.call kp_82 kc_90 (by decide)
          generalize H1 = H at hI hS ⊢
          refine W.widen (k := 0) (n := 0) (Nat.le_of_ble_eq_true rfl) (Nat.le_of_ble_eq_true rfl) ?_
          exact W.iret (v := r_89) hx hb hr (fun t ht hW => ⟨⟨r_89, (), rfl, trivial, ⟨f_87, k_ret ht hI, kp_95⟩⟩, hS.F ht⟩) hS.2.2 dX11_weigh_121
        · have c_50 := kc_eq rfl (by decide : Int32.toInt 0 = 0) c_50
          refine lv_aload_n hx hb dX11_weigh_81 rfl (lv_at hl 2 rfl) ?_
          refine k_get (ci := 11) (v := .ref (gr g h0 10)) (C := RX11) (T := TX11) (N := 12) hx hb hts (fun _ h0_ => List.mem_cons_of_mem _ (List.mem_append_right _ (List.mem_append_right _ (List.mem_append_left _ h0_)))) hown hK hI i_h0.1 k_4 rfl 10 (by decide) (hts (.fieldLink RX11 72 "DeadlineShare" "refusals" "LDeadlineShare$Refusals;") (List.mem_cons_of_mem _ (List.mem_append_left _ (List.mem_of_getElem? (i := 21) rfl)))) (fun _ h9 => h9) rfl dX11_weigh_82 ?_
          have i_97 := kw_11_10 hG i_h0
          refine lv_bipush (v := (-5)) hx hb dX11_weigh_85 (by decide) ?_
          obtain ⟨x_99, k_98⟩ := op_4 hI i_97
          refine va_calli (va_runV (As := [.int (-5)]) (rest := []) ⟨hx, hb, hml, hown, hts⟩ (c_X4_add l dC dI g A hG f (gr g h0 10) (-5) i_97) (cwV 1 hts (gi_V (fun w_ h0_ => ⟨List.mem_cons_of_mem _ (List.mem_append_right _ (List.mem_append_right _ (List.mem_append_right _ (List.mem_append_right _ (List.mem_append_right _ (List.mem_append_right _ (List.mem_append_right _ (List.mem_append_right _ (List.mem_append_right _ (List.mem_append_right _ (List.mem_append_left _ h0_))))))))))), (tb_c_X4_add w_ h0_).2⟩) (List.mem_cons_of_mem _ (List.mem_append_left _ (List.mem_of_getElem? (i := 26) rfl))) (List.mem_cons_of_mem _ (List.mem_append_left _ (List.mem_of_getElem? (i := 27) rfl))) (List.mem_cons_of_mem _ (List.mem_append_left _ (List.mem_of_getElem? (i := 28) rfl))) (List.mem_cons_of_mem _ (List.mem_append_left _ (List.mem_of_getElem? (i := 25) rfl)))) rfl rfl rfl (by decide +kernel) ⟨Nat.le_of_ble_eq_true rfl, Nat.le_of_ble_eq_true rfl⟩) ⟨fun a U g mk q => ⟨q.1, q.2.calling rfl rfl⟩, k_recv hK hI i_97.1 k_98 (ci := 4) rfl, fun U hU hW => ⟨rfl, kIn.of hI hK hE hS hU hW⟩⟩ rfl rfl hl.1 rfl (lv_room (Nat.le_of_ble_eq_true rfl)) dX11_weigh_87 ⟨Nat.le_of_ble_eq_true rfl, Nat.le_of_ble_eq_true rfl⟩) hS (fun q _ h => h) (fun q h => h) (fun r_102 u t H1 locs ht hvm w_101 hB hz1 hk1 hS => ?_)
          obtain ⟨f_100, hI, kc_103⟩ := hB
          rw [ht] at hI
          have k_105 : f_100 h0 = .inr (11, [.ref (gr g h0 0), .ref (gr g h0 1), .ref (gr g h0 2), .ref (gr g h0 3), .ref (gr g h0 4), .ref (gr g h0 5), .ref (gr g h0 6), .ref (gr g h0 7), .ref (gr g h0 8), .ref (gr g h0 9), .ref (gr g h0 10), .int x_5]) := Kp.at kc_103 i_h0 (by decide) k_4
          have k_106 : f_100 (gr g h0 3) = .inr (6, [.ref (gr g (gr g h0 3) 0), .ref (gr g (gr g h0 3) 1), .ref (gr g (gr g h0 3) 2), .ref (gr g (gr g h0 3) 3), .ref (gr g (gr g h0 3) 4), .int x_9, .int x_10, .long x_11, .int x_12, .int x_13]) := Kp.at kc_103 i_7 (by decide) k_8
          have k_107 : f_100 (gr g (gr g h0 3) 1) = .inl (gc g 4, 12, .inr (.inr (.inr (.inr q_24)))) := Kp.at kc_103 i_22 (by decide) k_23
          have k_108 : f_100 a_26 = .inr (8, [.int x_29, .ref (gr g a_26 1), .int x_30, .int x_31, .int x_32, .long x_33, .int x_34, .ref (gr g a_26 7), .int x_35, .int x_36, .int x_37, .int x_38, .int x_39, .int x_40, .int x_41, .int x_42, .int x_43, .int x_44]) := Kp.at kc_103 i_27 (by decide) k_28
          have kp_109 := Kp.call hk0 kc_103 (by decide)
          generalize H1 = H at hI hS ⊢
          refine W.widen (k := 0) (n := 0) (Nat.le_of_ble_eq_true rfl) (Nat.le_of_ble_eq_true rfl) ?_
          exact W.iret (v := r_102) hx hb hr (fun t ht hW => ⟨⟨r_102, (), rfl, trivial, ⟨f_100, k_ret ht hI, kp_109⟩⟩, hS.F ht⟩) hS.2.2 dX11_weigh_90
      · have c_45 := kc_eq rfl rfl c_45
        refine lv_aload_n hx hb dX11_weigh_59 rfl (lv_at hl 2 rfl) ?_
        refine k_get (ci := 11) (v := .ref (gr g h0 10)) (C := RX11) (T := TX11) (N := 12) hx hb hts (fun _ h0_ => List.mem_cons_of_mem _ (List.mem_append_right _ (List.mem_append_right _ (List.mem_append_left _ h0_)))) hown hK hI i_h0.1 k_4 rfl 10 (by decide) (hts (.fieldLink RX11 72 "DeadlineShare" "refusals" "LDeadlineShare$Refusals;") (List.mem_cons_of_mem _ (List.mem_append_left _ (List.mem_of_getElem? (i := 21) rfl)))) (fun _ h9 => h9) rfl dX11_weigh_60 ?_
        have i_111 := kw_11_10 hG i_h0
        refine lv_bipush (v := (-4)) hx hb dX11_weigh_63 (by decide) ?_
        obtain ⟨x_113, k_112⟩ := op_4 hI i_111
        refine va_calli (va_runV (As := [.int (-4)]) (rest := []) ⟨hx, hb, hml, hown, hts⟩ (c_X4_add l dC dI g A hG f (gr g h0 10) (-4) i_111) (cwV 1 hts (gi_V (fun w_ h0_ => ⟨List.mem_cons_of_mem _ (List.mem_append_right _ (List.mem_append_right _ (List.mem_append_right _ (List.mem_append_right _ (List.mem_append_right _ (List.mem_append_right _ (List.mem_append_right _ (List.mem_append_right _ (List.mem_append_right _ (List.mem_append_right _ (List.mem_append_left _ h0_))))))))))), (tb_c_X4_add w_ h0_).2⟩) (List.mem_cons_of_mem _ (List.mem_append_left _ (List.mem_of_getElem? (i := 26) rfl))) (List.mem_cons_of_mem _ (List.mem_append_left _ (List.mem_of_getElem? (i := 27) rfl))) (List.mem_cons_of_mem _ (List.mem_append_left _ (List.mem_of_getElem? (i := 28) rfl))) (List.mem_cons_of_mem _ (List.mem_append_left _ (List.mem_of_getElem? (i := 25) rfl)))) rfl rfl rfl (by decide +kernel) ⟨Nat.le_of_ble_eq_true rfl, Nat.le_of_ble_eq_true rfl⟩) ⟨fun a U g mk q => ⟨q.1, q.2.calling rfl rfl⟩, k_recv hK hI i_111.1 k_112 (ci := 4) rfl, fun U hU hW => ⟨rfl, kIn.of hI hK hE hS hU hW⟩⟩ rfl rfl hl.1 rfl (lv_room (Nat.le_of_ble_eq_true rfl)) dX11_weigh_65 ⟨Nat.le_of_ble_eq_true rfl, Nat.le_of_ble_eq_true rfl⟩) hS (fun q _ h => h) (fun q h => h) (fun r_116 u t H1 locs ht hvm w_115 hB hz1 hk1 hS => ?_)
        obtain ⟨f_114, hI, kc_117⟩ := hB
        rw [ht] at hI
        have k_119 : f_114 h0 = .inr (11, [.ref (gr g h0 0), .ref (gr g h0 1), .ref (gr g h0 2), .ref (gr g h0 3), .ref (gr g h0 4), .ref (gr g h0 5), .ref (gr g h0 6), .ref (gr g h0 7), .ref (gr g h0 8), .ref (gr g h0 9), .ref (gr g h0 10), .int x_5]) := Kp.at kc_117 i_h0 (by decide) k_4
        have k_120 : f_114 (gr g h0 3) = .inr (6, [.ref (gr g (gr g h0 3) 0), .ref (gr g (gr g h0 3) 1), .ref (gr g (gr g h0 3) 2), .ref (gr g (gr g h0 3) 3), .ref (gr g (gr g h0 3) 4), .int x_9, .int x_10, .long x_11, .int x_12, .int x_13]) := Kp.at kc_117 i_7 (by decide) k_8
        have k_121 : f_114 (gr g (gr g h0 3) 1) = .inl (gc g 4, 12, .inr (.inr (.inr (.inr q_24)))) := Kp.at kc_117 i_22 (by decide) k_23
        have k_122 : f_114 a_26 = .inr (8, [.int x_29, .ref (gr g a_26 1), .int x_30, .int x_31, .int x_32, .long x_33, .int x_34, .ref (gr g a_26 7), .int x_35, .int x_36, .int x_37, .int x_38, .int x_39, .int x_40, .int x_41, .int x_42, .int x_43, .int x_44]) := Kp.at kc_117 i_27 (by decide) k_28
        have kp_123 := Kp.call hk0 kc_117 (by decide)
        generalize H1 = H at hI hS ⊢
        refine W.widen (k := 0) (n := 0) (Nat.le_of_ble_eq_true rfl) (Nat.le_of_ble_eq_true rfl) ?_
        exact W.iret (v := r_116) hx hb hr (fun t ht hW => ⟨⟨r_116, (), rfl, trivial, ⟨f_114, k_ret ht hI, kp_123⟩⟩, hS.F ht⟩) hS.2.2 dX11_weigh_68
    · have c_18 := kc_eq rfl (by decide : Int32.toInt 0 = 0) c_18
      refine lv_aload_n hx hb dX11_weigh_27 rfl (lv_at hl 0 rfl) ?_
      refine k_get (ci := 11) (v := .ref (gr g h0 10)) (C := RX11) (T := TX11) (N := 12) hx hb hts (fun _ h0_ => List.mem_cons_of_mem _ (List.mem_append_right _ (List.mem_append_right _ (List.mem_append_left _ h0_)))) hown hK hI i_h0.1 k_4 rfl 10 (by decide) (hts (.fieldLink RX11 72 "DeadlineShare" "refusals" "LDeadlineShare$Refusals;") (List.mem_cons_of_mem _ (List.mem_append_left _ (List.mem_of_getElem? (i := 21) rfl)))) (fun _ h9 => h9) rfl dX11_weigh_28 ?_
      have i_125 := kw_11_10 hG i_h0
      refine lv_bipush (v := (-2)) hx hb dX11_weigh_31 (by decide) ?_
      obtain ⟨x_127, k_126⟩ := op_4 hI i_125
      refine va_calli (va_runV (As := [.int (-2)]) (rest := []) ⟨hx, hb, hml, hown, hts⟩ (c_X4_add l dC dI g A hG f (gr g h0 10) (-2) i_125) (cwV 1 hts (gi_V (fun w_ h0_ => ⟨List.mem_cons_of_mem _ (List.mem_append_right _ (List.mem_append_right _ (List.mem_append_right _ (List.mem_append_right _ (List.mem_append_right _ (List.mem_append_right _ (List.mem_append_right _ (List.mem_append_right _ (List.mem_append_right _ (List.mem_append_right _ (List.mem_append_left _ h0_))))))))))), (tb_c_X4_add w_ h0_).2⟩) (List.mem_cons_of_mem _ (List.mem_append_left _ (List.mem_of_getElem? (i := 26) rfl))) (List.mem_cons_of_mem _ (List.mem_append_left _ (List.mem_of_getElem? (i := 27) rfl))) (List.mem_cons_of_mem _ (List.mem_append_left _ (List.mem_of_getElem? (i := 28) rfl))) (List.mem_cons_of_mem _ (List.mem_append_left _ (List.mem_of_getElem? (i := 25) rfl)))) rfl rfl rfl (by decide +kernel) ⟨Nat.le_of_ble_eq_true rfl, Nat.le_of_ble_eq_true rfl⟩) ⟨fun a U g mk q => ⟨q.1, q.2.calling rfl rfl⟩, k_recv hK hI i_125.1 k_126 (ci := 4) rfl, fun U hU hW => ⟨rfl, kIn.of hI hK hE hS hU hW⟩⟩ rfl rfl hl.1 rfl (lv_room (Nat.le_of_ble_eq_true rfl)) dX11_weigh_33 ⟨Nat.le_of_ble_eq_true rfl, Nat.le_of_ble_eq_true rfl⟩) hS (fun q _ h => h) (fun q h => h) (fun r_130 u t H1 locs ht hvm w_129 hB hz1 hk1 hS => ?_)
      obtain ⟨f_128, hI, kc_131⟩ := hB
      rw [ht] at hI
      have k_133 : f_128 h0 = .inr (11, [.ref (gr g h0 0), .ref (gr g h0 1), .ref (gr g h0 2), .ref (gr g h0 3), .ref (gr g h0 4), .ref (gr g h0 5), .ref (gr g h0 6), .ref (gr g h0 7), .ref (gr g h0 8), .ref (gr g h0 9), .ref (gr g h0 10), .int x_5]) := Kp.at kc_131 i_h0 (by decide) k_4
      have k_134 : f_128 (gr g h0 3) = .inr (6, [.ref (gr g (gr g h0 3) 0), .ref (gr g (gr g h0 3) 1), .ref (gr g (gr g h0 3) 2), .ref (gr g (gr g h0 3) 3), .ref (gr g (gr g h0 3) 4), .int x_9, .int x_10, .long x_11, .int x_12, .int x_13]) := Kp.at kc_131 i_7 (by decide) k_8
      have kp_135 := Kp.call hk0 kc_131 (by decide)
      generalize H1 = H at hI hS ⊢
      refine W.widen (k := 0) (n := 0) (Nat.le_of_ble_eq_true rfl) (Nat.le_of_ble_eq_true rfl) ?_
      exact W.iret (v := r_130) hx hb hr (fun t ht hW => ⟨⟨r_130, (), rfl, trivial, ⟨f_128, k_ret ht hI, kp_135⟩⟩, hS.F ht⟩) hS.2.2 dX11_weigh_36
  · have c_3 := kc_eq rfl (by decide : Int32.toInt 0 = 0) c_3
    refine lv_aload_n hx hb dX11_weigh_7 rfl (lv_at hl 0 rfl) ?_
    obtain ⟨x_137, k_136⟩ := op_11 hI i_h0
    refine k_get (ci := 11) (v := .ref (gr g h0 10)) (C := RX11) (T := TX11) (N := 12) hx hb hts (fun _ h0_ => List.mem_cons_of_mem _ (List.mem_append_right _ (List.mem_append_right _ (List.mem_append_left _ h0_)))) hown hK hI i_h0.1 k_136 rfl 10 (by decide) (hts (.fieldLink RX11 72 "DeadlineShare" "refusals" "LDeadlineShare$Refusals;") (List.mem_cons_of_mem _ (List.mem_append_left _ (List.mem_of_getElem? (i := 21) rfl)))) (fun _ h9 => h9) rfl dX11_weigh_8 ?_
    have i_139 := kw_11_10 hG i_h0
    refine lv_iconst (v := (-1)) hx hb dX11_weigh_11 (by decide) ?_
    obtain ⟨x_141, k_140⟩ := op_4 hI i_139
    refine va_calli (va_runV (As := [.int (-1)]) (rest := []) ⟨hx, hb, hml, hown, hts⟩ (c_X4_add l dC dI g A hG f (gr g h0 10) (-1) i_139) (cwV 1 hts (gi_V (fun w_ h0_ => ⟨List.mem_cons_of_mem _ (List.mem_append_right _ (List.mem_append_right _ (List.mem_append_right _ (List.mem_append_right _ (List.mem_append_right _ (List.mem_append_right _ (List.mem_append_right _ (List.mem_append_right _ (List.mem_append_right _ (List.mem_append_right _ (List.mem_append_left _ h0_))))))))))), (tb_c_X4_add w_ h0_).2⟩) (List.mem_cons_of_mem _ (List.mem_append_left _ (List.mem_of_getElem? (i := 26) rfl))) (List.mem_cons_of_mem _ (List.mem_append_left _ (List.mem_of_getElem? (i := 27) rfl))) (List.mem_cons_of_mem _ (List.mem_append_left _ (List.mem_of_getElem? (i := 28) rfl))) (List.mem_cons_of_mem _ (List.mem_append_left _ (List.mem_of_getElem? (i := 25) rfl)))) rfl rfl rfl (by decide +kernel) ⟨Nat.le_of_ble_eq_true rfl, Nat.le_of_ble_eq_true rfl⟩) ⟨fun a U g mk q => ⟨q.1, q.2.calling rfl rfl⟩, k_recv hK hI i_139.1 k_140 (ci := 4) rfl, fun U hU hW => ⟨rfl, kIn.of hI hK hE hS hU hW⟩⟩ rfl rfl hl.1 rfl (lv_room (Nat.le_of_ble_eq_true rfl)) dX11_weigh_12 ⟨Nat.le_of_ble_eq_true rfl, Nat.le_of_ble_eq_true rfl⟩) hS (fun q _ h => h) (fun q h => h) (fun r_144 u t H1 locs ht hvm w_143 hB hz1 hk1 hS => ?_)
    obtain ⟨f_142, hI, kc_145⟩ := hB
    rw [ht] at hI
    have k_147 : f_142 h0 = .inr (11, [.ref (gr g h0 0), .ref (gr g h0 1), .ref (gr g h0 2), .ref (gr g h0 3), .ref (gr g h0 4), .ref (gr g h0 5), .ref (gr g h0 6), .ref (gr g h0 7), .ref (gr g h0 8), .ref (gr g h0 9), .ref (gr g h0 10), .int x_137]) := Kp.at kc_145 i_h0 (by decide) k_136
    have kp_148 := Kp.call hk0 kc_145 (by decide)
    generalize H1 = H at hI hS ⊢
    refine W.widen (k := 0) (n := 0) (Nat.le_of_ble_eq_true rfl) (Nat.le_of_ble_eq_true rfl) ?_
    exact W.iret (v := r_144) hx hb hr (fun t ht hW => ⟨⟨r_144, (), rfl, trivial, ⟨f_142, k_ret ht hI, kp_148⟩⟩, hS.F ht⟩) hS.2.2 dX11_weigh_15
theorem tw_502 : q_g (.methodLink RX11 185 yX8_takeSlice) := ⟨(List.mem_append_right _ (List.mem_of_getElem? (i := 580) (by decide +kernel))), good_of_word (by decide +kernel)⟩
theorem tw_503 : q_g (.fieldLink RX11 182 "DeadlineShare$Task" "slice" "I") := ⟨(List.mem_append_right _ (List.mem_of_getElem? (i := 158) (by decide +kernel))), good_of_word (by decide +kernel)⟩
theorem tw_504 : q_g (.code yX11_slice cX11_slice 5 (some .int)) := ⟨(List.mem_append_right _ (List.mem_of_getElem? (i := 579) (by decide +kernel))), good_of_word (by decide +kernel)⟩
def ow_c_X11_slice : List Cond := [.methodLink RX11 116 yX11_isSlice, .static yX11_isSlice, .initialized RX11, .fieldLink RX11 37 "DeadlineShare" "now" "LDeadlineShare$State;", .methodLink RX11 130 yX6_has, .instanceMethod yX6_has, .selects RX6 yX6_has yX6_has, .initialized RX6, .fieldLink RX11 133 "DeadlineShare$State" "tasks" "[LDeadlineShare$Task;", .fieldLink RX11 182 "DeadlineShare$Task" "slice" "I", .fieldLink RX11 65 "DeadlineShare" "history" "LDeadlineShare$History;", .methodLink RX11 122 yX1_keep, .instanceMethod yX1_keep, .selects RX1 yX1_keep yX1_keep, .initialized RX1, .methodLink RX11 185 yX8_takeSlice, .instanceMethod yX8_takeSlice, .selects RX8 yX8_takeSlice yX8_takeSlice, .initialized RX8, .fieldLink RX11 72 "DeadlineShare" "refusals" "LDeadlineShare$Refusals;", .methodLink RX11 95 yX4_none, .instanceMethod yX4_none, .selects RX4 yX4_none yX4_none, .initialized RX4, .methodLink RX11 84 yX4_add, .instanceMethod yX4_add, .selects RX4 yX4_add yX4_add]
def wq_c_X11_slice : List Cond := .code yX11_slice cX11_slice 5 (some .int) :: (ow_c_X11_slice ++ (wq_c_X11_isSlice ++ (u_ws RX11 TX11 12 ++ (wq_c_X6_has ++ (u_ws RX6 TX6 10 ++ (u_ws RX8 TX8 18 ++ (wq_c_X1_keep ++ (wq_c_X8_takeSlice ++ (wq_c_X4_none ++ (wq_c_X4_add ++ ([] : List Cond)))))))))))
theorem tb_c_X11_slice : ∀ w ∈ wq_c_X11_slice, q_g w := by
  unfold wq_c_X11_slice ow_c_X11_slice
  exact q_cons tw_504 (q_app (q_cons tw_481 (q_cons tw_480 (q_cons tw_56 (q_cons tw_479 (q_cons tw_492 (q_cons tw_74 (q_cons tw_73 (q_cons tw_47 (q_cons tw_491 (q_cons tw_503 (q_cons tw_477 (q_cons tw_476 (q_cons tw_475 (q_cons tw_474 (q_cons tw_473 (q_cons tw_502 (q_cons tw_329 (q_cons tw_328 (q_cons tw_8 (q_cons tw_443 (q_cons tw_442 (q_cons tw_441 (q_cons tw_440 (q_cons tw_204 (q_cons tw_439 (q_cons tw_438 (q_cons tw_437 q_nil))))))))))))))))))))))))))) (q_app tb_c_X11_isSlice (q_app tu_X11 (q_app tb_c_X6_has (q_app tu_X6 (q_app tu_X8 (q_app tb_c_X1_keep (q_app tb_c_X8_takeSlice (q_app tb_c_X4_none (q_app tb_c_X4_add q_nil))))))))))
set_option maxHeartbeats 4000000 in
set_option maxRecDepth 100000 in
theorem c_X11_slice (l : Launch) (dC : Nat → ClassId) (dI : Nat → Nat → Nat) (g : kG) (A : Nat → Prop) (hG : kWf g) (f : Nat → va_E) (h0 : Nat) (p1 : Int32) (p2 : Int32) (i_h0 : ik g 11 h0) : Met l yX11_slice wq_c_X11_slice ({ frames := 5, cells := 0, slots := 0, locals := 126 } : Room) (va_Pc [.ref h0, .int p1, .int p2] (fun U => kIn dC dI g A f U)) (va_Qi (fun (r : Int32) (_ : Unit) => True) (fun (_ : Unit) t => ∃ f1 : Nat → va_E, Iv dC dI g A f1 t.heap ∧ Kp g [1, 4, 5, 6, 8, 10, 23, 24, 27, 28] f f1) A) 0 0 A := by
  refine Met.ofW (cc := cX11_slice) (maxL := 5) (ret := (some .int)) (by decide) rfl ?_
  intro p e s m args below meth c s₁ B hml hv
  obtain ⟨rfl, hI, hK, hE⟩ := hv
  have hx := B.exec
  have hb := B.bytes
  have hr := B.returns
  have hts := atoms_spec (ws := wq_c_X11_slice) B.pre
  have hown : s.vm.findClass RX11 = some m.cls := findClass_of_methodNamed B.named
  have hlocks := B.notSynchronized
  have hS : va_S A s.heap s.heap [] := va_S.rf
  have hk0 : Kp g [1, 4, 5, 6, 8, 10, 23, 24, 27, 28] f f := Kp.rf
  have hl := lv_entry ([.ref h0, .int p1, .int p2]) (n := 5) (Nat.le_of_ble_eq_true rfl)
  rw [lg_entry_eq]
  generalize (lg_sl ([.ref h0, .int p1, .int p2]) ++ List.replicate (5 - (lg_sl ([.ref h0, .int p1, .int p2])).length) Slot.unset).toArray = ls at hl ⊢
  have hl : lv_has ls 5 [(0, .ref h0), (1, .int p1), (2, .int p2)] := hl
  refine lv_iload_n hx hb dX11_slice_0 rfl (lv_at hl 2 rfl) ?_
  refine va_calli (va_runS (As := [.int p2]) (rest := []) ⟨hx, hb, hml, hown, hts⟩ (c_X11_isSlice l dC dI g A hG f p2) (va_cwS 1 hts (gi_S (fun w_ h0_ => ⟨List.mem_cons_of_mem _ (List.mem_append_right _ (List.mem_append_left _ h0_)), (tb_c_X11_isSlice w_ h0_).2⟩) (List.mem_cons_of_mem _ (List.mem_append_left _ (List.mem_of_getElem? (i := 0) rfl))) (List.mem_cons_of_mem _ (List.mem_append_left _ (List.mem_of_getElem? (i := 1) rfl))) (List.mem_cons_of_mem _ (List.mem_append_left _ (List.mem_of_getElem? (i := 2) rfl)))) rfl rfl rfl (by decide +kernel) ⟨Nat.le_of_ble_eq_true rfl, Nat.le_of_ble_eq_true rfl⟩) ⟨fun a U g mk q => ⟨q.1, q.2.calling rfl rfl⟩, fun U hU hW => ⟨rfl, kIn.of hI hK hE hS hU hW⟩⟩ rfl rfl hl.1 rfl (lv_room (Nat.le_of_ble_eq_true rfl)) dX11_slice_1 ⟨Nat.le_of_ble_eq_true rfl, Nat.le_of_ble_eq_true rfl⟩) hS (fun q _ h => h) (fun q h => h) (fun r_2 u t H1 locs ht hvm w_1 hB hz1 hk1 hS => ?_)
  have hI : Iv dC dI g A f t.heap := hB
  rw [ht] at hI
  generalize H1 = H at hI hS ⊢
  refine W.widen (k := 0) (n := 0) (Nat.le_of_ble_eq_true rfl) (Nat.le_of_ble_eq_true rfl) ?_
  refine lv_if_ne (tgt := 16) hx hb dX11_slice_4 (by decide) (fun c_3 => ?_) (fun c_3 => ?_)
  · have c_3 := kn_eq rfl (by decide : Int32.toInt 0 = 0) c_3
    refine lv_aload_n hx hb dX11_slice_16 rfl (lv_at hl 0 rfl) ?_
    obtain ⟨x_5, k_4⟩ := op_11 hI i_h0
    refine k_get (ci := 11) (v := .ref (gr g h0 3)) (C := RX11) (T := TX11) (N := 12) hx hb hts (fun _ h0_ => List.mem_cons_of_mem _ (List.mem_append_right _ (List.mem_append_right _ (List.mem_append_left _ h0_)))) hown hK hI i_h0.1 k_4 rfl 3 (by decide) (hts (.fieldLink RX11 37 "DeadlineShare" "now" "LDeadlineShare$State;") (List.mem_cons_of_mem _ (List.mem_append_left _ (List.mem_of_getElem? (i := 3) rfl)))) (fun _ h9 => h9) rfl dX11_slice_17 ?_
    have i_7 := kw_11_3 hG i_h0
    refine lv_iload_n hx hb dX11_slice_20 rfl (lv_at hl 1 rfl) ?_
    obtain ⟨x_9, x_10, x_11, x_12, x_13, k_8, b_14, b_15⟩ := op_6 hI i_7
    refine va_calli (va_runV (As := [.int p1]) (rest := []) ⟨hx, hb, hml, hown, hts⟩ (c_X6_has l dC dI g A hG f (gr g h0 3) p1 i_7) (cwV 1 hts (gi_V (fun w_ h0_ => ⟨List.mem_cons_of_mem _ (List.mem_append_right _ (List.mem_append_right _ (List.mem_append_right _ (List.mem_append_left _ h0_)))), (tb_c_X6_has w_ h0_).2⟩) (List.mem_cons_of_mem _ (List.mem_append_left _ (List.mem_of_getElem? (i := 4) rfl))) (List.mem_cons_of_mem _ (List.mem_append_left _ (List.mem_of_getElem? (i := 5) rfl))) (List.mem_cons_of_mem _ (List.mem_append_left _ (List.mem_of_getElem? (i := 6) rfl))) (List.mem_cons_of_mem _ (List.mem_append_left _ (List.mem_of_getElem? (i := 7) rfl)))) rfl rfl rfl (by decide +kernel) ⟨Nat.le_of_ble_eq_true rfl, Nat.le_of_ble_eq_true rfl⟩) ⟨fun a U g mk q => ⟨q.1, q.2.calling rfl rfl⟩, k_recv hK hI i_7.1 k_8 (ci := 6) rfl, fun U hU hW => ⟨rfl, kIn.of hI hK hE hS hU hW⟩⟩ rfl rfl hl.1 rfl (lv_room (Nat.le_of_ble_eq_true rfl)) dX11_slice_21 ⟨Nat.le_of_ble_eq_true rfl, Nat.le_of_ble_eq_true rfl⟩) hS (fun q _ h => h) (fun q h => h) (fun r_17 u t H1 locs ht hvm w_16 hB hz1 hk1 hS => ?_)
    have hI : Iv dC dI g A f t.heap := hB
    rw [ht] at hI
    generalize H1 = H at hI hS ⊢
    refine W.widen (k := 0) (n := 0) (Nat.le_of_ble_eq_true rfl) (Nat.le_of_ble_eq_true rfl) ?_
    have w_16 : r_17.toInt = 0 ∨ (0 ≤ p1.toInt ∧ p1.toInt < 12) := w_16
    refine lv_if_ne (tgt := 37) hx hb dX11_slice_24 (by decide) (fun c_18 => ?_) (fun c_18 => ?_)
    · have c_18 := kn_eq rfl (by decide : Int32.toInt 0 = 0) c_18
      refine lv_aload_n hx hb dX11_slice_37 rfl (lv_at hl 0 rfl) ?_
      refine k_get (ci := 11) (v := .ref (gr g h0 3)) (C := RX11) (T := TX11) (N := 12) hx hb hts (fun _ h0_ => List.mem_cons_of_mem _ (List.mem_append_right _ (List.mem_append_right _ (List.mem_append_left _ h0_)))) hown hK hI i_h0.1 k_4 rfl 3 (by decide) (hts (.fieldLink RX11 37 "DeadlineShare" "now" "LDeadlineShare$State;") (List.mem_cons_of_mem _ (List.mem_append_left _ (List.mem_of_getElem? (i := 3) rfl)))) (fun _ h9 => h9) rfl dX11_slice_38 ?_
      refine k_get (ci := 6) (v := .ref (gr g (gr g h0 3) 1)) (C := RX6) (T := TX6) (N := 10) hx hb hts (fun _ h0_ => List.mem_cons_of_mem _ (List.mem_append_right _ (List.mem_append_right _ (List.mem_append_right _ (List.mem_append_right _ (List.mem_append_left _ h0_)))))) hown hK hI i_7.1 k_8 rfl 1 (by decide) (hts (.fieldLink RX11 133 "DeadlineShare$State" "tasks" "[LDeadlineShare$Task;") (List.mem_cons_of_mem _ (List.mem_append_left _ (List.mem_of_getElem? (i := 8) rfl)))) (fun _ h9 => h9) rfl dX11_slice_41 ?_
      have i_22 := kw_6_1 hG i_7
      refine lv_iload_n hx hb dX11_slice_44 rfl (lv_at hl 1 rfl) ?_
      obtain ⟨q_24, k_23, b_25⟩ := op_20 hI i_22
      refine k_aald hx hb hK hI i_22.1 4 k_23 rfl (vp_in_iff.mpr (by omega)) b_25 (fun _ hj => kw_20 hG i_22 hj) dX11_slice_45 (fun a_26 i_27 => ?_)
      refine lv_astore_n (lv' := [(3, .ref a_26), (0, .ref h0), (1, .int p1), (2, .int p2)]) hx hb dX11_slice_46 rfl hl (by decide) rfl (fun ls hl => ?_)
      refine lv_aload_n hx hb dX11_slice_47 rfl (lv_at hl 0 rfl) ?_
      obtain ⟨x_29, x_30, x_31, x_32, x_33, x_34, x_35, x_36, x_37, x_38, x_39, x_40, x_41, x_42, x_43, x_44, k_28⟩ := op_8 hI i_27
      refine k_get (ci := 8) (v := .int x_31) (C := RX8) (T := TX8) (N := 18) hx hb hts (fun _ h0_ => List.mem_cons_of_mem _ (List.mem_append_right _ (List.mem_append_right _ (List.mem_append_right _ (List.mem_append_right _ (List.mem_append_right _ (List.mem_append_left _ h0_))))))) hown hK hI i_27.1 k_28 rfl 3 (by decide) (hts (.fieldLink RX11 182 "DeadlineShare$Task" "slice" "I") (List.mem_cons_of_mem _ (List.mem_append_left _ (List.mem_of_getElem? (i := 9) rfl)))) (fun _ h9 => h9) rfl dX11_slice_48 ?_
      refine lv_istore (lv' := [(4, .int x_31), (3, .ref a_26), (0, .ref h0), (1, .int p1), (2, .int p2)]) hx hb dX11_slice_51 hl (by decide) rfl (fun ls hl => ?_)
      refine lv_iload hx hb dX11_slice_53 (lv_at hl 0 rfl) ?_
      refine lv_iload_n hx hb dX11_slice_55 rfl (lv_at hl 4 rfl) ?_
      refine lv_icmp_ne (tgt := 69) hx hb dX11_slice_56 (by decide) (fun c_45 => ?_) (fun c_45 => ?_)
      · have c_45 := kn_eq rfl rfl c_45
        refine lv_aload_n hx hb dX11_slice_69 rfl (lv_at hl 2 rfl) ?_
        refine k_get (ci := 11) (v := .ref (gr g h0 9)) (C := RX11) (T := TX11) (N := 12) hx hb hts (fun _ h0_ => List.mem_cons_of_mem _ (List.mem_append_right _ (List.mem_append_right _ (List.mem_append_left _ h0_)))) hown hK hI i_h0.1 k_4 rfl 9 (by decide) (hts (.fieldLink RX11 65 "DeadlineShare" "history" "LDeadlineShare$History;") (List.mem_cons_of_mem _ (List.mem_append_left _ (List.mem_of_getElem? (i := 10) rfl)))) (fun _ h9 => h9) rfl dX11_slice_70 ?_
        have i_47 := kw_11_9 hG i_h0
        refine lv_aload_n hx hb dX11_slice_73 rfl (lv_at hl 2 rfl) ?_
        refine k_get (ci := 11) (v := .ref (gr g h0 3)) (C := RX11) (T := TX11) (N := 12) hx hb hts (fun _ h0_ => List.mem_cons_of_mem _ (List.mem_append_right _ (List.mem_append_right _ (List.mem_append_left _ h0_)))) hown hK hI i_h0.1 k_4 rfl 3 (by decide) (hts (.fieldLink RX11 37 "DeadlineShare" "now" "LDeadlineShare$State;") (List.mem_cons_of_mem _ (List.mem_append_left _ (List.mem_of_getElem? (i := 3) rfl)))) (fun _ h9 => h9) rfl dX11_slice_74 ?_
        refine lv_iconst (v := 4) hx hb dX11_slice_77 (by decide) ?_
        obtain ⟨x_51, x_52, k_50⟩ := op_1 hI i_47
        refine va_callv (va_runV (As := [.ref (gr g h0 3), .int 4]) (rest := []) ⟨hx, hb, hml, hown, hts⟩ (c_X1_keep l dC dI g A hG f (gr g h0 9) (gr g h0 3) 4 i_47 i_7) (cwV 2 hts (gi_V (fun w_ h0_ => ⟨List.mem_cons_of_mem _ (List.mem_append_right _ (List.mem_append_right _ (List.mem_append_right _ (List.mem_append_right _ (List.mem_append_right _ (List.mem_append_right _ (List.mem_append_left _ h0_))))))), (tb_c_X1_keep w_ h0_).2⟩) (List.mem_cons_of_mem _ (List.mem_append_left _ (List.mem_of_getElem? (i := 11) rfl))) (List.mem_cons_of_mem _ (List.mem_append_left _ (List.mem_of_getElem? (i := 12) rfl))) (List.mem_cons_of_mem _ (List.mem_append_left _ (List.mem_of_getElem? (i := 13) rfl))) (List.mem_cons_of_mem _ (List.mem_append_left _ (List.mem_of_getElem? (i := 14) rfl)))) rfl rfl rfl (by decide +kernel) ⟨Nat.le_of_ble_eq_true rfl, Nat.le_of_ble_eq_true rfl⟩) ⟨fun a U g mk q => ⟨q.1, q.2.calling rfl rfl⟩, k_recv hK hI i_47.1 k_50 (ci := 1) rfl, fun U hU hW => ⟨rfl, kIn.of hI hK hE hS hU hW⟩⟩ rfl rfl hl.1 rfl (lv_room (Nat.le_of_ble_eq_true rfl)) dX11_slice_78 ⟨Nat.le_of_ble_eq_true rfl, Nat.le_of_ble_eq_true rfl⟩) hS (fun q _ h => h) (fun q h => h) (fun u t H1 locs ht hvm _ hB hz1 hk1 hS => ?_)
        obtain ⟨f_53, hI, kc_55⟩ := hB
        rw [ht] at hI
        have k_57 : f_53 h0 = .inr (11, [.ref (gr g h0 0), .ref (gr g h0 1), .ref (gr g h0 2), .ref (gr g h0 3), .ref (gr g h0 4), .ref (gr g h0 5), .ref (gr g h0 6), .ref (gr g h0 7), .ref (gr g h0 8), .ref (gr g h0 9), .ref (gr g h0 10), .int x_5]) := Kp.at kc_55 i_h0 (by decide) k_4
        have k_58 : f_53 (gr g (gr g h0 3) 1) = .inl (gc g 4, 12, .inr (.inr (.inr (.inr q_24)))) := Kp.at kc_55 i_22 (by decide) k_23
        have kp_59 := Kp.call hk0 kc_55 (by decide)
        generalize H1 = H at hI hS ⊢
        refine W.widen (k := 0) (n := 0) (Nat.le_of_ble_eq_true rfl) (Nat.le_of_ble_eq_true rfl) ?_
        refine lv_aload_n hx hb dX11_slice_81 rfl (lv_at hl 1 rfl) ?_
        refine lv_iload_n hx hb dX11_slice_82 rfl (lv_at hl 4 rfl) ?_
        obtain ⟨x_61, x_62, x_63, x_64, x_65, x_66, x_67, x_68, x_69, x_70, x_71, x_72, x_73, x_74, x_75, x_76, k_60⟩ := op_8 hI i_27
        refine va_callv (va_runV (As := [.int p2]) (rest := []) ⟨hx, hb, hml, hown, hts⟩ (c_X8_takeSlice l dC dI g A hG f_53 a_26 p2 i_27) (cwV 1 hts (gi_V (fun w_ h0_ => ⟨List.mem_cons_of_mem _ (List.mem_append_right _ (List.mem_append_right _ (List.mem_append_right _ (List.mem_append_right _ (List.mem_append_right _ (List.mem_append_right _ (List.mem_append_right _ (List.mem_append_left _ h0_)))))))), (tb_c_X8_takeSlice w_ h0_).2⟩) (List.mem_cons_of_mem _ (List.mem_append_left _ (List.mem_of_getElem? (i := 15) rfl))) (List.mem_cons_of_mem _ (List.mem_append_left _ (List.mem_of_getElem? (i := 16) rfl))) (List.mem_cons_of_mem _ (List.mem_append_left _ (List.mem_of_getElem? (i := 17) rfl))) (List.mem_cons_of_mem _ (List.mem_append_left _ (List.mem_of_getElem? (i := 18) rfl)))) rfl rfl rfl (by decide +kernel) ⟨Nat.le_of_ble_eq_true rfl, Nat.le_of_ble_eq_true rfl⟩) ⟨fun a U g mk q => ⟨q.1, q.2.calling rfl rfl⟩, k_recv hK hI i_27.1 k_60 (ci := 8) rfl, fun U hU hW => ⟨rfl, kIn.of hI hK hE hS hU hW⟩⟩ rfl rfl hl.1 rfl (lv_room (Nat.le_of_ble_eq_true rfl)) dX11_slice_83 ⟨Nat.le_of_ble_eq_true rfl, Nat.le_of_ble_eq_true rfl⟩) hS (fun q _ h => h) (fun q h => h) (fun u t H1 locs ht hvm _ hB hz1 hk1 hS => ?_)
        obtain ⟨f_77, hI, kc_79⟩ := hB
        rw [ht] at hI
        have k_81 : f_77 h0 = .inr (11, [.ref (gr g h0 0), .ref (gr g h0 1), .ref (gr g h0 2), .ref (gr g h0 3), .ref (gr g h0 4), .ref (gr g h0 5), .ref (gr g h0 6), .ref (gr g h0 7), .ref (gr g h0 8), .ref (gr g h0 9), .ref (gr g h0 10), .int x_5]) := Kp.at kc_79 i_h0 (by decide) k_57
        have k_82 : f_77 (gr g (gr g h0 3) 1) = .inl (gc g 4, 12, .inr (.inr (.inr (.inr q_24)))) := Kp.at kc_79 i_22 (by decide) k_58
        have kp_83 := Kp.call kp_59 kc_79 (by decide)
        generalize H1 = H at hI hS ⊢
        refine W.widen (k := 0) (n := 0) (Nat.le_of_ble_eq_true rfl) (Nat.le_of_ble_eq_true rfl) ?_
        refine lv_aload_n hx hb dX11_slice_86 rfl (lv_at hl 2 rfl) ?_
        refine k_get (ci := 11) (v := .ref (gr g h0 10)) (C := RX11) (T := TX11) (N := 12) hx hb hts (fun _ h0_ => List.mem_cons_of_mem _ (List.mem_append_right _ (List.mem_append_right _ (List.mem_append_left _ h0_)))) hown hK hI i_h0.1 k_81 rfl 10 (by decide) (hts (.fieldLink RX11 72 "DeadlineShare" "refusals" "LDeadlineShare$Refusals;") (List.mem_cons_of_mem _ (List.mem_append_left _ (List.mem_of_getElem? (i := 19) rfl)))) (fun _ h9 => h9) rfl dX11_slice_87 ?_
        have i_85 := kw_11_10 hG i_h0
        refine lv_iload hx hb dX11_slice_90 (lv_at hl 0 rfl) ?_
        obtain ⟨x_87, k_86⟩ := op_4 hI i_85
        refine va_calli (va_runV (As := [.int x_31]) (rest := []) ⟨hx, hb, hml, hown, hts⟩ (c_X4_none l dC dI g A hG f_77 (gr g h0 10) x_31 i_85) (cwV 1 hts (gi_V (fun w_ h0_ => ⟨List.mem_cons_of_mem _ (List.mem_append_right _ (List.mem_append_right _ (List.mem_append_right _ (List.mem_append_right _ (List.mem_append_right _ (List.mem_append_right _ (List.mem_append_right _ (List.mem_append_right _ (List.mem_append_left _ h0_))))))))), (tb_c_X4_none w_ h0_).2⟩) (List.mem_cons_of_mem _ (List.mem_append_left _ (List.mem_of_getElem? (i := 20) rfl))) (List.mem_cons_of_mem _ (List.mem_append_left _ (List.mem_of_getElem? (i := 21) rfl))) (List.mem_cons_of_mem _ (List.mem_append_left _ (List.mem_of_getElem? (i := 22) rfl))) (List.mem_cons_of_mem _ (List.mem_append_left _ (List.mem_of_getElem? (i := 23) rfl)))) rfl rfl rfl (by decide +kernel) ⟨Nat.le_of_ble_eq_true rfl, Nat.le_of_ble_eq_true rfl⟩) ⟨fun a U g mk q => ⟨q.1, q.2.calling rfl rfl⟩, k_recv hK hI i_85.1 k_86 (ci := 4) rfl, fun U hU hW => ⟨rfl, kIn.of hI hK hE hS hU hW⟩⟩ rfl rfl hl.1 rfl (lv_room (Nat.le_of_ble_eq_true rfl)) dX11_slice_92 ⟨Nat.le_of_ble_eq_true rfl, Nat.le_of_ble_eq_true rfl⟩) hS (fun q _ h => h) (fun q h => h) (fun r_90 u t H1 locs ht hvm w_89 hB hz1 hk1 hS => ?_)
        obtain ⟨f_88, hI, kc_91⟩ := hB
        rw [ht] at hI
        have k_93 : f_88 h0 = .inr (11, [.ref (gr g h0 0), .ref (gr g h0 1), .ref (gr g h0 2), .ref (gr g h0 3), .ref (gr g h0 4), .ref (gr g h0 5), .ref (gr g h0 6), .ref (gr g h0 7), .ref (gr g h0 8), .ref (gr g h0 9), .ref (gr g h0 10), .int x_5]) := Kp.at kc_91 i_h0 (by decide) k_81
        have k_94 : f_88 (gr g (gr g h0 3) 1) = .inl (gc g 4, 12, .inr (.inr (.inr (.inr q_24)))) := Kp.at kc_91 i_22 (by decide) k_82
        have kp_95 := Kp.call kp_83 kc_91 (by decide)
        generalize H1 = H at hI hS ⊢
        refine W.widen (k := 0) (n := 0) (Nat.le_of_ble_eq_true rfl) (Nat.le_of_ble_eq_true rfl) ?_
        exact W.iret (v := r_90) hx hb hr (fun t ht hW => ⟨⟨r_90, (), rfl, trivial, ⟨f_88, k_ret ht hI, kp_95⟩⟩, hS.F ht⟩) hS.2.2 dX11_slice_95
      · have c_45 := kc_eq rfl rfl c_45
        refine lv_aload_n hx hb dX11_slice_59 rfl (lv_at hl 2 rfl) ?_
        refine k_get (ci := 11) (v := .ref (gr g h0 10)) (C := RX11) (T := TX11) (N := 12) hx hb hts (fun _ h0_ => List.mem_cons_of_mem _ (List.mem_append_right _ (List.mem_append_right _ (List.mem_append_left _ h0_)))) hown hK hI i_h0.1 k_4 rfl 10 (by decide) (hts (.fieldLink RX11 72 "DeadlineShare" "refusals" "LDeadlineShare$Refusals;") (List.mem_cons_of_mem _ (List.mem_append_left _ (List.mem_of_getElem? (i := 19) rfl)))) (fun _ h9 => h9) rfl dX11_slice_60 ?_
        have i_97 := kw_11_10 hG i_h0
        refine lv_bipush (v := (-4)) hx hb dX11_slice_63 (by decide) ?_
        obtain ⟨x_99, k_98⟩ := op_4 hI i_97
        refine va_calli (va_runV (As := [.int (-4)]) (rest := []) ⟨hx, hb, hml, hown, hts⟩ (c_X4_add l dC dI g A hG f (gr g h0 10) (-4) i_97) (cwV 1 hts (gi_V (fun w_ h0_ => ⟨List.mem_cons_of_mem _ (List.mem_append_right _ (List.mem_append_right _ (List.mem_append_right _ (List.mem_append_right _ (List.mem_append_right _ (List.mem_append_right _ (List.mem_append_right _ (List.mem_append_right _ (List.mem_append_right _ (List.mem_append_left _ h0_)))))))))), (tb_c_X4_add w_ h0_).2⟩) (List.mem_cons_of_mem _ (List.mem_append_left _ (List.mem_of_getElem? (i := 24) rfl))) (List.mem_cons_of_mem _ (List.mem_append_left _ (List.mem_of_getElem? (i := 25) rfl))) (List.mem_cons_of_mem _ (List.mem_append_left _ (List.mem_of_getElem? (i := 26) rfl))) (List.mem_cons_of_mem _ (List.mem_append_left _ (List.mem_of_getElem? (i := 23) rfl)))) rfl rfl rfl (by decide +kernel) ⟨Nat.le_of_ble_eq_true rfl, Nat.le_of_ble_eq_true rfl⟩) ⟨fun a U g mk q => ⟨q.1, q.2.calling rfl rfl⟩, k_recv hK hI i_97.1 k_98 (ci := 4) rfl, fun U hU hW => ⟨rfl, kIn.of hI hK hE hS hU hW⟩⟩ rfl rfl hl.1 rfl (lv_room (Nat.le_of_ble_eq_true rfl)) dX11_slice_65 ⟨Nat.le_of_ble_eq_true rfl, Nat.le_of_ble_eq_true rfl⟩) hS (fun q _ h => h) (fun q h => h) (fun r_102 u t H1 locs ht hvm w_101 hB hz1 hk1 hS => ?_)
        obtain ⟨f_100, hI, kc_103⟩ := hB
        rw [ht] at hI
        have k_105 : f_100 h0 = .inr (11, [.ref (gr g h0 0), .ref (gr g h0 1), .ref (gr g h0 2), .ref (gr g h0 3), .ref (gr g h0 4), .ref (gr g h0 5), .ref (gr g h0 6), .ref (gr g h0 7), .ref (gr g h0 8), .ref (gr g h0 9), .ref (gr g h0 10), .int x_5]) := Kp.at kc_103 i_h0 (by decide) k_4
        have k_106 : f_100 (gr g h0 3) = .inr (6, [.ref (gr g (gr g h0 3) 0), .ref (gr g (gr g h0 3) 1), .ref (gr g (gr g h0 3) 2), .ref (gr g (gr g h0 3) 3), .ref (gr g (gr g h0 3) 4), .int x_9, .int x_10, .long x_11, .int x_12, .int x_13]) := Kp.at kc_103 i_7 (by decide) k_8
        have k_107 : f_100 (gr g (gr g h0 3) 1) = .inl (gc g 4, 12, .inr (.inr (.inr (.inr q_24)))) := Kp.at kc_103 i_22 (by decide) k_23
        have k_108 : f_100 a_26 = .inr (8, [.int x_29, .ref (gr g a_26 1), .int x_30, .int x_31, .int x_32, .long x_33, .int x_34, .ref (gr g a_26 7), .int x_35, .int x_36, .int x_37, .int x_38, .int x_39, .int x_40, .int x_41, .int x_42, .int x_43, .int x_44]) := Kp.at kc_103 i_27 (by decide) k_28
        have kp_109 := Kp.call hk0 kc_103 (by decide)
        generalize H1 = H at hI hS ⊢
        refine W.widen (k := 0) (n := 0) (Nat.le_of_ble_eq_true rfl) (Nat.le_of_ble_eq_true rfl) ?_
        exact W.iret (v := r_102) hx hb hr (fun t ht hW => ⟨⟨r_102, (), rfl, trivial, ⟨f_100, k_ret ht hI, kp_109⟩⟩, hS.F ht⟩) hS.2.2 dX11_slice_68
    · have c_18 := kc_eq rfl (by decide : Int32.toInt 0 = 0) c_18
      refine lv_aload_n hx hb dX11_slice_27 rfl (lv_at hl 0 rfl) ?_
      refine k_get (ci := 11) (v := .ref (gr g h0 10)) (C := RX11) (T := TX11) (N := 12) hx hb hts (fun _ h0_ => List.mem_cons_of_mem _ (List.mem_append_right _ (List.mem_append_right _ (List.mem_append_left _ h0_)))) hown hK hI i_h0.1 k_4 rfl 10 (by decide) (hts (.fieldLink RX11 72 "DeadlineShare" "refusals" "LDeadlineShare$Refusals;") (List.mem_cons_of_mem _ (List.mem_append_left _ (List.mem_of_getElem? (i := 19) rfl)))) (fun _ h9 => h9) rfl dX11_slice_28 ?_
      have i_111 := kw_11_10 hG i_h0
      refine lv_bipush (v := (-2)) hx hb dX11_slice_31 (by decide) ?_
      obtain ⟨x_113, k_112⟩ := op_4 hI i_111
      refine va_calli (va_runV (As := [.int (-2)]) (rest := []) ⟨hx, hb, hml, hown, hts⟩ (c_X4_add l dC dI g A hG f (gr g h0 10) (-2) i_111) (cwV 1 hts (gi_V (fun w_ h0_ => ⟨List.mem_cons_of_mem _ (List.mem_append_right _ (List.mem_append_right _ (List.mem_append_right _ (List.mem_append_right _ (List.mem_append_right _ (List.mem_append_right _ (List.mem_append_right _ (List.mem_append_right _ (List.mem_append_right _ (List.mem_append_left _ h0_)))))))))), (tb_c_X4_add w_ h0_).2⟩) (List.mem_cons_of_mem _ (List.mem_append_left _ (List.mem_of_getElem? (i := 24) rfl))) (List.mem_cons_of_mem _ (List.mem_append_left _ (List.mem_of_getElem? (i := 25) rfl))) (List.mem_cons_of_mem _ (List.mem_append_left _ (List.mem_of_getElem? (i := 26) rfl))) (List.mem_cons_of_mem _ (List.mem_append_left _ (List.mem_of_getElem? (i := 23) rfl)))) rfl rfl rfl (by decide +kernel) ⟨Nat.le_of_ble_eq_true rfl, Nat.le_of_ble_eq_true rfl⟩) ⟨fun a U g mk q => ⟨q.1, q.2.calling rfl rfl⟩, k_recv hK hI i_111.1 k_112 (ci := 4) rfl, fun U hU hW => ⟨rfl, kIn.of hI hK hE hS hU hW⟩⟩ rfl rfl hl.1 rfl (lv_room (Nat.le_of_ble_eq_true rfl)) dX11_slice_33 ⟨Nat.le_of_ble_eq_true rfl, Nat.le_of_ble_eq_true rfl⟩) hS (fun q _ h => h) (fun q h => h) (fun r_116 u t H1 locs ht hvm w_115 hB hz1 hk1 hS => ?_)
      obtain ⟨f_114, hI, kc_117⟩ := hB
      rw [ht] at hI
      have k_119 : f_114 h0 = .inr (11, [.ref (gr g h0 0), .ref (gr g h0 1), .ref (gr g h0 2), .ref (gr g h0 3), .ref (gr g h0 4), .ref (gr g h0 5), .ref (gr g h0 6), .ref (gr g h0 7), .ref (gr g h0 8), .ref (gr g h0 9), .ref (gr g h0 10), .int x_5]) := Kp.at kc_117 i_h0 (by decide) k_4
      have k_120 : f_114 (gr g h0 3) = .inr (6, [.ref (gr g (gr g h0 3) 0), .ref (gr g (gr g h0 3) 1), .ref (gr g (gr g h0 3) 2), .ref (gr g (gr g h0 3) 3), .ref (gr g (gr g h0 3) 4), .int x_9, .int x_10, .long x_11, .int x_12, .int x_13]) := Kp.at kc_117 i_7 (by decide) k_8
      have kp_121 := Kp.call hk0 kc_117 (by decide)
      generalize H1 = H at hI hS ⊢
      refine W.widen (k := 0) (n := 0) (Nat.le_of_ble_eq_true rfl) (Nat.le_of_ble_eq_true rfl) ?_
      exact W.iret (v := r_116) hx hb hr (fun t ht hW => ⟨⟨r_116, (), rfl, trivial, ⟨f_114, k_ret ht hI, kp_121⟩⟩, hS.F ht⟩) hS.2.2 dX11_slice_36
  · have c_3 := kc_eq rfl (by decide : Int32.toInt 0 = 0) c_3
    refine lv_aload_n hx hb dX11_slice_7 rfl (lv_at hl 0 rfl) ?_
    obtain ⟨x_123, k_122⟩ := op_11 hI i_h0
    refine k_get (ci := 11) (v := .ref (gr g h0 10)) (C := RX11) (T := TX11) (N := 12) hx hb hts (fun _ h0_ => List.mem_cons_of_mem _ (List.mem_append_right _ (List.mem_append_right _ (List.mem_append_left _ h0_)))) hown hK hI i_h0.1 k_122 rfl 10 (by decide) (hts (.fieldLink RX11 72 "DeadlineShare" "refusals" "LDeadlineShare$Refusals;") (List.mem_cons_of_mem _ (List.mem_append_left _ (List.mem_of_getElem? (i := 19) rfl)))) (fun _ h9 => h9) rfl dX11_slice_8 ?_
    have i_125 := kw_11_10 hG i_h0
    refine lv_iconst (v := (-1)) hx hb dX11_slice_11 (by decide) ?_
    obtain ⟨x_127, k_126⟩ := op_4 hI i_125
    refine va_calli (va_runV (As := [.int (-1)]) (rest := []) ⟨hx, hb, hml, hown, hts⟩ (c_X4_add l dC dI g A hG f (gr g h0 10) (-1) i_125) (cwV 1 hts (gi_V (fun w_ h0_ => ⟨List.mem_cons_of_mem _ (List.mem_append_right _ (List.mem_append_right _ (List.mem_append_right _ (List.mem_append_right _ (List.mem_append_right _ (List.mem_append_right _ (List.mem_append_right _ (List.mem_append_right _ (List.mem_append_right _ (List.mem_append_left _ h0_)))))))))), (tb_c_X4_add w_ h0_).2⟩) (List.mem_cons_of_mem _ (List.mem_append_left _ (List.mem_of_getElem? (i := 24) rfl))) (List.mem_cons_of_mem _ (List.mem_append_left _ (List.mem_of_getElem? (i := 25) rfl))) (List.mem_cons_of_mem _ (List.mem_append_left _ (List.mem_of_getElem? (i := 26) rfl))) (List.mem_cons_of_mem _ (List.mem_append_left _ (List.mem_of_getElem? (i := 23) rfl)))) rfl rfl rfl (by decide +kernel) ⟨Nat.le_of_ble_eq_true rfl, Nat.le_of_ble_eq_true rfl⟩) ⟨fun a U g mk q => ⟨q.1, q.2.calling rfl rfl⟩, k_recv hK hI i_125.1 k_126 (ci := 4) rfl, fun U hU hW => ⟨rfl, kIn.of hI hK hE hS hU hW⟩⟩ rfl rfl hl.1 rfl (lv_room (Nat.le_of_ble_eq_true rfl)) dX11_slice_12 ⟨Nat.le_of_ble_eq_true rfl, Nat.le_of_ble_eq_true rfl⟩) hS (fun q _ h => h) (fun q h => h) (fun r_130 u t H1 locs ht hvm w_129 hB hz1 hk1 hS => ?_)
    obtain ⟨f_128, hI, kc_131⟩ := hB
    rw [ht] at hI
    have k_133 : f_128 h0 = .inr (11, [.ref (gr g h0 0), .ref (gr g h0 1), .ref (gr g h0 2), .ref (gr g h0 3), .ref (gr g h0 4), .ref (gr g h0 5), .ref (gr g h0 6), .ref (gr g h0 7), .ref (gr g h0 8), .ref (gr g h0 9), .ref (gr g h0 10), .int x_123]) := Kp.at kc_131 i_h0 (by decide) k_122
    have kp_134 := Kp.call hk0 kc_131 (by decide)
    generalize H1 = H at hI hS ⊢
    refine W.widen (k := 0) (n := 0) (Nat.le_of_ble_eq_true rfl) (Nat.le_of_ble_eq_true rfl) ?_
    exact W.iret (v := r_130) hx hb hr (fun t ht hW => ⟨⟨r_130, (), rfl, trivial, ⟨f_128, k_ret ht hI, kp_134⟩⟩, hS.F ht⟩) hS.2.2 dX11_slice_15
theorem tw_505 : q_g (.selects RX6 yX6_sliceToBeServedIn yX6_sliceToBeServedIn) := ⟨(List.mem_append_right _ (List.mem_of_getElem? (i := 591) (by decide +kernel))), good_of_word (by decide +kernel)⟩
theorem tw_506 : q_g (.instanceMethod yX6_sliceToBeServedIn) := ⟨(List.mem_append_right _ (List.mem_of_getElem? (i := 590) (by decide +kernel))), good_of_word (by decide +kernel)⟩
theorem tw_507 : q_g (.methodLink RX11 188 yX6_sliceToBeServedIn) := ⟨(List.mem_append_right _ (List.mem_of_getElem? (i := 589) (by decide +kernel))), good_of_word (by decide +kernel)⟩
theorem tw_508 : q_g (.code yX11_wish cX11_wish 4 (some .int)) := ⟨(List.mem_append_right _ (List.mem_of_getElem? (i := 588) (by decide +kernel))), good_of_word (by decide +kernel)⟩
def ow_c_X11_wish : List Cond := [.fieldLink RX11 72 "DeadlineShare" "refusals" "LDeadlineShare$Refusals;", .methodLink RX11 84 yX4_add, .instanceMethod yX4_add, .selects RX4 yX4_add yX4_add, .initialized RX4, .fieldLink RX11 37 "DeadlineShare" "now" "LDeadlineShare$State;", .methodLink RX11 130 yX6_has, .instanceMethod yX6_has, .selects RX6 yX6_has yX6_has, .initialized RX6, .fieldLink RX11 65 "DeadlineShare" "history" "LDeadlineShare$History;", .methodLink RX11 122 yX1_keep, .instanceMethod yX1_keep, .selects RX1 yX1_keep yX1_keep, .initialized RX1, .fieldLink RX11 133 "DeadlineShare$State" "tasks" "[LDeadlineShare$Task;", .methodLink RX11 188 yX6_sliceToBeServedIn, .instanceMethod yX6_sliceToBeServedIn, .selects RX6 yX6_sliceToBeServedIn yX6_sliceToBeServedIn, .methodLink RX11 185 yX8_takeSlice, .instanceMethod yX8_takeSlice, .selects RX8 yX8_takeSlice yX8_takeSlice, .initialized RX8, .fieldLink RX11 182 "DeadlineShare$Task" "slice" "I", .methodLink RX11 95 yX4_none, .instanceMethod yX4_none, .selects RX4 yX4_none yX4_none]
def wq_c_X11_wish : List Cond := .code yX11_wish cX11_wish 4 (some .int) :: (ow_c_X11_wish ++ (u_ws RX11 TX11 12 ++ (wq_c_X4_add ++ (wq_c_X6_has ++ (wq_c_X1_keep ++ (u_ws RX6 TX6 10 ++ (wq_c_X6_sliceToBeServedIn ++ (wq_c_X8_takeSlice ++ (u_ws RX8 TX8 18 ++ (wq_c_X4_none ++ ([] : List Cond)))))))))))
theorem tb_c_X11_wish : ∀ w ∈ wq_c_X11_wish, q_g w := by
  unfold wq_c_X11_wish ow_c_X11_wish
  exact q_cons tw_508 (q_app (q_cons tw_443 (q_cons tw_439 (q_cons tw_438 (q_cons tw_437 (q_cons tw_204 (q_cons tw_479 (q_cons tw_492 (q_cons tw_74 (q_cons tw_73 (q_cons tw_47 (q_cons tw_477 (q_cons tw_476 (q_cons tw_475 (q_cons tw_474 (q_cons tw_473 (q_cons tw_491 (q_cons tw_507 (q_cons tw_506 (q_cons tw_505 (q_cons tw_502 (q_cons tw_329 (q_cons tw_328 (q_cons tw_8 (q_cons tw_503 (q_cons tw_442 (q_cons tw_441 (q_cons tw_440 q_nil))))))))))))))))))))))))))) (q_app tu_X11 (q_app tb_c_X4_add (q_app tb_c_X6_has (q_app tb_c_X1_keep (q_app tu_X6 (q_app tb_c_X6_sliceToBeServedIn (q_app tb_c_X8_takeSlice (q_app tu_X8 (q_app tb_c_X4_none q_nil))))))))))
set_option maxHeartbeats 4000000 in
set_option maxRecDepth 100000 in
theorem c_X11_wish (l : Launch) (dC : Nat → ClassId) (dI : Nat → Nat → Nat) (g : kG) (A : Nat → Prop) (hG : kWf g) (f : Nat → va_E) (h0 : Nat) (p1 : Int32) (p2 : Int32) (i_h0 : ik g 11 h0) : Met l yX11_wish wq_c_X11_wish ({ frames := 5, cells := 0, slots := 0, locals := 126 } : Room) (va_Pc [.ref h0, .int p1, .int p2] (fun U => kIn dC dI g A f U)) (va_Qi (fun (r : Int32) (_ : Unit) => True) (fun (_ : Unit) t => ∃ f1 : Nat → va_E, Iv dC dI g A f1 t.heap ∧ Kp g [1, 4, 5, 6, 8, 10, 23, 24, 27, 28] f f1) A) 0 0 A := by
  refine Met.ofW (cc := cX11_wish) (maxL := 4) (ret := (some .int)) (by decide) rfl ?_
  intro p e s m args below meth c s₁ B hml hv
  obtain ⟨rfl, hI, hK, hE⟩ := hv
  have hx := B.exec
  have hb := B.bytes
  have hr := B.returns
  have hts := atoms_spec (ws := wq_c_X11_wish) B.pre
  have hown : s.vm.findClass RX11 = some m.cls := findClass_of_methodNamed B.named
  have hlocks := B.notSynchronized
  have hS : va_S A s.heap s.heap [] := va_S.rf
  have hk0 : Kp g [1, 4, 5, 6, 8, 10, 23, 24, 27, 28] f f := Kp.rf
  have hl := lv_entry ([.ref h0, .int p1, .int p2]) (n := 4) (Nat.le_of_ble_eq_true rfl)
  rw [lg_entry_eq]
  generalize (lg_sl ([.ref h0, .int p1, .int p2]) ++ List.replicate (4 - (lg_sl ([.ref h0, .int p1, .int p2])).length) Slot.unset).toArray = ls at hl ⊢
  have hl : lv_has ls 4 [(0, .ref h0), (1, .int p1), (2, .int p2)] := hl
  refine lv_iload_n hx hb dX11_wish_0 rfl (lv_at hl 2 rfl) ?_
  refine lv_iconst (v := 1) hx hb dX11_wish_1 (by decide) ?_
  have J_11 : ∀ (H : Heap) (locs : List Loc) (ls : Array Slot), Iv dC dI g A f H → va_S A s.heap H locs → lv_has ls 4 [(0, .ref h0), (1, .int p1), (2, .int p2)] → W p l e (headSpec wq_c_X11_wish ({ frames := 5, cells := 0, slots := 0, locals := 126 } : Room)).room s m ([.ref h0, .int p1, .int p2].toArray) below meth c H locs 0 0 (MQ below (va_Qi (fun (r : Int32) (_ : Unit) => True) (fun (_ : Unit) t => ∃ f1 : Nat → va_E, Iv dC dI g A f1 t.heap ∧ Kp g [1, 4, 5, 6, 8, 10, 23, 24, 27, 28] f f1) A) ([.ref h0, .int p1, .int p2].toArray) s 0 0 A) (F0 m 11 ls []) := by
    intro H locs ls hI hS  hl
    refine lv_aload_n hx hb dX11_wish_11 rfl (lv_at hl 0 rfl) ?_
    obtain ⟨x_2, k_1⟩ := op_11 hI i_h0
    refine k_get (ci := 11) (v := .ref (gr g h0 10)) (C := RX11) (T := TX11) (N := 12) hx hb hts (fun _ h0_ => List.mem_cons_of_mem _ (List.mem_append_right _ (List.mem_append_left _ h0_))) hown hK hI i_h0.1 k_1 rfl 10 (by decide) (hts (.fieldLink RX11 72 "DeadlineShare" "refusals" "LDeadlineShare$Refusals;") (List.mem_cons_of_mem _ (List.mem_append_left _ (List.mem_of_getElem? (i := 0) rfl)))) (fun _ h9 => h9) rfl dX11_wish_12 ?_
    have i_4 := kw_11_10 hG i_h0
    refine lv_iconst (v := (-1)) hx hb dX11_wish_15 (by decide) ?_
    obtain ⟨x_6, k_5⟩ := op_4 hI i_4
    refine va_calli (va_runV (As := [.int (-1)]) (rest := []) ⟨hx, hb, hml, hown, hts⟩ (c_X4_add l dC dI g A hG f (gr g h0 10) (-1) i_4) (cwV 1 hts (gi_V (fun w_ h0_ => ⟨List.mem_cons_of_mem _ (List.mem_append_right _ (List.mem_append_right _ (List.mem_append_left _ h0_))), (tb_c_X4_add w_ h0_).2⟩) (List.mem_cons_of_mem _ (List.mem_append_left _ (List.mem_of_getElem? (i := 1) rfl))) (List.mem_cons_of_mem _ (List.mem_append_left _ (List.mem_of_getElem? (i := 2) rfl))) (List.mem_cons_of_mem _ (List.mem_append_left _ (List.mem_of_getElem? (i := 3) rfl))) (List.mem_cons_of_mem _ (List.mem_append_left _ (List.mem_of_getElem? (i := 4) rfl)))) rfl rfl rfl (by decide +kernel) ⟨Nat.le_of_ble_eq_true rfl, Nat.le_of_ble_eq_true rfl⟩) ⟨fun a U g mk q => ⟨q.1, q.2.calling rfl rfl⟩, k_recv hK hI i_4.1 k_5 (ci := 4) rfl, fun U hU hW => ⟨rfl, kIn.of hI hK hE hS hU hW⟩⟩ rfl rfl hl.1 rfl (lv_room (Nat.le_of_ble_eq_true rfl)) dX11_wish_16 ⟨Nat.le_of_ble_eq_true rfl, Nat.le_of_ble_eq_true rfl⟩) hS (fun q _ h => h) (fun q h => h) (fun r_9 u t H1 locs ht hvm w_8 hB hz1 hk1 hS => ?_)
    obtain ⟨f_7, hI, kc_10⟩ := hB
    rw [ht] at hI
    have k_12 : f_7 h0 = .inr (11, [.ref (gr g h0 0), .ref (gr g h0 1), .ref (gr g h0 2), .ref (gr g h0 3), .ref (gr g h0 4), .ref (gr g h0 5), .ref (gr g h0 6), .ref (gr g h0 7), .ref (gr g h0 8), .ref (gr g h0 9), .ref (gr g h0 10), .int x_2]) := Kp.at kc_10 i_h0 (by decide) k_1
    have kp_13 := Kp.call hk0 kc_10 (by decide)
    generalize H1 = H at hI hS ⊢
    refine W.widen (k := 0) (n := 0) (Nat.le_of_ble_eq_true rfl) (Nat.le_of_ble_eq_true rfl) ?_
    exact W.iret (v := r_9) hx hb hr (fun t ht hW => ⟨⟨r_9, (), rfl, trivial, ⟨f_7, k_ret ht hI, kp_13⟩⟩, hS.F ht⟩) hS.2.2 dX11_wish_19
  refine lv_icmp_lt (tgt := 11) hx hb dX11_wish_2 (by decide) (fun c_14 => ?_) (fun c_14 => ?_)
  · have c_14 := kc_lt rfl (by decide : Int32.toInt 1 = 1) c_14
    exact J_11  _ _ _ hI hS  (lv_sub hl [0, 1, 2] rfl)
  · have c_14 := kn_lt rfl (by decide : Int32.toInt 1 = 1) c_14
    refine lv_iload_n hx hb dX11_wish_5 rfl (lv_at hl 2 rfl) ?_
    refine lv_bipush (v := 99) hx hb dX11_wish_6 (by decide) ?_
    refine lv_icmp_le (tgt := 20) hx hb dX11_wish_8 (by decide) (fun c_15 => ?_) (fun c_15 => ?_)
    · have c_15 := kc_le rfl (by decide : Int32.toInt 99 = 99) c_15
      refine lv_aload_n hx hb dX11_wish_20 rfl (lv_at hl 0 rfl) ?_
      obtain ⟨x_17, k_16⟩ := op_11 hI i_h0
      refine k_get (ci := 11) (v := .ref (gr g h0 3)) (C := RX11) (T := TX11) (N := 12) hx hb hts (fun _ h0_ => List.mem_cons_of_mem _ (List.mem_append_right _ (List.mem_append_left _ h0_))) hown hK hI i_h0.1 k_16 rfl 3 (by decide) (hts (.fieldLink RX11 37 "DeadlineShare" "now" "LDeadlineShare$State;") (List.mem_cons_of_mem _ (List.mem_append_left _ (List.mem_of_getElem? (i := 5) rfl)))) (fun _ h9 => h9) rfl dX11_wish_21 ?_
      have i_19 := kw_11_3 hG i_h0
      refine lv_iload_n hx hb dX11_wish_24 rfl (lv_at hl 1 rfl) ?_
      obtain ⟨x_21, x_22, x_23, x_24, x_25, k_20, b_26, b_27⟩ := op_6 hI i_19
      refine va_calli (va_runV (As := [.int p1]) (rest := []) ⟨hx, hb, hml, hown, hts⟩ (c_X6_has l dC dI g A hG f (gr g h0 3) p1 i_19) (cwV 1 hts (gi_V (fun w_ h0_ => ⟨List.mem_cons_of_mem _ (List.mem_append_right _ (List.mem_append_right _ (List.mem_append_right _ (List.mem_append_left _ h0_)))), (tb_c_X6_has w_ h0_).2⟩) (List.mem_cons_of_mem _ (List.mem_append_left _ (List.mem_of_getElem? (i := 6) rfl))) (List.mem_cons_of_mem _ (List.mem_append_left _ (List.mem_of_getElem? (i := 7) rfl))) (List.mem_cons_of_mem _ (List.mem_append_left _ (List.mem_of_getElem? (i := 8) rfl))) (List.mem_cons_of_mem _ (List.mem_append_left _ (List.mem_of_getElem? (i := 9) rfl)))) rfl rfl rfl (by decide +kernel) ⟨Nat.le_of_ble_eq_true rfl, Nat.le_of_ble_eq_true rfl⟩) ⟨fun a U g mk q => ⟨q.1, q.2.calling rfl rfl⟩, k_recv hK hI i_19.1 k_20 (ci := 6) rfl, fun U hU hW => ⟨rfl, kIn.of hI hK hE hS hU hW⟩⟩ rfl rfl hl.1 rfl (lv_room (Nat.le_of_ble_eq_true rfl)) dX11_wish_25 ⟨Nat.le_of_ble_eq_true rfl, Nat.le_of_ble_eq_true rfl⟩) hS (fun q _ h => h) (fun q h => h) (fun r_29 u t H1 locs ht hvm w_28 hB hz1 hk1 hS => ?_)
      have hI : Iv dC dI g A f t.heap := hB
      rw [ht] at hI
      generalize H1 = H at hI hS ⊢
      refine W.widen (k := 0) (n := 0) (Nat.le_of_ble_eq_true rfl) (Nat.le_of_ble_eq_true rfl) ?_
      have w_28 : r_29.toInt = 0 ∨ (0 ≤ p1.toInt ∧ p1.toInt < 12) := w_28
      refine lv_if_ne (tgt := 41) hx hb dX11_wish_28 (by decide) (fun c_30 => ?_) (fun c_30 => ?_)
      · have c_30 := kn_eq rfl (by decide : Int32.toInt 0 = 0) c_30
        refine lv_aload_n hx hb dX11_wish_41 rfl (lv_at hl 0 rfl) ?_
        refine k_get (ci := 11) (v := .ref (gr g h0 9)) (C := RX11) (T := TX11) (N := 12) hx hb hts (fun _ h0_ => List.mem_cons_of_mem _ (List.mem_append_right _ (List.mem_append_left _ h0_))) hown hK hI i_h0.1 k_16 rfl 9 (by decide) (hts (.fieldLink RX11 65 "DeadlineShare" "history" "LDeadlineShare$History;") (List.mem_cons_of_mem _ (List.mem_append_left _ (List.mem_of_getElem? (i := 10) rfl)))) (fun _ h9 => h9) rfl dX11_wish_42 ?_
        have i_32 := kw_11_9 hG i_h0
        refine lv_aload_n hx hb dX11_wish_45 rfl (lv_at hl 0 rfl) ?_
        refine k_get (ci := 11) (v := .ref (gr g h0 3)) (C := RX11) (T := TX11) (N := 12) hx hb hts (fun _ h0_ => List.mem_cons_of_mem _ (List.mem_append_right _ (List.mem_append_left _ h0_))) hown hK hI i_h0.1 k_16 rfl 3 (by decide) (hts (.fieldLink RX11 37 "DeadlineShare" "now" "LDeadlineShare$State;") (List.mem_cons_of_mem _ (List.mem_append_left _ (List.mem_of_getElem? (i := 5) rfl)))) (fun _ h9 => h9) rfl dX11_wish_46 ?_
        refine lv_bipush (v := 7) hx hb dX11_wish_49 (by decide) ?_
        obtain ⟨x_36, x_37, k_35⟩ := op_1 hI i_32
        refine va_callv (va_runV (As := [.ref (gr g h0 3), .int 7]) (rest := []) ⟨hx, hb, hml, hown, hts⟩ (c_X1_keep l dC dI g A hG f (gr g h0 9) (gr g h0 3) 7 i_32 i_19) (cwV 2 hts (gi_V (fun w_ h0_ => ⟨List.mem_cons_of_mem _ (List.mem_append_right _ (List.mem_append_right _ (List.mem_append_right _ (List.mem_append_right _ (List.mem_append_left _ h0_))))), (tb_c_X1_keep w_ h0_).2⟩) (List.mem_cons_of_mem _ (List.mem_append_left _ (List.mem_of_getElem? (i := 11) rfl))) (List.mem_cons_of_mem _ (List.mem_append_left _ (List.mem_of_getElem? (i := 12) rfl))) (List.mem_cons_of_mem _ (List.mem_append_left _ (List.mem_of_getElem? (i := 13) rfl))) (List.mem_cons_of_mem _ (List.mem_append_left _ (List.mem_of_getElem? (i := 14) rfl)))) rfl rfl rfl (by decide +kernel) ⟨Nat.le_of_ble_eq_true rfl, Nat.le_of_ble_eq_true rfl⟩) ⟨fun a U g mk q => ⟨q.1, q.2.calling rfl rfl⟩, k_recv hK hI i_32.1 k_35 (ci := 1) rfl, fun U hU hW => ⟨rfl, kIn.of hI hK hE hS hU hW⟩⟩ rfl rfl hl.1 rfl (lv_room (Nat.le_of_ble_eq_true rfl)) dX11_wish_51 ⟨Nat.le_of_ble_eq_true rfl, Nat.le_of_ble_eq_true rfl⟩) hS (fun q _ h => h) (fun q h => h) (fun u t H1 locs ht hvm _ hB hz1 hk1 hS => ?_)
        obtain ⟨f_38, hI, kc_40⟩ := hB
        rw [ht] at hI
        have k_42 : f_38 h0 = .inr (11, [.ref (gr g h0 0), .ref (gr g h0 1), .ref (gr g h0 2), .ref (gr g h0 3), .ref (gr g h0 4), .ref (gr g h0 5), .ref (gr g h0 6), .ref (gr g h0 7), .ref (gr g h0 8), .ref (gr g h0 9), .ref (gr g h0 10), .int x_17]) := Kp.at kc_40 i_h0 (by decide) k_16
        have kp_43 := Kp.call hk0 kc_40 (by decide)
        generalize H1 = H at hI hS ⊢
        refine W.widen (k := 0) (n := 0) (Nat.le_of_ble_eq_true rfl) (Nat.le_of_ble_eq_true rfl) ?_
        refine lv_aload_n hx hb dX11_wish_54 rfl (lv_at hl 0 rfl) ?_
        refine k_get (ci := 11) (v := .ref (gr g h0 3)) (C := RX11) (T := TX11) (N := 12) hx hb hts (fun _ h0_ => List.mem_cons_of_mem _ (List.mem_append_right _ (List.mem_append_left _ h0_))) hown hK hI i_h0.1 k_42 rfl 3 (by decide) (hts (.fieldLink RX11 37 "DeadlineShare" "now" "LDeadlineShare$State;") (List.mem_cons_of_mem _ (List.mem_append_left _ (List.mem_of_getElem? (i := 5) rfl)))) (fun _ h9 => h9) rfl dX11_wish_55 ?_
        obtain ⟨x_47, x_48, x_49, x_50, x_51, k_46, b_52, b_53⟩ := op_6 hI i_19
        refine k_get (ci := 6) (v := .ref (gr g (gr g h0 3) 1)) (C := RX6) (T := TX6) (N := 10) hx hb hts (fun _ h0_ => List.mem_cons_of_mem _ (List.mem_append_right _ (List.mem_append_right _ (List.mem_append_right _ (List.mem_append_right _ (List.mem_append_right _ (List.mem_append_left _ h0_))))))) hown hK hI i_19.1 k_46 rfl 1 (by decide) (hts (.fieldLink RX11 133 "DeadlineShare$State" "tasks" "[LDeadlineShare$Task;") (List.mem_cons_of_mem _ (List.mem_append_left _ (List.mem_of_getElem? (i := 15) rfl)))) (fun _ h9 => h9) rfl dX11_wish_58 ?_
        have i_55 := kw_6_1 hG i_19
        refine lv_iload_n hx hb dX11_wish_61 rfl (lv_at hl 1 rfl) ?_
        obtain ⟨q_57, k_56, b_58⟩ := op_20 hI i_55
        refine k_aald hx hb hK hI i_55.1 4 k_56 rfl (vp_in_iff.mpr (by omega)) b_58 (fun _ hj => kw_20 hG i_55 hj) dX11_wish_62 (fun a_59 i_60 => ?_)
        refine lv_astore_n (lv' := [(3, .ref a_59), (0, .ref h0), (1, .int p1), (2, .int p2)]) hx hb dX11_wish_63 rfl hl (by decide) rfl (fun ls hl => ?_)
        refine lv_aload_n hx hb dX11_wish_64 rfl (lv_at hl 0 rfl) ?_
        refine lv_aload_n hx hb dX11_wish_65 rfl (lv_at hl 1 rfl) ?_
        refine k_get (ci := 11) (v := .ref (gr g h0 3)) (C := RX11) (T := TX11) (N := 12) hx hb hts (fun _ h0_ => List.mem_cons_of_mem _ (List.mem_append_right _ (List.mem_append_left _ h0_))) hown hK hI i_h0.1 k_42 rfl 3 (by decide) (hts (.fieldLink RX11 37 "DeadlineShare" "now" "LDeadlineShare$State;") (List.mem_cons_of_mem _ (List.mem_append_left _ (List.mem_of_getElem? (i := 5) rfl)))) (fun _ h9 => h9) rfl dX11_wish_66 ?_
        refine lv_aload_n hx hb dX11_wish_69 rfl (lv_at hl 0 rfl) ?_
        refine lv_iload_n hx hb dX11_wish_70 rfl (lv_at hl 3 rfl) ?_
        refine va_calli (va_runV (As := [.ref a_59, .int p2]) (rest := [.ref a_59]) ⟨hx, hb, hml, hown, hts⟩ (c_X6_sliceToBeServedIn l dC dI g A hG f_38 (gr g h0 3) a_59 p2 i_19 i_60) (cwV 2 hts (gi_V (fun w_ h0_ => ⟨List.mem_cons_of_mem _ (List.mem_append_right _ (List.mem_append_right _ (List.mem_append_right _ (List.mem_append_right _ (List.mem_append_right _ (List.mem_append_right _ (List.mem_append_left _ h0_))))))), (tb_c_X6_sliceToBeServedIn w_ h0_).2⟩) (List.mem_cons_of_mem _ (List.mem_append_left _ (List.mem_of_getElem? (i := 16) rfl))) (List.mem_cons_of_mem _ (List.mem_append_left _ (List.mem_of_getElem? (i := 17) rfl))) (List.mem_cons_of_mem _ (List.mem_append_left _ (List.mem_of_getElem? (i := 18) rfl))) (List.mem_cons_of_mem _ (List.mem_append_left _ (List.mem_of_getElem? (i := 9) rfl)))) rfl rfl rfl (by decide +kernel) ⟨Nat.le_of_ble_eq_true rfl, Nat.le_of_ble_eq_true rfl⟩) ⟨fun a U g mk q => ⟨q.1, q.2.calling rfl rfl⟩, k_recv hK hI i_19.1 k_46 (ci := 6) rfl, fun U hU hW => ⟨rfl, kIn.of hI hK hE hS hU hW⟩⟩ rfl rfl hl.1 rfl (lv_room (Nat.le_of_ble_eq_true rfl)) dX11_wish_71 ⟨Nat.le_of_ble_eq_true rfl, Nat.le_of_ble_eq_true rfl⟩) hS (fun q _ h => h) (fun q h => h) (fun r_64 u t H1 locs ht hvm w_63 hB hz1 hk1 hS => ?_)
        have hI : Iv dC dI g A f_38 t.heap := hB
        rw [ht] at hI
        generalize H1 = H at hI hS ⊢
        refine W.widen (k := 0) (n := 0) (Nat.le_of_ble_eq_true rfl) (Nat.le_of_ble_eq_true rfl) ?_
        obtain ⟨x_66, x_67, x_68, x_69, x_70, x_71, x_72, x_73, x_74, x_75, x_76, x_77, x_78, x_79, x_80, x_81, k_65⟩ := op_8 hI i_60
        refine va_callv (va_runV (As := [.int r_64]) (rest := []) ⟨hx, hb, hml, hown, hts⟩ (c_X8_takeSlice l dC dI g A hG f_38 a_59 r_64 i_60) (cwV 1 hts (gi_V (fun w_ h0_ => ⟨List.mem_cons_of_mem _ (List.mem_append_right _ (List.mem_append_right _ (List.mem_append_right _ (List.mem_append_right _ (List.mem_append_right _ (List.mem_append_right _ (List.mem_append_right _ (List.mem_append_left _ h0_)))))))), (tb_c_X8_takeSlice w_ h0_).2⟩) (List.mem_cons_of_mem _ (List.mem_append_left _ (List.mem_of_getElem? (i := 19) rfl))) (List.mem_cons_of_mem _ (List.mem_append_left _ (List.mem_of_getElem? (i := 20) rfl))) (List.mem_cons_of_mem _ (List.mem_append_left _ (List.mem_of_getElem? (i := 21) rfl))) (List.mem_cons_of_mem _ (List.mem_append_left _ (List.mem_of_getElem? (i := 22) rfl)))) rfl rfl rfl (by decide +kernel) ⟨Nat.le_of_ble_eq_true rfl, Nat.le_of_ble_eq_true rfl⟩) ⟨fun a U g mk q => ⟨q.1, q.2.calling rfl rfl⟩, k_recv hK hI i_60.1 k_65 (ci := 8) rfl, fun U hU hW => ⟨rfl, kIn.of hI hK hE hS hU hW⟩⟩ rfl rfl hl.1 rfl (lv_room (Nat.le_of_ble_eq_true rfl)) dX11_wish_74 ⟨Nat.le_of_ble_eq_true rfl, Nat.le_of_ble_eq_true rfl⟩) hS (fun q _ h => h) (fun q h => h) (fun u t H1 locs ht hvm _ hB hz1 hk1 hS => ?_)
        obtain ⟨f_82, hI, kc_84⟩ := hB
        rw [ht] at hI
        have k_86 : f_82 h0 = .inr (11, [.ref (gr g h0 0), .ref (gr g h0 1), .ref (gr g h0 2), .ref (gr g h0 3), .ref (gr g h0 4), .ref (gr g h0 5), .ref (gr g h0 6), .ref (gr g h0 7), .ref (gr g h0 8), .ref (gr g h0 9), .ref (gr g h0 10), .int x_17]) := Kp.at kc_84 i_h0 (by decide) k_42
        have k_87 : f_82 (gr g h0 3) = .inr (6, [.ref (gr g (gr g h0 3) 0), .ref (gr g (gr g h0 3) 1), .ref (gr g (gr g h0 3) 2), .ref (gr g (gr g h0 3) 3), .ref (gr g (gr g h0 3) 4), .int x_47, .int x_48, .long x_49, .int x_50, .int x_51]) := Kp.at kc_84 i_19 (by decide) k_46
        have k_88 : f_82 (gr g (gr g h0 3) 1) = .inl (gc g 4, 12, .inr (.inr (.inr (.inr q_57)))) := Kp.at kc_84 i_55 (by decide) k_56
        have kp_89 := Kp.call kp_43 kc_84 (by decide)
        generalize H1 = H at hI hS ⊢
        refine W.widen (k := 0) (n := 0) (Nat.le_of_ble_eq_true rfl) (Nat.le_of_ble_eq_true rfl) ?_
        refine lv_aload_n hx hb dX11_wish_77 rfl (lv_at hl 1 rfl) ?_
        refine k_get (ci := 11) (v := .ref (gr g h0 10)) (C := RX11) (T := TX11) (N := 12) hx hb hts (fun _ h0_ => List.mem_cons_of_mem _ (List.mem_append_right _ (List.mem_append_left _ h0_))) hown hK hI i_h0.1 k_86 rfl 10 (by decide) (hts (.fieldLink RX11 72 "DeadlineShare" "refusals" "LDeadlineShare$Refusals;") (List.mem_cons_of_mem _ (List.mem_append_left _ (List.mem_of_getElem? (i := 0) rfl)))) (fun _ h9 => h9) rfl dX11_wish_78 ?_
        have i_91 := kw_11_10 hG i_h0
        refine lv_aload_n hx hb dX11_wish_81 rfl (lv_at hl 0 rfl) ?_
        obtain ⟨x_93, x_94, x_95, x_96, x_97, x_98, x_99, x_100, x_101, x_102, x_103, x_104, x_105, x_106, x_107, x_108, k_92⟩ := op_8 hI i_60
        refine k_get (ci := 8) (v := .int x_95) (C := RX8) (T := TX8) (N := 18) hx hb hts (fun _ h0_ => List.mem_cons_of_mem _ (List.mem_append_right _ (List.mem_append_right _ (List.mem_append_right _ (List.mem_append_right _ (List.mem_append_right _ (List.mem_append_right _ (List.mem_append_right _ (List.mem_append_right _ (List.mem_append_left _ h0_)))))))))) hown hK hI i_60.1 k_92 rfl 3 (by decide) (hts (.fieldLink RX11 182 "DeadlineShare$Task" "slice" "I") (List.mem_cons_of_mem _ (List.mem_append_left _ (List.mem_of_getElem? (i := 23) rfl)))) (fun _ h9 => h9) rfl dX11_wish_82 ?_
        obtain ⟨x_110, k_109⟩ := op_4 hI i_91
        refine va_calli (va_runV (As := [.int x_95]) (rest := []) ⟨hx, hb, hml, hown, hts⟩ (c_X4_none l dC dI g A hG f_82 (gr g h0 10) x_95 i_91) (cwV 1 hts (gi_V (fun w_ h0_ => ⟨List.mem_cons_of_mem _ (List.mem_append_right _ (List.mem_append_right _ (List.mem_append_right _ (List.mem_append_right _ (List.mem_append_right _ (List.mem_append_right _ (List.mem_append_right _ (List.mem_append_right _ (List.mem_append_right _ (List.mem_append_left _ h0_)))))))))), (tb_c_X4_none w_ h0_).2⟩) (List.mem_cons_of_mem _ (List.mem_append_left _ (List.mem_of_getElem? (i := 24) rfl))) (List.mem_cons_of_mem _ (List.mem_append_left _ (List.mem_of_getElem? (i := 25) rfl))) (List.mem_cons_of_mem _ (List.mem_append_left _ (List.mem_of_getElem? (i := 26) rfl))) (List.mem_cons_of_mem _ (List.mem_append_left _ (List.mem_of_getElem? (i := 4) rfl)))) rfl rfl rfl (by decide +kernel) ⟨Nat.le_of_ble_eq_true rfl, Nat.le_of_ble_eq_true rfl⟩) ⟨fun a U g mk q => ⟨q.1, q.2.calling rfl rfl⟩, k_recv hK hI i_91.1 k_109 (ci := 4) rfl, fun U hU hW => ⟨rfl, kIn.of hI hK hE hS hU hW⟩⟩ rfl rfl hl.1 rfl (lv_room (Nat.le_of_ble_eq_true rfl)) dX11_wish_85 ⟨Nat.le_of_ble_eq_true rfl, Nat.le_of_ble_eq_true rfl⟩) hS (fun q _ h => h) (fun q h => h) (fun r_113 u t H1 locs ht hvm w_112 hB hz1 hk1 hS => ?_)
        obtain ⟨f_111, hI, kc_114⟩ := hB
        rw [ht] at hI
        have k_116 : f_111 h0 = .inr (11, [.ref (gr g h0 0), .ref (gr g h0 1), .ref (gr g h0 2), .ref (gr g h0 3), .ref (gr g h0 4), .ref (gr g h0 5), .ref (gr g h0 6), .ref (gr g h0 7), .ref (gr g h0 8), .ref (gr g h0 9), .ref (gr g h0 10), .int x_17]) := Kp.at kc_114 i_h0 (by decide) k_86
        have k_117 : f_111 (gr g h0 3) = .inr (6, [.ref (gr g (gr g h0 3) 0), .ref (gr g (gr g h0 3) 1), .ref (gr g (gr g h0 3) 2), .ref (gr g (gr g h0 3) 3), .ref (gr g (gr g h0 3) 4), .int x_47, .int x_48, .long x_49, .int x_50, .int x_51]) := Kp.at kc_114 i_19 (by decide) k_87
        have k_118 : f_111 (gr g (gr g h0 3) 1) = .inl (gc g 4, 12, .inr (.inr (.inr (.inr q_57)))) := Kp.at kc_114 i_55 (by decide) k_88
        have k_119 : f_111 a_59 = .inr (8, [.int x_93, .ref (gr g a_59 1), .int x_94, .int x_95, .int x_96, .long x_97, .int x_98, .ref (gr g a_59 7), .int x_99, .int x_100, .int x_101, .int x_102, .int x_103, .int x_104, .int x_105, .int x_106, .int x_107, .int x_108]) := Kp.at kc_114 i_60 (by decide) k_92
        have kp_120 := Kp.call kp_89 kc_114 (by decide)
        generalize H1 = H at hI hS ⊢
        refine W.widen (k := 0) (n := 0) (Nat.le_of_ble_eq_true rfl) (Nat.le_of_ble_eq_true rfl) ?_
        exact W.iret (v := r_113) hx hb hr (fun t ht hW => ⟨⟨r_113, (), rfl, trivial, ⟨f_111, k_ret ht hI, kp_120⟩⟩, hS.F ht⟩) hS.2.2 dX11_wish_88
      · have c_30 := kc_eq rfl (by decide : Int32.toInt 0 = 0) c_30
        refine lv_aload_n hx hb dX11_wish_31 rfl (lv_at hl 0 rfl) ?_
        refine k_get (ci := 11) (v := .ref (gr g h0 10)) (C := RX11) (T := TX11) (N := 12) hx hb hts (fun _ h0_ => List.mem_cons_of_mem _ (List.mem_append_right _ (List.mem_append_left _ h0_))) hown hK hI i_h0.1 k_16 rfl 10 (by decide) (hts (.fieldLink RX11 72 "DeadlineShare" "refusals" "LDeadlineShare$Refusals;") (List.mem_cons_of_mem _ (List.mem_append_left _ (List.mem_of_getElem? (i := 0) rfl)))) (fun _ h9 => h9) rfl dX11_wish_32 ?_
        have i_122 := kw_11_10 hG i_h0
        refine lv_bipush (v := (-2)) hx hb dX11_wish_35 (by decide) ?_
        obtain ⟨x_124, k_123⟩ := op_4 hI i_122
        refine va_calli (va_runV (As := [.int (-2)]) (rest := []) ⟨hx, hb, hml, hown, hts⟩ (c_X4_add l dC dI g A hG f (gr g h0 10) (-2) i_122) (cwV 1 hts (gi_V (fun w_ h0_ => ⟨List.mem_cons_of_mem _ (List.mem_append_right _ (List.mem_append_right _ (List.mem_append_left _ h0_))), (tb_c_X4_add w_ h0_).2⟩) (List.mem_cons_of_mem _ (List.mem_append_left _ (List.mem_of_getElem? (i := 1) rfl))) (List.mem_cons_of_mem _ (List.mem_append_left _ (List.mem_of_getElem? (i := 2) rfl))) (List.mem_cons_of_mem _ (List.mem_append_left _ (List.mem_of_getElem? (i := 3) rfl))) (List.mem_cons_of_mem _ (List.mem_append_left _ (List.mem_of_getElem? (i := 4) rfl)))) rfl rfl rfl (by decide +kernel) ⟨Nat.le_of_ble_eq_true rfl, Nat.le_of_ble_eq_true rfl⟩) ⟨fun a U g mk q => ⟨q.1, q.2.calling rfl rfl⟩, k_recv hK hI i_122.1 k_123 (ci := 4) rfl, fun U hU hW => ⟨rfl, kIn.of hI hK hE hS hU hW⟩⟩ rfl rfl hl.1 rfl (lv_room (Nat.le_of_ble_eq_true rfl)) dX11_wish_37 ⟨Nat.le_of_ble_eq_true rfl, Nat.le_of_ble_eq_true rfl⟩) hS (fun q _ h => h) (fun q h => h) (fun r_127 u t H1 locs ht hvm w_126 hB hz1 hk1 hS => ?_)
        obtain ⟨f_125, hI, kc_128⟩ := hB
        rw [ht] at hI
        have k_130 : f_125 h0 = .inr (11, [.ref (gr g h0 0), .ref (gr g h0 1), .ref (gr g h0 2), .ref (gr g h0 3), .ref (gr g h0 4), .ref (gr g h0 5), .ref (gr g h0 6), .ref (gr g h0 7), .ref (gr g h0 8), .ref (gr g h0 9), .ref (gr g h0 10), .int x_17]) := Kp.at kc_128 i_h0 (by decide) k_16
        have k_131 : f_125 (gr g h0 3) = .inr (6, [.ref (gr g (gr g h0 3) 0), .ref (gr g (gr g h0 3) 1), .ref (gr g (gr g h0 3) 2), .ref (gr g (gr g h0 3) 3), .ref (gr g (gr g h0 3) 4), .int x_21, .int x_22, .long x_23, .int x_24, .int x_25]) := Kp.at kc_128 i_19 (by decide) k_20
        have kp_132 := Kp.call hk0 kc_128 (by decide)
        generalize H1 = H at hI hS ⊢
        refine W.widen (k := 0) (n := 0) (Nat.le_of_ble_eq_true rfl) (Nat.le_of_ble_eq_true rfl) ?_
        exact W.iret (v := r_127) hx hb hr (fun t ht hW => ⟨⟨r_127, (), rfl, trivial, ⟨f_125, k_ret ht hI, kp_132⟩⟩, hS.F ht⟩) hS.2.2 dX11_wish_40
    · have c_15 := kn_le rfl (by decide : Int32.toInt 99 = 99) c_15
      exact J_11  _ _ _ hI hS  (lv_sub hl [0, 1, 2] rfl)
theorem tw_509 : q_g (.selects RX6 yX6_giveUpRequest yX6_giveUpRequest) := ⟨(List.mem_append_right _ (List.mem_of_getElem? (i := 603) (by decide +kernel))), good_of_word (by decide +kernel)⟩
theorem tw_510 : q_g (.instanceMethod yX6_giveUpRequest) := ⟨(List.mem_append_right _ (List.mem_of_getElem? (i := 602) (by decide +kernel))), good_of_word (by decide +kernel)⟩
theorem tw_511 : q_g (.methodLink RX11 195 yX6_giveUpRequest) := ⟨(List.mem_append_right _ (List.mem_of_getElem? (i := 601) (by decide +kernel))), good_of_word (by decide +kernel)⟩
theorem tw_512 : q_g (.fieldLink RX11 192 "DeadlineShare$Task" "left" "I") := ⟨(List.mem_append_right _ (List.mem_of_getElem? (i := 167) (by decide +kernel))), good_of_word (by decide +kernel)⟩
theorem tw_513 : q_g (.code yX11_yields cX11_yields 4 (some .int)) := ⟨(List.mem_append_right _ (List.mem_of_getElem? (i := 600) (by decide +kernel))), good_of_word (by decide +kernel)⟩
def ow_c_X11_yields : List Cond := [.fieldLink RX11 37 "DeadlineShare" "now" "LDeadlineShare$State;", .methodLink RX11 130 yX6_has, .instanceMethod yX6_has, .selects RX6 yX6_has yX6_has, .initialized RX6, .fieldLink RX11 133 "DeadlineShare$State" "tasks" "[LDeadlineShare$Task;", .methodLink RX11 159 yX8_isOn, .instanceMethod yX8_isOn, .selects RX8 yX8_isOn yX8_isOn, .initialized RX8, .fieldLink RX11 65 "DeadlineShare" "history" "LDeadlineShare$History;", .methodLink RX11 122 yX1_keep, .instanceMethod yX1_keep, .selects RX1 yX1_keep yX1_keep, .initialized RX1, .fieldLink RX11 192 "DeadlineShare$Task" "left" "I", .methodLink RX11 195 yX6_giveUpRequest, .instanceMethod yX6_giveUpRequest, .selects RX6 yX6_giveUpRequest yX6_giveUpRequest, .fieldLink RX11 72 "DeadlineShare" "refusals" "LDeadlineShare$Refusals;", .methodLink RX11 95 yX4_none, .instanceMethod yX4_none, .selects RX4 yX4_none yX4_none, .initialized RX4, .methodLink RX11 84 yX4_add, .instanceMethod yX4_add, .selects RX4 yX4_add yX4_add]
def wq_c_X11_yields : List Cond := .code yX11_yields cX11_yields 4 (some .int) :: (ow_c_X11_yields ++ (u_ws RX11 TX11 12 ++ (wq_c_X6_has ++ (u_ws RX6 TX6 10 ++ (wq_c_X8_isOn ++ (wq_c_X1_keep ++ (u_ws RX8 TX8 18 ++ (wq_c_X6_giveUpRequest ++ (wq_c_X4_none ++ (wq_c_X4_add ++ ([] : List Cond)))))))))))
theorem tb_c_X11_yields : ∀ w ∈ wq_c_X11_yields, q_g w := by
  unfold wq_c_X11_yields ow_c_X11_yields
  exact q_cons tw_513 (q_app (q_cons tw_479 (q_cons tw_492 (q_cons tw_74 (q_cons tw_73 (q_cons tw_47 (q_cons tw_491 (q_cons tw_497 (q_cons tw_10 (q_cons tw_9 (q_cons tw_8 (q_cons tw_477 (q_cons tw_476 (q_cons tw_475 (q_cons tw_474 (q_cons tw_473 (q_cons tw_512 (q_cons tw_511 (q_cons tw_510 (q_cons tw_509 (q_cons tw_443 (q_cons tw_442 (q_cons tw_441 (q_cons tw_440 (q_cons tw_204 (q_cons tw_439 (q_cons tw_438 (q_cons tw_437 q_nil))))))))))))))))))))))))))) (q_app tu_X11 (q_app tb_c_X6_has (q_app tu_X6 (q_app tb_c_X8_isOn (q_app tb_c_X1_keep (q_app tu_X8 (q_app tb_c_X6_giveUpRequest (q_app tb_c_X4_none (q_app tb_c_X4_add q_nil))))))))))
set_option maxHeartbeats 4000000 in
set_option maxRecDepth 100000 in
theorem c_X11_yields (l : Launch) (dC : Nat → ClassId) (dI : Nat → Nat → Nat) (g : kG) (A : Nat → Prop) (hG : kWf g) (f : Nat → va_E) (h0 : Nat) (p1 : Int32) (i_h0 : ik g 11 h0) : Met l yX11_yields wq_c_X11_yields ({ frames := 5, cells := 0, slots := 0, locals := 126 } : Room) (va_Pc [.ref h0, .int p1] (fun U => kIn dC dI g A f U)) (va_Qi (fun (r : Int32) (_ : Unit) => True) (fun (_ : Unit) t => ∃ f1 : Nat → va_E, Iv dC dI g A f1 t.heap ∧ Kp g [1, 4, 5, 6, 8, 10, 23, 24, 27, 28] f f1) A) 0 0 A := by
  refine Met.ofW (cc := cX11_yields) (maxL := 4) (ret := (some .int)) (by decide) rfl ?_
  intro p e s m args below meth c s₁ B hml hv
  obtain ⟨rfl, hI, hK, hE⟩ := hv
  have hx := B.exec
  have hb := B.bytes
  have hr := B.returns
  have hts := atoms_spec (ws := wq_c_X11_yields) B.pre
  have hown : s.vm.findClass RX11 = some m.cls := findClass_of_methodNamed B.named
  have hlocks := B.notSynchronized
  have hS : va_S A s.heap s.heap [] := va_S.rf
  have hk0 : Kp g [1, 4, 5, 6, 8, 10, 23, 24, 27, 28] f f := Kp.rf
  have hl := lv_entry ([.ref h0, .int p1]) (n := 4) (Nat.le_of_ble_eq_true rfl)
  rw [lg_entry_eq]
  generalize (lg_sl ([.ref h0, .int p1]) ++ List.replicate (4 - (lg_sl ([.ref h0, .int p1])).length) Slot.unset).toArray = ls at hl ⊢
  have hl : lv_has ls 4 [(0, .ref h0), (1, .int p1)] := hl
  refine lv_aload_n hx hb dX11_yields_0 rfl (lv_at hl 0 rfl) ?_
  obtain ⟨x_2, k_1⟩ := op_11 hI i_h0
  refine k_get (ci := 11) (v := .ref (gr g h0 3)) (C := RX11) (T := TX11) (N := 12) hx hb hts (fun _ h0_ => List.mem_cons_of_mem _ (List.mem_append_right _ (List.mem_append_left _ h0_))) hown hK hI i_h0.1 k_1 rfl 3 (by decide) (hts (.fieldLink RX11 37 "DeadlineShare" "now" "LDeadlineShare$State;") (List.mem_cons_of_mem _ (List.mem_append_left _ (List.mem_of_getElem? (i := 0) rfl)))) (fun _ h9 => h9) rfl dX11_yields_1 ?_
  have i_4 := kw_11_3 hG i_h0
  refine lv_iload_n hx hb dX11_yields_4 rfl (lv_at hl 1 rfl) ?_
  obtain ⟨x_6, x_7, x_8, x_9, x_10, k_5, b_11, b_12⟩ := op_6 hI i_4
  refine va_calli (va_runV (As := [.int p1]) (rest := []) ⟨hx, hb, hml, hown, hts⟩ (c_X6_has l dC dI g A hG f (gr g h0 3) p1 i_4) (cwV 1 hts (gi_V (fun w_ h0_ => ⟨List.mem_cons_of_mem _ (List.mem_append_right _ (List.mem_append_right _ (List.mem_append_left _ h0_))), (tb_c_X6_has w_ h0_).2⟩) (List.mem_cons_of_mem _ (List.mem_append_left _ (List.mem_of_getElem? (i := 1) rfl))) (List.mem_cons_of_mem _ (List.mem_append_left _ (List.mem_of_getElem? (i := 2) rfl))) (List.mem_cons_of_mem _ (List.mem_append_left _ (List.mem_of_getElem? (i := 3) rfl))) (List.mem_cons_of_mem _ (List.mem_append_left _ (List.mem_of_getElem? (i := 4) rfl)))) rfl rfl rfl (by decide +kernel) ⟨Nat.le_of_ble_eq_true rfl, Nat.le_of_ble_eq_true rfl⟩) ⟨fun a U g mk q => ⟨q.1, q.2.calling rfl rfl⟩, k_recv hK hI i_4.1 k_5 (ci := 6) rfl, fun U hU hW => ⟨rfl, kIn.of hI hK hE hS hU hW⟩⟩ rfl rfl hl.1 rfl (lv_room (Nat.le_of_ble_eq_true rfl)) dX11_yields_5 ⟨Nat.le_of_ble_eq_true rfl, Nat.le_of_ble_eq_true rfl⟩) hS (fun q _ h => h) (fun q h => h) (fun r_14 u t H1 locs ht hvm w_13 hB hz1 hk1 hS => ?_)
  have hI : Iv dC dI g A f t.heap := hB
  rw [ht] at hI
  generalize H1 = H at hI hS ⊢
  refine W.widen (k := 0) (n := 0) (Nat.le_of_ble_eq_true rfl) (Nat.le_of_ble_eq_true rfl) ?_
  have w_13 : r_14.toInt = 0 ∨ (0 ≤ p1.toInt ∧ p1.toInt < 12) := w_13
  refine lv_if_ne (tgt := 21) hx hb dX11_yields_8 (by decide) (fun c_15 => ?_) (fun c_15 => ?_)
  · have c_15 := kn_eq rfl (by decide : Int32.toInt 0 = 0) c_15
    refine lv_aload_n hx hb dX11_yields_21 rfl (lv_at hl 0 rfl) ?_
    refine k_get (ci := 11) (v := .ref (gr g h0 3)) (C := RX11) (T := TX11) (N := 12) hx hb hts (fun _ h0_ => List.mem_cons_of_mem _ (List.mem_append_right _ (List.mem_append_left _ h0_))) hown hK hI i_h0.1 k_1 rfl 3 (by decide) (hts (.fieldLink RX11 37 "DeadlineShare" "now" "LDeadlineShare$State;") (List.mem_cons_of_mem _ (List.mem_append_left _ (List.mem_of_getElem? (i := 0) rfl)))) (fun _ h9 => h9) rfl dX11_yields_22 ?_
    refine k_get (ci := 6) (v := .ref (gr g (gr g h0 3) 1)) (C := RX6) (T := TX6) (N := 10) hx hb hts (fun _ h0_ => List.mem_cons_of_mem _ (List.mem_append_right _ (List.mem_append_right _ (List.mem_append_right _ (List.mem_append_left _ h0_))))) hown hK hI i_4.1 k_5 rfl 1 (by decide) (hts (.fieldLink RX11 133 "DeadlineShare$State" "tasks" "[LDeadlineShare$Task;") (List.mem_cons_of_mem _ (List.mem_append_left _ (List.mem_of_getElem? (i := 5) rfl)))) (fun _ h9 => h9) rfl dX11_yields_25 ?_
    have i_19 := kw_6_1 hG i_4
    refine lv_iload_n hx hb dX11_yields_28 rfl (lv_at hl 1 rfl) ?_
    obtain ⟨q_21, k_20, b_22⟩ := op_20 hI i_19
    refine k_aald hx hb hK hI i_19.1 4 k_20 rfl (vp_in_iff.mpr (by omega)) b_22 (fun _ hj => kw_20 hG i_19 hj) dX11_yields_29 (fun a_23 i_24 => ?_)
    refine lv_astore_n (lv' := [(2, .ref a_23), (0, .ref h0), (1, .int p1)]) hx hb dX11_yields_30 rfl hl (by decide) rfl (fun ls hl => ?_)
    refine lv_aload_n hx hb dX11_yields_31 rfl (lv_at hl 0 rfl) ?_
    obtain ⟨x_26, x_27, x_28, x_29, x_30, x_31, x_32, x_33, x_34, x_35, x_36, x_37, x_38, x_39, x_40, x_41, k_25⟩ := op_8 hI i_24
    refine va_calli (va_runV (As := []) (rest := []) ⟨hx, hb, hml, hown, hts⟩ (c_X8_isOn l dC dI g A hG f a_23 i_24) (cwV 0 hts (gi_V (fun w_ h0_ => ⟨List.mem_cons_of_mem _ (List.mem_append_right _ (List.mem_append_right _ (List.mem_append_right _ (List.mem_append_right _ (List.mem_append_left _ h0_))))), (tb_c_X8_isOn w_ h0_).2⟩) (List.mem_cons_of_mem _ (List.mem_append_left _ (List.mem_of_getElem? (i := 6) rfl))) (List.mem_cons_of_mem _ (List.mem_append_left _ (List.mem_of_getElem? (i := 7) rfl))) (List.mem_cons_of_mem _ (List.mem_append_left _ (List.mem_of_getElem? (i := 8) rfl))) (List.mem_cons_of_mem _ (List.mem_append_left _ (List.mem_of_getElem? (i := 9) rfl)))) rfl rfl rfl (by decide +kernel) ⟨Nat.le_of_ble_eq_true rfl, Nat.le_of_ble_eq_true rfl⟩) ⟨fun a U g mk q => ⟨q.1, q.2.calling rfl rfl⟩, k_recv hK hI i_24.1 k_25 (ci := 8) rfl, fun U hU hW => ⟨rfl, kIn.of hI hK hE hS hU hW⟩⟩ rfl rfl hl.1 rfl (lv_room (Nat.le_of_ble_eq_true rfl)) dX11_yields_32 ⟨Nat.le_of_ble_eq_true rfl, Nat.le_of_ble_eq_true rfl⟩) hS (fun q _ h => h) (fun q h => h) (fun r_43 u t H1 locs ht hvm w_42 hB hz1 hk1 hS => ?_)
    have hI : Iv dC dI g A f t.heap := hB
    rw [ht] at hI
    generalize H1 = H at hI hS ⊢
    refine W.widen (k := 0) (n := 0) (Nat.le_of_ble_eq_true rfl) (Nat.le_of_ble_eq_true rfl) ?_
    refine lv_if_ne (tgt := 48) hx hb dX11_yields_35 (by decide) (fun c_44 => ?_) (fun c_44 => ?_)
    · have c_44 := kn_eq rfl (by decide : Int32.toInt 0 = 0) c_44
      refine lv_aload_n hx hb dX11_yields_48 rfl (lv_at hl 1 rfl) ?_
      refine k_get (ci := 11) (v := .ref (gr g h0 9)) (C := RX11) (T := TX11) (N := 12) hx hb hts (fun _ h0_ => List.mem_cons_of_mem _ (List.mem_append_right _ (List.mem_append_left _ h0_))) hown hK hI i_h0.1 k_1 rfl 9 (by decide) (hts (.fieldLink RX11 65 "DeadlineShare" "history" "LDeadlineShare$History;") (List.mem_cons_of_mem _ (List.mem_append_left _ (List.mem_of_getElem? (i := 10) rfl)))) (fun _ h9 => h9) rfl dX11_yields_49 ?_
      have i_46 := kw_11_9 hG i_h0
      refine lv_aload_n hx hb dX11_yields_52 rfl (lv_at hl 1 rfl) ?_
      refine k_get (ci := 11) (v := .ref (gr g h0 3)) (C := RX11) (T := TX11) (N := 12) hx hb hts (fun _ h0_ => List.mem_cons_of_mem _ (List.mem_append_right _ (List.mem_append_left _ h0_))) hown hK hI i_h0.1 k_1 rfl 3 (by decide) (hts (.fieldLink RX11 37 "DeadlineShare" "now" "LDeadlineShare$State;") (List.mem_cons_of_mem _ (List.mem_append_left _ (List.mem_of_getElem? (i := 0) rfl)))) (fun _ h9 => h9) rfl dX11_yields_53 ?_
      refine lv_bipush (v := 8) hx hb dX11_yields_56 (by decide) ?_
      obtain ⟨x_50, x_51, k_49⟩ := op_1 hI i_46
      refine va_callv (va_runV (As := [.ref (gr g h0 3), .int 8]) (rest := []) ⟨hx, hb, hml, hown, hts⟩ (c_X1_keep l dC dI g A hG f (gr g h0 9) (gr g h0 3) 8 i_46 i_4) (cwV 2 hts (gi_V (fun w_ h0_ => ⟨List.mem_cons_of_mem _ (List.mem_append_right _ (List.mem_append_right _ (List.mem_append_right _ (List.mem_append_right _ (List.mem_append_right _ (List.mem_append_left _ h0_)))))), (tb_c_X1_keep w_ h0_).2⟩) (List.mem_cons_of_mem _ (List.mem_append_left _ (List.mem_of_getElem? (i := 11) rfl))) (List.mem_cons_of_mem _ (List.mem_append_left _ (List.mem_of_getElem? (i := 12) rfl))) (List.mem_cons_of_mem _ (List.mem_append_left _ (List.mem_of_getElem? (i := 13) rfl))) (List.mem_cons_of_mem _ (List.mem_append_left _ (List.mem_of_getElem? (i := 14) rfl)))) rfl rfl rfl (by decide +kernel) ⟨Nat.le_of_ble_eq_true rfl, Nat.le_of_ble_eq_true rfl⟩) ⟨fun a U g mk q => ⟨q.1, q.2.calling rfl rfl⟩, k_recv hK hI i_46.1 k_49 (ci := 1) rfl, fun U hU hW => ⟨rfl, kIn.of hI hK hE hS hU hW⟩⟩ rfl rfl hl.1 rfl (lv_room (Nat.le_of_ble_eq_true rfl)) dX11_yields_58 ⟨Nat.le_of_ble_eq_true rfl, Nat.le_of_ble_eq_true rfl⟩) hS (fun q _ h => h) (fun q h => h) (fun u t H1 locs ht hvm _ hB hz1 hk1 hS => ?_)
      obtain ⟨f_52, hI, kc_54⟩ := hB
      rw [ht] at hI
      have k_56 : f_52 h0 = .inr (11, [.ref (gr g h0 0), .ref (gr g h0 1), .ref (gr g h0 2), .ref (gr g h0 3), .ref (gr g h0 4), .ref (gr g h0 5), .ref (gr g h0 6), .ref (gr g h0 7), .ref (gr g h0 8), .ref (gr g h0 9), .ref (gr g h0 10), .int x_2]) := Kp.at kc_54 i_h0 (by decide) k_1
      have k_57 : f_52 (gr g (gr g h0 3) 1) = .inl (gc g 4, 12, .inr (.inr (.inr (.inr q_21)))) := Kp.at kc_54 i_19 (by decide) k_20
      have kp_58 := Kp.call hk0 kc_54 (by decide)
      generalize H1 = H at hI hS ⊢
      refine W.widen (k := 0) (n := 0) (Nat.le_of_ble_eq_true rfl) (Nat.le_of_ble_eq_true rfl) ?_
      refine lv_aload_n hx hb dX11_yields_61 rfl (lv_at hl 0 rfl) ?_
      obtain ⟨x_60, x_61, x_62, x_63, x_64, x_65, x_66, x_67, x_68, x_69, x_70, x_71, x_72, x_73, x_74, x_75, k_59⟩ := op_8 hI i_24
      refine k_get (ci := 8) (v := .int x_65) (C := RX8) (T := TX8) (N := 18) hx hb hts (fun _ h0_ => List.mem_cons_of_mem _ (List.mem_append_right _ (List.mem_append_right _ (List.mem_append_right _ (List.mem_append_right _ (List.mem_append_right _ (List.mem_append_right _ (List.mem_append_left _ h0_)))))))) hown hK hI i_24.1 k_59 rfl 6 (by decide) (hts (.fieldLink RX11 192 "DeadlineShare$Task" "left" "I") (List.mem_cons_of_mem _ (List.mem_append_left _ (List.mem_of_getElem? (i := 15) rfl)))) (fun _ h9 => h9) rfl dX11_yields_62 ?_
      refine lv_istore_n (lv' := [(3, .int x_65), (2, .ref a_23), (0, .ref h0), (1, .int p1)]) hx hb dX11_yields_65 rfl hl (by decide) rfl (fun ls hl => ?_)
      refine lv_aload_n hx hb dX11_yields_66 rfl (lv_at hl 2 rfl) ?_
      refine k_get (ci := 11) (v := .ref (gr g h0 3)) (C := RX11) (T := TX11) (N := 12) hx hb hts (fun _ h0_ => List.mem_cons_of_mem _ (List.mem_append_right _ (List.mem_append_left _ h0_))) hown hK hI i_h0.1 k_56 rfl 3 (by decide) (hts (.fieldLink RX11 37 "DeadlineShare" "now" "LDeadlineShare$State;") (List.mem_cons_of_mem _ (List.mem_append_left _ (List.mem_of_getElem? (i := 0) rfl)))) (fun _ h9 => h9) rfl dX11_yields_67 ?_
      refine lv_aload_n hx hb dX11_yields_70 rfl (lv_at hl 1 rfl) ?_
      obtain ⟨x_79, x_80, x_81, x_82, x_83, k_78, b_84, b_85⟩ := op_6 hI i_4
      refine va_callv (va_runV (As := [.ref a_23]) (rest := []) ⟨hx, hb, hml, hown, hts⟩ (c_X6_giveUpRequest l dC dI g A hG f_52 (gr g h0 3) a_23 i_4 i_24) (cwV 1 hts (gi_V (fun w_ h0_ => ⟨List.mem_cons_of_mem _ (List.mem_append_right _ (List.mem_append_right _ (List.mem_append_right _ (List.mem_append_right _ (List.mem_append_right _ (List.mem_append_right _ (List.mem_append_right _ (List.mem_append_left _ h0_)))))))), (tb_c_X6_giveUpRequest w_ h0_).2⟩) (List.mem_cons_of_mem _ (List.mem_append_left _ (List.mem_of_getElem? (i := 16) rfl))) (List.mem_cons_of_mem _ (List.mem_append_left _ (List.mem_of_getElem? (i := 17) rfl))) (List.mem_cons_of_mem _ (List.mem_append_left _ (List.mem_of_getElem? (i := 18) rfl))) (List.mem_cons_of_mem _ (List.mem_append_left _ (List.mem_of_getElem? (i := 4) rfl)))) rfl rfl rfl (by decide +kernel) ⟨Nat.le_of_ble_eq_true rfl, Nat.le_of_ble_eq_true rfl⟩) ⟨fun a U g mk q => ⟨q.1, q.2.calling rfl rfl⟩, k_recv hK hI i_4.1 k_78 (ci := 6) rfl, fun U hU hW => ⟨rfl, kIn.of hI hK hE hS hU hW⟩⟩ rfl rfl hl.1 rfl (lv_room (Nat.le_of_ble_eq_true rfl)) dX11_yields_71 ⟨Nat.le_of_ble_eq_true rfl, Nat.le_of_ble_eq_true rfl⟩) hS (fun q _ h => h) (fun q h => h) (fun u t H1 locs ht hvm _ hB hz1 hk1 hS => ?_)
      obtain ⟨f_86, hI, kc_88⟩ := hB
      rw [ht] at hI
      have k_90 : f_86 h0 = .inr (11, [.ref (gr g h0 0), .ref (gr g h0 1), .ref (gr g h0 2), .ref (gr g h0 3), .ref (gr g h0 4), .ref (gr g h0 5), .ref (gr g h0 6), .ref (gr g h0 7), .ref (gr g h0 8), .ref (gr g h0 9), .ref (gr g h0 10), .int x_2]) := Kp.at kc_88 i_h0 (by decide) k_56
      have k_91 : f_86 (gr g (gr g h0 3) 1) = .inl (gc g 4, 12, .inr (.inr (.inr (.inr q_21)))) := Kp.at kc_88 i_19 (by decide) k_57
      have kp_92 := Kp.call kp_58 kc_88 (by decide)
      generalize H1 = H at hI hS ⊢
      refine W.widen (k := 0) (n := 0) (Nat.le_of_ble_eq_true rfl) (Nat.le_of_ble_eq_true rfl) ?_
      refine lv_aload_n hx hb dX11_yields_74 rfl (lv_at hl 2 rfl) ?_
      refine k_get (ci := 11) (v := .ref (gr g h0 10)) (C := RX11) (T := TX11) (N := 12) hx hb hts (fun _ h0_ => List.mem_cons_of_mem _ (List.mem_append_right _ (List.mem_append_left _ h0_))) hown hK hI i_h0.1 k_90 rfl 10 (by decide) (hts (.fieldLink RX11 72 "DeadlineShare" "refusals" "LDeadlineShare$Refusals;") (List.mem_cons_of_mem _ (List.mem_append_left _ (List.mem_of_getElem? (i := 19) rfl)))) (fun _ h9 => h9) rfl dX11_yields_75 ?_
      have i_94 := kw_11_10 hG i_h0
      refine lv_iload_n hx hb dX11_yields_78 rfl (lv_at hl 0 rfl) ?_
      obtain ⟨x_96, k_95⟩ := op_4 hI i_94
      refine va_calli (va_runV (As := [.int x_65]) (rest := []) ⟨hx, hb, hml, hown, hts⟩ (c_X4_none l dC dI g A hG f_86 (gr g h0 10) x_65 i_94) (cwV 1 hts (gi_V (fun w_ h0_ => ⟨List.mem_cons_of_mem _ (List.mem_append_right _ (List.mem_append_right _ (List.mem_append_right _ (List.mem_append_right _ (List.mem_append_right _ (List.mem_append_right _ (List.mem_append_right _ (List.mem_append_right _ (List.mem_append_left _ h0_))))))))), (tb_c_X4_none w_ h0_).2⟩) (List.mem_cons_of_mem _ (List.mem_append_left _ (List.mem_of_getElem? (i := 20) rfl))) (List.mem_cons_of_mem _ (List.mem_append_left _ (List.mem_of_getElem? (i := 21) rfl))) (List.mem_cons_of_mem _ (List.mem_append_left _ (List.mem_of_getElem? (i := 22) rfl))) (List.mem_cons_of_mem _ (List.mem_append_left _ (List.mem_of_getElem? (i := 23) rfl)))) rfl rfl rfl (by decide +kernel) ⟨Nat.le_of_ble_eq_true rfl, Nat.le_of_ble_eq_true rfl⟩) ⟨fun a U g mk q => ⟨q.1, q.2.calling rfl rfl⟩, k_recv hK hI i_94.1 k_95 (ci := 4) rfl, fun U hU hW => ⟨rfl, kIn.of hI hK hE hS hU hW⟩⟩ rfl rfl hl.1 rfl (lv_room (Nat.le_of_ble_eq_true rfl)) dX11_yields_79 ⟨Nat.le_of_ble_eq_true rfl, Nat.le_of_ble_eq_true rfl⟩) hS (fun q _ h => h) (fun q h => h) (fun r_99 u t H1 locs ht hvm w_98 hB hz1 hk1 hS => ?_)
      obtain ⟨f_97, hI, kc_100⟩ := hB
      rw [ht] at hI
      have k_102 : f_97 h0 = .inr (11, [.ref (gr g h0 0), .ref (gr g h0 1), .ref (gr g h0 2), .ref (gr g h0 3), .ref (gr g h0 4), .ref (gr g h0 5), .ref (gr g h0 6), .ref (gr g h0 7), .ref (gr g h0 8), .ref (gr g h0 9), .ref (gr g h0 10), .int x_2]) := Kp.at kc_100 i_h0 (by decide) k_90
      have k_103 : f_97 (gr g (gr g h0 3) 1) = .inl (gc g 4, 12, .inr (.inr (.inr (.inr q_21)))) := Kp.at kc_100 i_19 (by decide) k_91
      have kp_104 := Kp.call kp_92 kc_100 (by decide)
      generalize H1 = H at hI hS ⊢
      refine W.widen (k := 0) (n := 0) (Nat.le_of_ble_eq_true rfl) (Nat.le_of_ble_eq_true rfl) ?_
      exact W.iret (v := r_99) hx hb hr (fun t ht hW => ⟨⟨r_99, (), rfl, trivial, ⟨f_97, k_ret ht hI, kp_104⟩⟩, hS.F ht⟩) hS.2.2 dX11_yields_82
    · have c_44 := kc_eq rfl (by decide : Int32.toInt 0 = 0) c_44
      refine lv_aload_n hx hb dX11_yields_38 rfl (lv_at hl 1 rfl) ?_
      refine k_get (ci := 11) (v := .ref (gr g h0 10)) (C := RX11) (T := TX11) (N := 12) hx hb hts (fun _ h0_ => List.mem_cons_of_mem _ (List.mem_append_right _ (List.mem_append_left _ h0_))) hown hK hI i_h0.1 k_1 rfl 10 (by decide) (hts (.fieldLink RX11 72 "DeadlineShare" "refusals" "LDeadlineShare$Refusals;") (List.mem_cons_of_mem _ (List.mem_append_left _ (List.mem_of_getElem? (i := 19) rfl)))) (fun _ h9 => h9) rfl dX11_yields_39 ?_
      have i_106 := kw_11_10 hG i_h0
      refine lv_bipush (v := (-4)) hx hb dX11_yields_42 (by decide) ?_
      obtain ⟨x_108, k_107⟩ := op_4 hI i_106
      refine va_calli (va_runV (As := [.int (-4)]) (rest := []) ⟨hx, hb, hml, hown, hts⟩ (c_X4_add l dC dI g A hG f (gr g h0 10) (-4) i_106) (cwV 1 hts (gi_V (fun w_ h0_ => ⟨List.mem_cons_of_mem _ (List.mem_append_right _ (List.mem_append_right _ (List.mem_append_right _ (List.mem_append_right _ (List.mem_append_right _ (List.mem_append_right _ (List.mem_append_right _ (List.mem_append_right _ (List.mem_append_right _ (List.mem_append_left _ h0_)))))))))), (tb_c_X4_add w_ h0_).2⟩) (List.mem_cons_of_mem _ (List.mem_append_left _ (List.mem_of_getElem? (i := 24) rfl))) (List.mem_cons_of_mem _ (List.mem_append_left _ (List.mem_of_getElem? (i := 25) rfl))) (List.mem_cons_of_mem _ (List.mem_append_left _ (List.mem_of_getElem? (i := 26) rfl))) (List.mem_cons_of_mem _ (List.mem_append_left _ (List.mem_of_getElem? (i := 23) rfl)))) rfl rfl rfl (by decide +kernel) ⟨Nat.le_of_ble_eq_true rfl, Nat.le_of_ble_eq_true rfl⟩) ⟨fun a U g mk q => ⟨q.1, q.2.calling rfl rfl⟩, k_recv hK hI i_106.1 k_107 (ci := 4) rfl, fun U hU hW => ⟨rfl, kIn.of hI hK hE hS hU hW⟩⟩ rfl rfl hl.1 rfl (lv_room (Nat.le_of_ble_eq_true rfl)) dX11_yields_44 ⟨Nat.le_of_ble_eq_true rfl, Nat.le_of_ble_eq_true rfl⟩) hS (fun q _ h => h) (fun q h => h) (fun r_111 u t H1 locs ht hvm w_110 hB hz1 hk1 hS => ?_)
      obtain ⟨f_109, hI, kc_112⟩ := hB
      rw [ht] at hI
      have k_114 : f_109 h0 = .inr (11, [.ref (gr g h0 0), .ref (gr g h0 1), .ref (gr g h0 2), .ref (gr g h0 3), .ref (gr g h0 4), .ref (gr g h0 5), .ref (gr g h0 6), .ref (gr g h0 7), .ref (gr g h0 8), .ref (gr g h0 9), .ref (gr g h0 10), .int x_2]) := Kp.at kc_112 i_h0 (by decide) k_1
      have k_115 : f_109 (gr g h0 3) = .inr (6, [.ref (gr g (gr g h0 3) 0), .ref (gr g (gr g h0 3) 1), .ref (gr g (gr g h0 3) 2), .ref (gr g (gr g h0 3) 3), .ref (gr g (gr g h0 3) 4), .int x_6, .int x_7, .long x_8, .int x_9, .int x_10]) := Kp.at kc_112 i_4 (by decide) k_5
      have k_116 : f_109 (gr g (gr g h0 3) 1) = .inl (gc g 4, 12, .inr (.inr (.inr (.inr q_21)))) := Kp.at kc_112 i_19 (by decide) k_20
      have k_117 : f_109 a_23 = .inr (8, [.int x_26, .ref (gr g a_23 1), .int x_27, .int x_28, .int x_29, .long x_30, .int x_31, .ref (gr g a_23 7), .int x_32, .int x_33, .int x_34, .int x_35, .int x_36, .int x_37, .int x_38, .int x_39, .int x_40, .int x_41]) := Kp.at kc_112 i_24 (by decide) k_25
      have kp_118 := Kp.call hk0 kc_112 (by decide)
      generalize H1 = H at hI hS ⊢
      refine W.widen (k := 0) (n := 0) (Nat.le_of_ble_eq_true rfl) (Nat.le_of_ble_eq_true rfl) ?_
      exact W.iret (v := r_111) hx hb hr (fun t ht hW => ⟨⟨r_111, (), rfl, trivial, ⟨f_109, k_ret ht hI, kp_118⟩⟩, hS.F ht⟩) hS.2.2 dX11_yields_47
  · have c_15 := kc_eq rfl (by decide : Int32.toInt 0 = 0) c_15
    refine lv_aload_n hx hb dX11_yields_11 rfl (lv_at hl 0 rfl) ?_
    refine k_get (ci := 11) (v := .ref (gr g h0 10)) (C := RX11) (T := TX11) (N := 12) hx hb hts (fun _ h0_ => List.mem_cons_of_mem _ (List.mem_append_right _ (List.mem_append_left _ h0_))) hown hK hI i_h0.1 k_1 rfl 10 (by decide) (hts (.fieldLink RX11 72 "DeadlineShare" "refusals" "LDeadlineShare$Refusals;") (List.mem_cons_of_mem _ (List.mem_append_left _ (List.mem_of_getElem? (i := 19) rfl)))) (fun _ h9 => h9) rfl dX11_yields_12 ?_
    have i_120 := kw_11_10 hG i_h0
    refine lv_bipush (v := (-2)) hx hb dX11_yields_15 (by decide) ?_
    obtain ⟨x_122, k_121⟩ := op_4 hI i_120
    refine va_calli (va_runV (As := [.int (-2)]) (rest := []) ⟨hx, hb, hml, hown, hts⟩ (c_X4_add l dC dI g A hG f (gr g h0 10) (-2) i_120) (cwV 1 hts (gi_V (fun w_ h0_ => ⟨List.mem_cons_of_mem _ (List.mem_append_right _ (List.mem_append_right _ (List.mem_append_right _ (List.mem_append_right _ (List.mem_append_right _ (List.mem_append_right _ (List.mem_append_right _ (List.mem_append_right _ (List.mem_append_right _ (List.mem_append_left _ h0_)))))))))), (tb_c_X4_add w_ h0_).2⟩) (List.mem_cons_of_mem _ (List.mem_append_left _ (List.mem_of_getElem? (i := 24) rfl))) (List.mem_cons_of_mem _ (List.mem_append_left _ (List.mem_of_getElem? (i := 25) rfl))) (List.mem_cons_of_mem _ (List.mem_append_left _ (List.mem_of_getElem? (i := 26) rfl))) (List.mem_cons_of_mem _ (List.mem_append_left _ (List.mem_of_getElem? (i := 23) rfl)))) rfl rfl rfl (by decide +kernel) ⟨Nat.le_of_ble_eq_true rfl, Nat.le_of_ble_eq_true rfl⟩) ⟨fun a U g mk q => ⟨q.1, q.2.calling rfl rfl⟩, k_recv hK hI i_120.1 k_121 (ci := 4) rfl, fun U hU hW => ⟨rfl, kIn.of hI hK hE hS hU hW⟩⟩ rfl rfl hl.1 rfl (lv_room (Nat.le_of_ble_eq_true rfl)) dX11_yields_17 ⟨Nat.le_of_ble_eq_true rfl, Nat.le_of_ble_eq_true rfl⟩) hS (fun q _ h => h) (fun q h => h) (fun r_125 u t H1 locs ht hvm w_124 hB hz1 hk1 hS => ?_)
    obtain ⟨f_123, hI, kc_126⟩ := hB
    rw [ht] at hI
    have k_128 : f_123 h0 = .inr (11, [.ref (gr g h0 0), .ref (gr g h0 1), .ref (gr g h0 2), .ref (gr g h0 3), .ref (gr g h0 4), .ref (gr g h0 5), .ref (gr g h0 6), .ref (gr g h0 7), .ref (gr g h0 8), .ref (gr g h0 9), .ref (gr g h0 10), .int x_2]) := Kp.at kc_126 i_h0 (by decide) k_1
    have k_129 : f_123 (gr g h0 3) = .inr (6, [.ref (gr g (gr g h0 3) 0), .ref (gr g (gr g h0 3) 1), .ref (gr g (gr g h0 3) 2), .ref (gr g (gr g h0 3) 3), .ref (gr g (gr g h0 3) 4), .int x_6, .int x_7, .long x_8, .int x_9, .int x_10]) := Kp.at kc_126 i_4 (by decide) k_5
    have kp_130 := Kp.call hk0 kc_126 (by decide)
    generalize H1 = H at hI hS ⊢
    refine W.widen (k := 0) (n := 0) (Nat.le_of_ble_eq_true rfl) (Nat.le_of_ble_eq_true rfl) ?_
    exact W.iret (v := r_125) hx hb hr (fun t ht hW => ⟨⟨r_125, (), rfl, trivial, ⟨f_123, k_ret ht hI, kp_130⟩⟩, hS.F ht⟩) hS.2.2 dX11_yields_20
theorem tw_514 : q_g (.methodLink RX11 201 yX8_takeQuota) := ⟨(List.mem_append_right _ (List.mem_of_getElem? (i := 617) (by decide +kernel))), good_of_word (by decide +kernel)⟩
theorem tw_515 : q_g (.fieldLink RX11 198 "DeadlineShare$Task" "budget" "I") := ⟨(List.mem_append_right _ (List.mem_of_getElem? (i := 187) (by decide +kernel))), good_of_word (by decide +kernel)⟩
theorem tw_516 : q_g (.code yX11_quota cX11_quota 6 (some .int)) := ⟨(List.mem_append_right _ (List.mem_of_getElem? (i := 616) (by decide +kernel))), good_of_word (by decide +kernel)⟩
def ow_c_X11_quota : List Cond := [.fieldLink RX11 72 "DeadlineShare" "refusals" "LDeadlineShare$Refusals;", .methodLink RX11 84 yX4_add, .instanceMethod yX4_add, .selects RX4 yX4_add yX4_add, .initialized RX4, .fieldLink RX11 37 "DeadlineShare" "now" "LDeadlineShare$State;", .methodLink RX11 130 yX6_has, .instanceMethod yX6_has, .selects RX6 yX6_has yX6_has, .initialized RX6, .fieldLink RX11 65 "DeadlineShare" "history" "LDeadlineShare$History;", .methodLink RX11 122 yX1_keep, .instanceMethod yX1_keep, .selects RX1 yX1_keep yX1_keep, .initialized RX1, .fieldLink RX11 133 "DeadlineShare$State" "tasks" "[LDeadlineShare$Task;", .fieldLink RX11 198 "DeadlineShare$Task" "budget" "I", .methodLink RX11 201 yX8_takeQuota, .instanceMethod yX8_takeQuota, .selects RX8 yX8_takeQuota yX8_takeQuota, .initialized RX8, .methodLink RX11 95 yX4_none, .instanceMethod yX4_none, .selects RX4 yX4_none yX4_none]
def wq_c_X11_quota : List Cond := .code yX11_quota cX11_quota 6 (some .int) :: (ow_c_X11_quota ++ (u_ws RX11 TX11 12 ++ (wq_c_X4_add ++ (wq_c_X6_has ++ (wq_c_X1_keep ++ (u_ws RX6 TX6 10 ++ (u_ws RX8 TX8 18 ++ (wq_c_X8_takeQuota ++ (wq_c_X4_none ++ ([] : List Cond))))))))))
theorem tb_c_X11_quota : ∀ w ∈ wq_c_X11_quota, q_g w := by
  unfold wq_c_X11_quota ow_c_X11_quota
  exact q_cons tw_516 (q_app (q_cons tw_443 (q_cons tw_439 (q_cons tw_438 (q_cons tw_437 (q_cons tw_204 (q_cons tw_479 (q_cons tw_492 (q_cons tw_74 (q_cons tw_73 (q_cons tw_47 (q_cons tw_477 (q_cons tw_476 (q_cons tw_475 (q_cons tw_474 (q_cons tw_473 (q_cons tw_491 (q_cons tw_515 (q_cons tw_514 (q_cons tw_232 (q_cons tw_231 (q_cons tw_8 (q_cons tw_442 (q_cons tw_441 (q_cons tw_440 q_nil)))))))))))))))))))))))) (q_app tu_X11 (q_app tb_c_X4_add (q_app tb_c_X6_has (q_app tb_c_X1_keep (q_app tu_X6 (q_app tu_X8 (q_app tb_c_X8_takeQuota (q_app tb_c_X4_none q_nil)))))))))
set_option maxHeartbeats 4000000 in
set_option maxRecDepth 100000 in
theorem c_X11_quota (l : Launch) (dC : Nat → ClassId) (dI : Nat → Nat → Nat) (g : kG) (A : Nat → Prop) (hG : kWf g) (f : Nat → va_E) (h0 : Nat) (p1 : Int32) (p2 : Int32) (p3 : Int32) (i_h0 : ik g 11 h0) : Met l yX11_quota wq_c_X11_quota ({ frames := 5, cells := 0, slots := 0, locals := 126 } : Room) (va_Pc [.ref h0, .int p1, .int p2, .int p3] (fun U => kIn dC dI g A f U)) (va_Qi (fun (r : Int32) (_ : Unit) => True) (fun (_ : Unit) t => ∃ f1 : Nat → va_E, Iv dC dI g A f1 t.heap ∧ Kp g [1, 4, 5, 6, 8, 10, 23, 24, 27, 28] f f1) A) 0 0 A := by
  refine Met.ofW (cc := cX11_quota) (maxL := 6) (ret := (some .int)) (by decide) rfl ?_
  intro p e s m args below meth c s₁ B hml hv
  obtain ⟨rfl, hI, hK, hE⟩ := hv
  have hx := B.exec
  have hb := B.bytes
  have hr := B.returns
  have hts := atoms_spec (ws := wq_c_X11_quota) B.pre
  have hown : s.vm.findClass RX11 = some m.cls := findClass_of_methodNamed B.named
  have hlocks := B.notSynchronized
  have hS : va_S A s.heap s.heap [] := va_S.rf
  have hk0 : Kp g [1, 4, 5, 6, 8, 10, 23, 24, 27, 28] f f := Kp.rf
  have hl := lv_entry ([.ref h0, .int p1, .int p2, .int p3]) (n := 6) (Nat.le_of_ble_eq_true rfl)
  rw [lg_entry_eq]
  generalize (lg_sl ([.ref h0, .int p1, .int p2, .int p3]) ++ List.replicate (6 - (lg_sl ([.ref h0, .int p1, .int p2, .int p3])).length) Slot.unset).toArray = ls at hl ⊢
  have hl : lv_has ls 6 [(0, .ref h0), (1, .int p1), (2, .int p2), (3, .int p3)] := hl
  refine lv_iload_n hx hb dX11_quota_0 rfl (lv_at hl 2 rfl) ?_
  have J_25 : ∀ (H : Heap) (locs : List Loc) (ls : Array Slot), Iv dC dI g A f H → va_S A s.heap H locs → lv_has ls 6 [(0, .ref h0), (1, .int p1), (2, .int p2), (3, .int p3)] → W p l e (headSpec wq_c_X11_quota ({ frames := 5, cells := 0, slots := 0, locals := 126 } : Room)).room s m ([.ref h0, .int p1, .int p2, .int p3].toArray) below meth c H locs 0 0 (MQ below (va_Qi (fun (r : Int32) (_ : Unit) => True) (fun (_ : Unit) t => ∃ f1 : Nat → va_E, Iv dC dI g A f1 t.heap ∧ Kp g [1, 4, 5, 6, 8, 10, 23, 24, 27, 28] f f1) A) ([.ref h0, .int p1, .int p2, .int p3].toArray) s 0 0 A) (F0 m 25 ls []) := by
    intro H locs ls hI hS  hl
    refine lv_aload_n hx hb dX11_quota_25 rfl (lv_at hl 0 rfl) ?_
    obtain ⟨x_2, k_1⟩ := op_11 hI i_h0
    refine k_get (ci := 11) (v := .ref (gr g h0 10)) (C := RX11) (T := TX11) (N := 12) hx hb hts (fun _ h0_ => List.mem_cons_of_mem _ (List.mem_append_right _ (List.mem_append_left _ h0_))) hown hK hI i_h0.1 k_1 rfl 10 (by decide) (hts (.fieldLink RX11 72 "DeadlineShare" "refusals" "LDeadlineShare$Refusals;") (List.mem_cons_of_mem _ (List.mem_append_left _ (List.mem_of_getElem? (i := 0) rfl)))) (fun _ h9 => h9) rfl dX11_quota_26 ?_
    have i_4 := kw_11_10 hG i_h0
    refine lv_iconst (v := (-1)) hx hb dX11_quota_29 (by decide) ?_
    obtain ⟨x_6, k_5⟩ := op_4 hI i_4
    refine va_calli (va_runV (As := [.int (-1)]) (rest := []) ⟨hx, hb, hml, hown, hts⟩ (c_X4_add l dC dI g A hG f (gr g h0 10) (-1) i_4) (cwV 1 hts (gi_V (fun w_ h0_ => ⟨List.mem_cons_of_mem _ (List.mem_append_right _ (List.mem_append_right _ (List.mem_append_left _ h0_))), (tb_c_X4_add w_ h0_).2⟩) (List.mem_cons_of_mem _ (List.mem_append_left _ (List.mem_of_getElem? (i := 1) rfl))) (List.mem_cons_of_mem _ (List.mem_append_left _ (List.mem_of_getElem? (i := 2) rfl))) (List.mem_cons_of_mem _ (List.mem_append_left _ (List.mem_of_getElem? (i := 3) rfl))) (List.mem_cons_of_mem _ (List.mem_append_left _ (List.mem_of_getElem? (i := 4) rfl)))) rfl rfl rfl (by decide +kernel) ⟨Nat.le_of_ble_eq_true rfl, Nat.le_of_ble_eq_true rfl⟩) ⟨fun a U g mk q => ⟨q.1, q.2.calling rfl rfl⟩, k_recv hK hI i_4.1 k_5 (ci := 4) rfl, fun U hU hW => ⟨rfl, kIn.of hI hK hE hS hU hW⟩⟩ rfl rfl hl.1 rfl (lv_room (Nat.le_of_ble_eq_true rfl)) dX11_quota_30 ⟨Nat.le_of_ble_eq_true rfl, Nat.le_of_ble_eq_true rfl⟩) hS (fun q _ h => h) (fun q h => h) (fun r_9 u t H1 locs ht hvm w_8 hB hz1 hk1 hS => ?_)
    obtain ⟨f_7, hI, kc_10⟩ := hB
    rw [ht] at hI
    have k_12 : f_7 h0 = .inr (11, [.ref (gr g h0 0), .ref (gr g h0 1), .ref (gr g h0 2), .ref (gr g h0 3), .ref (gr g h0 4), .ref (gr g h0 5), .ref (gr g h0 6), .ref (gr g h0 7), .ref (gr g h0 8), .ref (gr g h0 9), .ref (gr g h0 10), .int x_2]) := Kp.at kc_10 i_h0 (by decide) k_1
    have kp_13 := Kp.call hk0 kc_10 (by decide)
    generalize H1 = H at hI hS ⊢
    refine W.widen (k := 0) (n := 0) (Nat.le_of_ble_eq_true rfl) (Nat.le_of_ble_eq_true rfl) ?_
    exact W.iret (v := r_9) hx hb hr (fun t ht hW => ⟨⟨r_9, (), rfl, trivial, ⟨f_7, k_ret ht hI, kp_13⟩⟩, hS.F ht⟩) hS.2.2 dX11_quota_33
  refine lv_if_lt (tgt := 25) hx hb dX11_quota_1 (by decide) (fun c_14 => ?_) (fun c_14 => ?_)
  · have c_14 := kc_lt rfl (by decide : Int32.toInt 0 = 0) c_14
    exact J_25  _ _ _ hI hS  (lv_sub hl [0, 1, 2, 3] rfl)
  · have c_14 := kn_lt rfl (by decide : Int32.toInt 0 = 0) c_14
    refine lv_iload_n hx hb dX11_quota_4 rfl (lv_at hl 2 rfl) ?_
    refine lv_bipush (v := 50) hx hb dX11_quota_5 (by decide) ?_
    refine lv_icmp_gt (tgt := 25) hx hb dX11_quota_7 (by decide) (fun c_15 => ?_) (fun c_15 => ?_)
    · have c_15 := kc_lt (by decide : Int32.toInt 50 = 50) rfl c_15
      exact J_25  _ _ _ hI hS  (lv_sub hl [0, 1, 2, 3] rfl)
    · have c_15 := kn_lt (by decide : Int32.toInt 50 = 50) rfl c_15
      refine lv_iload_n hx hb dX11_quota_10 rfl (lv_at hl 2 rfl) ?_
      have J_34 : ∀ (H : Heap) (locs : List Loc) (ls : Array Slot), Iv dC dI g A f H → va_S A s.heap H locs → lv_has ls 6 [(0, .ref h0), (1, .int p1), (2, .int p2), (3, .int p3)] → W p l e (headSpec wq_c_X11_quota ({ frames := 5, cells := 0, slots := 0, locals := 126 } : Room)).room s m ([.ref h0, .int p1, .int p2, .int p3].toArray) below meth c H locs 0 0 (MQ below (va_Qi (fun (r : Int32) (_ : Unit) => True) (fun (_ : Unit) t => ∃ f1 : Nat → va_E, Iv dC dI g A f1 t.heap ∧ Kp g [1, 4, 5, 6, 8, 10, 23, 24, 27, 28] f f1) A) ([.ref h0, .int p1, .int p2, .int p3].toArray) s 0 0 A) (F0 m 34 ls []) := by
        intro H locs ls hI hS  hl
        refine lv_aload_n hx hb dX11_quota_34 rfl (lv_at hl 0 rfl) ?_
        obtain ⟨x_17, k_16⟩ := op_11 hI i_h0
        refine k_get (ci := 11) (v := .ref (gr g h0 3)) (C := RX11) (T := TX11) (N := 12) hx hb hts (fun _ h0_ => List.mem_cons_of_mem _ (List.mem_append_right _ (List.mem_append_left _ h0_))) hown hK hI i_h0.1 k_16 rfl 3 (by decide) (hts (.fieldLink RX11 37 "DeadlineShare" "now" "LDeadlineShare$State;") (List.mem_cons_of_mem _ (List.mem_append_left _ (List.mem_of_getElem? (i := 5) rfl)))) (fun _ h9 => h9) rfl dX11_quota_35 ?_
        have i_19 := kw_11_3 hG i_h0
        refine lv_iload_n hx hb dX11_quota_38 rfl (lv_at hl 1 rfl) ?_
        obtain ⟨x_21, x_22, x_23, x_24, x_25, k_20, b_26, b_27⟩ := op_6 hI i_19
        refine va_calli (va_runV (As := [.int p1]) (rest := []) ⟨hx, hb, hml, hown, hts⟩ (c_X6_has l dC dI g A hG f (gr g h0 3) p1 i_19) (cwV 1 hts (gi_V (fun w_ h0_ => ⟨List.mem_cons_of_mem _ (List.mem_append_right _ (List.mem_append_right _ (List.mem_append_right _ (List.mem_append_left _ h0_)))), (tb_c_X6_has w_ h0_).2⟩) (List.mem_cons_of_mem _ (List.mem_append_left _ (List.mem_of_getElem? (i := 6) rfl))) (List.mem_cons_of_mem _ (List.mem_append_left _ (List.mem_of_getElem? (i := 7) rfl))) (List.mem_cons_of_mem _ (List.mem_append_left _ (List.mem_of_getElem? (i := 8) rfl))) (List.mem_cons_of_mem _ (List.mem_append_left _ (List.mem_of_getElem? (i := 9) rfl)))) rfl rfl rfl (by decide +kernel) ⟨Nat.le_of_ble_eq_true rfl, Nat.le_of_ble_eq_true rfl⟩) ⟨fun a U g mk q => ⟨q.1, q.2.calling rfl rfl⟩, k_recv hK hI i_19.1 k_20 (ci := 6) rfl, fun U hU hW => ⟨rfl, kIn.of hI hK hE hS hU hW⟩⟩ rfl rfl hl.1 rfl (lv_room (Nat.le_of_ble_eq_true rfl)) dX11_quota_39 ⟨Nat.le_of_ble_eq_true rfl, Nat.le_of_ble_eq_true rfl⟩) hS (fun q _ h => h) (fun q h => h) (fun r_29 u t H1 locs ht hvm w_28 hB hz1 hk1 hS => ?_)
        have hI : Iv dC dI g A f t.heap := hB
        rw [ht] at hI
        generalize H1 = H at hI hS ⊢
        refine W.widen (k := 0) (n := 0) (Nat.le_of_ble_eq_true rfl) (Nat.le_of_ble_eq_true rfl) ?_
        have w_28 : r_29.toInt = 0 ∨ (0 ≤ p1.toInt ∧ p1.toInt < 12) := w_28
        refine lv_if_ne (tgt := 55) hx hb dX11_quota_42 (by decide) (fun c_30 => ?_) (fun c_30 => ?_)
        · have c_30 := kn_eq rfl (by decide : Int32.toInt 0 = 0) c_30
          refine lv_aload_n hx hb dX11_quota_55 rfl (lv_at hl 0 rfl) ?_
          refine k_get (ci := 11) (v := .ref (gr g h0 9)) (C := RX11) (T := TX11) (N := 12) hx hb hts (fun _ h0_ => List.mem_cons_of_mem _ (List.mem_append_right _ (List.mem_append_left _ h0_))) hown hK hI i_h0.1 k_16 rfl 9 (by decide) (hts (.fieldLink RX11 65 "DeadlineShare" "history" "LDeadlineShare$History;") (List.mem_cons_of_mem _ (List.mem_append_left _ (List.mem_of_getElem? (i := 10) rfl)))) (fun _ h9 => h9) rfl dX11_quota_56 ?_
          have i_32 := kw_11_9 hG i_h0
          refine lv_aload_n hx hb dX11_quota_59 rfl (lv_at hl 0 rfl) ?_
          refine k_get (ci := 11) (v := .ref (gr g h0 3)) (C := RX11) (T := TX11) (N := 12) hx hb hts (fun _ h0_ => List.mem_cons_of_mem _ (List.mem_append_right _ (List.mem_append_left _ h0_))) hown hK hI i_h0.1 k_16 rfl 3 (by decide) (hts (.fieldLink RX11 37 "DeadlineShare" "now" "LDeadlineShare$State;") (List.mem_cons_of_mem _ (List.mem_append_left _ (List.mem_of_getElem? (i := 5) rfl)))) (fun _ h9 => h9) rfl dX11_quota_60 ?_
          refine lv_bipush (v := 9) hx hb dX11_quota_63 (by decide) ?_
          obtain ⟨x_36, x_37, k_35⟩ := op_1 hI i_32
          refine va_callv (va_runV (As := [.ref (gr g h0 3), .int 9]) (rest := []) ⟨hx, hb, hml, hown, hts⟩ (c_X1_keep l dC dI g A hG f (gr g h0 9) (gr g h0 3) 9 i_32 i_19) (cwV 2 hts (gi_V (fun w_ h0_ => ⟨List.mem_cons_of_mem _ (List.mem_append_right _ (List.mem_append_right _ (List.mem_append_right _ (List.mem_append_right _ (List.mem_append_left _ h0_))))), (tb_c_X1_keep w_ h0_).2⟩) (List.mem_cons_of_mem _ (List.mem_append_left _ (List.mem_of_getElem? (i := 11) rfl))) (List.mem_cons_of_mem _ (List.mem_append_left _ (List.mem_of_getElem? (i := 12) rfl))) (List.mem_cons_of_mem _ (List.mem_append_left _ (List.mem_of_getElem? (i := 13) rfl))) (List.mem_cons_of_mem _ (List.mem_append_left _ (List.mem_of_getElem? (i := 14) rfl)))) rfl rfl rfl (by decide +kernel) ⟨Nat.le_of_ble_eq_true rfl, Nat.le_of_ble_eq_true rfl⟩) ⟨fun a U g mk q => ⟨q.1, q.2.calling rfl rfl⟩, k_recv hK hI i_32.1 k_35 (ci := 1) rfl, fun U hU hW => ⟨rfl, kIn.of hI hK hE hS hU hW⟩⟩ rfl rfl hl.1 rfl (lv_room (Nat.le_of_ble_eq_true rfl)) dX11_quota_65 ⟨Nat.le_of_ble_eq_true rfl, Nat.le_of_ble_eq_true rfl⟩) hS (fun q _ h => h) (fun q h => h) (fun u t H1 locs ht hvm _ hB hz1 hk1 hS => ?_)
          obtain ⟨f_38, hI, kc_40⟩ := hB
          rw [ht] at hI
          have k_42 : f_38 h0 = .inr (11, [.ref (gr g h0 0), .ref (gr g h0 1), .ref (gr g h0 2), .ref (gr g h0 3), .ref (gr g h0 4), .ref (gr g h0 5), .ref (gr g h0 6), .ref (gr g h0 7), .ref (gr g h0 8), .ref (gr g h0 9), .ref (gr g h0 10), .int x_17]) := Kp.at kc_40 i_h0 (by decide) k_16
          have kp_43 := Kp.call hk0 kc_40 (by decide)
          generalize H1 = H at hI hS ⊢
          refine W.widen (k := 0) (n := 0) (Nat.le_of_ble_eq_true rfl) (Nat.le_of_ble_eq_true rfl) ?_
          refine lv_aload_n hx hb dX11_quota_68 rfl (lv_at hl 0 rfl) ?_
          refine k_get (ci := 11) (v := .ref (gr g h0 3)) (C := RX11) (T := TX11) (N := 12) hx hb hts (fun _ h0_ => List.mem_cons_of_mem _ (List.mem_append_right _ (List.mem_append_left _ h0_))) hown hK hI i_h0.1 k_42 rfl 3 (by decide) (hts (.fieldLink RX11 37 "DeadlineShare" "now" "LDeadlineShare$State;") (List.mem_cons_of_mem _ (List.mem_append_left _ (List.mem_of_getElem? (i := 5) rfl)))) (fun _ h9 => h9) rfl dX11_quota_69 ?_
          obtain ⟨x_47, x_48, x_49, x_50, x_51, k_46, b_52, b_53⟩ := op_6 hI i_19
          refine k_get (ci := 6) (v := .ref (gr g (gr g h0 3) 1)) (C := RX6) (T := TX6) (N := 10) hx hb hts (fun _ h0_ => List.mem_cons_of_mem _ (List.mem_append_right _ (List.mem_append_right _ (List.mem_append_right _ (List.mem_append_right _ (List.mem_append_right _ (List.mem_append_left _ h0_))))))) hown hK hI i_19.1 k_46 rfl 1 (by decide) (hts (.fieldLink RX11 133 "DeadlineShare$State" "tasks" "[LDeadlineShare$Task;") (List.mem_cons_of_mem _ (List.mem_append_left _ (List.mem_of_getElem? (i := 15) rfl)))) (fun _ h9 => h9) rfl dX11_quota_72 ?_
          have i_55 := kw_6_1 hG i_19
          refine lv_iload_n hx hb dX11_quota_75 rfl (lv_at hl 1 rfl) ?_
          obtain ⟨q_57, k_56, b_58⟩ := op_20 hI i_55
          refine k_aald hx hb hK hI i_55.1 4 k_56 rfl (vp_in_iff.mpr (by omega)) b_58 (fun _ hj => kw_20 hG i_55 hj) dX11_quota_76 (fun a_59 i_60 => ?_)
          refine lv_astore (lv' := [(4, .ref a_59), (0, .ref h0), (1, .int p1), (2, .int p2), (3, .int p3)]) hx hb dX11_quota_77 hl (by decide) rfl (fun ls hl => ?_)
          refine lv_aload hx hb dX11_quota_79 (lv_at hl 0 rfl) ?_
          obtain ⟨x_62, x_63, x_64, x_65, x_66, x_67, x_68, x_69, x_70, x_71, x_72, x_73, x_74, x_75, x_76, x_77, k_61⟩ := op_8 hI i_60
          refine k_get (ci := 8) (v := .int x_75) (C := RX8) (T := TX8) (N := 18) hx hb hts (fun _ h0_ => List.mem_cons_of_mem _ (List.mem_append_right _ (List.mem_append_right _ (List.mem_append_right _ (List.mem_append_right _ (List.mem_append_right _ (List.mem_append_right _ (List.mem_append_left _ h0_)))))))) hown hK hI i_60.1 k_61 rfl 15 (by decide) (hts (.fieldLink RX11 198 "DeadlineShare$Task" "budget" "I") (List.mem_cons_of_mem _ (List.mem_append_left _ (List.mem_of_getElem? (i := 16) rfl)))) (fun _ h9 => h9) rfl dX11_quota_81 ?_
          refine lv_istore (lv' := [(5, .int x_75), (4, .ref a_59), (0, .ref h0), (1, .int p1), (2, .int p2), (3, .int p3)]) hx hb dX11_quota_84 hl (by decide) rfl (fun ls hl => ?_)
          refine lv_aload hx hb dX11_quota_86 (lv_at hl 1 rfl) ?_
          refine lv_iload_n hx hb dX11_quota_88 rfl (lv_at hl 4 rfl) ?_
          refine lv_iload_n hx hb dX11_quota_89 rfl (lv_at hl 5 rfl) ?_
          refine va_callv (va_runV (As := [.int p2, .int p3]) (rest := []) ⟨hx, hb, hml, hown, hts⟩ (c_X8_takeQuota l dC dI g A hG f_38 a_59 p2 p3 i_60) (cwV 2 hts (gi_V (fun w_ h0_ => ⟨List.mem_cons_of_mem _ (List.mem_append_right _ (List.mem_append_right _ (List.mem_append_right _ (List.mem_append_right _ (List.mem_append_right _ (List.mem_append_right _ (List.mem_append_right _ (List.mem_append_left _ h0_)))))))), (tb_c_X8_takeQuota w_ h0_).2⟩) (List.mem_cons_of_mem _ (List.mem_append_left _ (List.mem_of_getElem? (i := 17) rfl))) (List.mem_cons_of_mem _ (List.mem_append_left _ (List.mem_of_getElem? (i := 18) rfl))) (List.mem_cons_of_mem _ (List.mem_append_left _ (List.mem_of_getElem? (i := 19) rfl))) (List.mem_cons_of_mem _ (List.mem_append_left _ (List.mem_of_getElem? (i := 20) rfl)))) rfl rfl rfl (by decide +kernel) ⟨Nat.le_of_ble_eq_true rfl, Nat.le_of_ble_eq_true rfl⟩) ⟨fun a U g mk q => ⟨q.1, q.2.calling rfl rfl⟩, k_recv hK hI i_60.1 k_61 (ci := 8) rfl, fun U hU hW => ⟨rfl, kIn.of hI hK hE hS hU hW⟩⟩ rfl rfl hl.1 rfl (lv_room (Nat.le_of_ble_eq_true rfl)) dX11_quota_90 ⟨Nat.le_of_ble_eq_true rfl, Nat.le_of_ble_eq_true rfl⟩) hS (fun q _ h => h) (fun q h => h) (fun u t H1 locs ht hvm _ hB hz1 hk1 hS => ?_)
          obtain ⟨f_78, hI, kc_80⟩ := hB
          rw [ht] at hI
          have k_82 : f_78 h0 = .inr (11, [.ref (gr g h0 0), .ref (gr g h0 1), .ref (gr g h0 2), .ref (gr g h0 3), .ref (gr g h0 4), .ref (gr g h0 5), .ref (gr g h0 6), .ref (gr g h0 7), .ref (gr g h0 8), .ref (gr g h0 9), .ref (gr g h0 10), .int x_17]) := Kp.at kc_80 i_h0 (by decide) k_42
          have k_83 : f_78 (gr g h0 3) = .inr (6, [.ref (gr g (gr g h0 3) 0), .ref (gr g (gr g h0 3) 1), .ref (gr g (gr g h0 3) 2), .ref (gr g (gr g h0 3) 3), .ref (gr g (gr g h0 3) 4), .int x_47, .int x_48, .long x_49, .int x_50, .int x_51]) := Kp.at kc_80 i_19 (by decide) k_46
          have k_84 : f_78 (gr g (gr g h0 3) 1) = .inl (gc g 4, 12, .inr (.inr (.inr (.inr q_57)))) := Kp.at kc_80 i_55 (by decide) k_56
          have kp_85 := Kp.call kp_43 kc_80 (by decide)
          generalize H1 = H at hI hS ⊢
          refine W.widen (k := 0) (n := 0) (Nat.le_of_ble_eq_true rfl) (Nat.le_of_ble_eq_true rfl) ?_
          refine lv_aload_n hx hb dX11_quota_93 rfl (lv_at hl 2 rfl) ?_
          refine k_get (ci := 11) (v := .ref (gr g h0 10)) (C := RX11) (T := TX11) (N := 12) hx hb hts (fun _ h0_ => List.mem_cons_of_mem _ (List.mem_append_right _ (List.mem_append_left _ h0_))) hown hK hI i_h0.1 k_82 rfl 10 (by decide) (hts (.fieldLink RX11 72 "DeadlineShare" "refusals" "LDeadlineShare$Refusals;") (List.mem_cons_of_mem _ (List.mem_append_left _ (List.mem_of_getElem? (i := 0) rfl)))) (fun _ h9 => h9) rfl dX11_quota_94 ?_
          have i_87 := kw_11_10 hG i_h0
          refine lv_iload hx hb dX11_quota_97 (lv_at hl 0 rfl) ?_
          obtain ⟨x_89, k_88⟩ := op_4 hI i_87
          refine va_calli (va_runV (As := [.int x_75]) (rest := []) ⟨hx, hb, hml, hown, hts⟩ (c_X4_none l dC dI g A hG f_78 (gr g h0 10) x_75 i_87) (cwV 1 hts (gi_V (fun w_ h0_ => ⟨List.mem_cons_of_mem _ (List.mem_append_right _ (List.mem_append_right _ (List.mem_append_right _ (List.mem_append_right _ (List.mem_append_right _ (List.mem_append_right _ (List.mem_append_right _ (List.mem_append_right _ (List.mem_append_left _ h0_))))))))), (tb_c_X4_none w_ h0_).2⟩) (List.mem_cons_of_mem _ (List.mem_append_left _ (List.mem_of_getElem? (i := 21) rfl))) (List.mem_cons_of_mem _ (List.mem_append_left _ (List.mem_of_getElem? (i := 22) rfl))) (List.mem_cons_of_mem _ (List.mem_append_left _ (List.mem_of_getElem? (i := 23) rfl))) (List.mem_cons_of_mem _ (List.mem_append_left _ (List.mem_of_getElem? (i := 4) rfl)))) rfl rfl rfl (by decide +kernel) ⟨Nat.le_of_ble_eq_true rfl, Nat.le_of_ble_eq_true rfl⟩) ⟨fun a U g mk q => ⟨q.1, q.2.calling rfl rfl⟩, k_recv hK hI i_87.1 k_88 (ci := 4) rfl, fun U hU hW => ⟨rfl, kIn.of hI hK hE hS hU hW⟩⟩ rfl rfl hl.1 rfl (lv_room (Nat.le_of_ble_eq_true rfl)) dX11_quota_99 ⟨Nat.le_of_ble_eq_true rfl, Nat.le_of_ble_eq_true rfl⟩) hS (fun q _ h => h) (fun q h => h) (fun r_92 u t H1 locs ht hvm w_91 hB hz1 hk1 hS => ?_)
          obtain ⟨f_90, hI, kc_93⟩ := hB
          rw [ht] at hI
          have k_95 : f_90 h0 = .inr (11, [.ref (gr g h0 0), .ref (gr g h0 1), .ref (gr g h0 2), .ref (gr g h0 3), .ref (gr g h0 4), .ref (gr g h0 5), .ref (gr g h0 6), .ref (gr g h0 7), .ref (gr g h0 8), .ref (gr g h0 9), .ref (gr g h0 10), .int x_17]) := Kp.at kc_93 i_h0 (by decide) k_82
          have k_96 : f_90 (gr g h0 3) = .inr (6, [.ref (gr g (gr g h0 3) 0), .ref (gr g (gr g h0 3) 1), .ref (gr g (gr g h0 3) 2), .ref (gr g (gr g h0 3) 3), .ref (gr g (gr g h0 3) 4), .int x_47, .int x_48, .long x_49, .int x_50, .int x_51]) := Kp.at kc_93 i_19 (by decide) k_83
          have k_97 : f_90 (gr g (gr g h0 3) 1) = .inl (gc g 4, 12, .inr (.inr (.inr (.inr q_57)))) := Kp.at kc_93 i_55 (by decide) k_84
          have kp_98 := Kp.call kp_85 kc_93 (by decide)
          generalize H1 = H at hI hS ⊢
          refine W.widen (k := 0) (n := 0) (Nat.le_of_ble_eq_true rfl) (Nat.le_of_ble_eq_true rfl) ?_
          exact W.iret (v := r_92) hx hb hr (fun t ht hW => ⟨⟨r_92, (), rfl, trivial, ⟨f_90, k_ret ht hI, kp_98⟩⟩, hS.F ht⟩) hS.2.2 dX11_quota_102
        · have c_30 := kc_eq rfl (by decide : Int32.toInt 0 = 0) c_30
          refine lv_aload_n hx hb dX11_quota_45 rfl (lv_at hl 0 rfl) ?_
          refine k_get (ci := 11) (v := .ref (gr g h0 10)) (C := RX11) (T := TX11) (N := 12) hx hb hts (fun _ h0_ => List.mem_cons_of_mem _ (List.mem_append_right _ (List.mem_append_left _ h0_))) hown hK hI i_h0.1 k_16 rfl 10 (by decide) (hts (.fieldLink RX11 72 "DeadlineShare" "refusals" "LDeadlineShare$Refusals;") (List.mem_cons_of_mem _ (List.mem_append_left _ (List.mem_of_getElem? (i := 0) rfl)))) (fun _ h9 => h9) rfl dX11_quota_46 ?_
          have i_100 := kw_11_10 hG i_h0
          refine lv_bipush (v := (-2)) hx hb dX11_quota_49 (by decide) ?_
          obtain ⟨x_102, k_101⟩ := op_4 hI i_100
          refine va_calli (va_runV (As := [.int (-2)]) (rest := []) ⟨hx, hb, hml, hown, hts⟩ (c_X4_add l dC dI g A hG f (gr g h0 10) (-2) i_100) (cwV 1 hts (gi_V (fun w_ h0_ => ⟨List.mem_cons_of_mem _ (List.mem_append_right _ (List.mem_append_right _ (List.mem_append_left _ h0_))), (tb_c_X4_add w_ h0_).2⟩) (List.mem_cons_of_mem _ (List.mem_append_left _ (List.mem_of_getElem? (i := 1) rfl))) (List.mem_cons_of_mem _ (List.mem_append_left _ (List.mem_of_getElem? (i := 2) rfl))) (List.mem_cons_of_mem _ (List.mem_append_left _ (List.mem_of_getElem? (i := 3) rfl))) (List.mem_cons_of_mem _ (List.mem_append_left _ (List.mem_of_getElem? (i := 4) rfl)))) rfl rfl rfl (by decide +kernel) ⟨Nat.le_of_ble_eq_true rfl, Nat.le_of_ble_eq_true rfl⟩) ⟨fun a U g mk q => ⟨q.1, q.2.calling rfl rfl⟩, k_recv hK hI i_100.1 k_101 (ci := 4) rfl, fun U hU hW => ⟨rfl, kIn.of hI hK hE hS hU hW⟩⟩ rfl rfl hl.1 rfl (lv_room (Nat.le_of_ble_eq_true rfl)) dX11_quota_51 ⟨Nat.le_of_ble_eq_true rfl, Nat.le_of_ble_eq_true rfl⟩) hS (fun q _ h => h) (fun q h => h) (fun r_105 u t H1 locs ht hvm w_104 hB hz1 hk1 hS => ?_)
          obtain ⟨f_103, hI, kc_106⟩ := hB
          rw [ht] at hI
          have k_108 : f_103 h0 = .inr (11, [.ref (gr g h0 0), .ref (gr g h0 1), .ref (gr g h0 2), .ref (gr g h0 3), .ref (gr g h0 4), .ref (gr g h0 5), .ref (gr g h0 6), .ref (gr g h0 7), .ref (gr g h0 8), .ref (gr g h0 9), .ref (gr g h0 10), .int x_17]) := Kp.at kc_106 i_h0 (by decide) k_16
          have k_109 : f_103 (gr g h0 3) = .inr (6, [.ref (gr g (gr g h0 3) 0), .ref (gr g (gr g h0 3) 1), .ref (gr g (gr g h0 3) 2), .ref (gr g (gr g h0 3) 3), .ref (gr g (gr g h0 3) 4), .int x_21, .int x_22, .long x_23, .int x_24, .int x_25]) := Kp.at kc_106 i_19 (by decide) k_20
          have kp_110 := Kp.call hk0 kc_106 (by decide)
          generalize H1 = H at hI hS ⊢
          refine W.widen (k := 0) (n := 0) (Nat.le_of_ble_eq_true rfl) (Nat.le_of_ble_eq_true rfl) ?_
          exact W.iret (v := r_105) hx hb hr (fun t ht hW => ⟨⟨r_105, (), rfl, trivial, ⟨f_103, k_ret ht hI, kp_110⟩⟩, hS.F ht⟩) hS.2.2 dX11_quota_54
      refine lv_if_le (tgt := 34) hx hb dX11_quota_11 (by decide) (fun c_111 => ?_) (fun c_111 => ?_)
      · have c_111 := kc_le rfl (by decide : Int32.toInt 0 = 0) c_111
        exact J_34  _ _ _ hI hS  (lv_sub hl [0, 1, 2, 3] rfl)
      · have c_111 := kn_le rfl (by decide : Int32.toInt 0 = 0) c_111
        refine lv_iload_n hx hb dX11_quota_14 rfl (lv_at hl 3 rfl) ?_
        refine lv_iload_n hx hb dX11_quota_15 rfl (lv_at hl 2 rfl) ?_
        refine lv_icmp_le (tgt := 25) hx hb dX11_quota_16 (by decide) (fun c_112 => ?_) (fun c_112 => ?_)
        · have c_112 := kc_le rfl rfl c_112
          exact J_25  _ _ _ hI hS  (lv_sub hl [0, 1, 2, 3] rfl)
        · have c_112 := kn_le rfl rfl c_112
          refine lv_iload_n hx hb dX11_quota_19 rfl (lv_at hl 3 rfl) ?_
          refine lv_bipush (v := 60) hx hb dX11_quota_20 (by decide) ?_
          refine lv_icmp_le (tgt := 34) hx hb dX11_quota_22 (by decide) (fun c_113 => ?_) (fun c_113 => ?_)
          · have c_113 := kc_le rfl (by decide : Int32.toInt 60 = 60) c_113
            exact J_34  _ _ _ hI hS  (lv_sub hl [0, 1, 2, 3] rfl)
          · have c_113 := kn_le rfl (by decide : Int32.toInt 60 = 60) c_113
            exact J_25  _ _ _ hI hS  (lv_sub hl [0, 1, 2, 3] rfl)
