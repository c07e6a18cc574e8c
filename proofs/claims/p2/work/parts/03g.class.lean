theorem tw_613 : q_g (.fieldLink RX11 351 "DeadlineShare$Terms" "seed" "I") := ⟨(List.mem_append_right _ (List.mem_of_getElem? (i := 42) (by decide +kernel))), good_of_word (by decide +kernel)⟩
theorem tw_614 : q_g (.fieldLink RX11 348 "DeadlineShare$Terms" "carry" "I") := ⟨(List.mem_append_right _ (List.mem_of_getElem? (i := 39) (by decide +kernel))), good_of_word (by decide +kernel)⟩
theorem tw_615 : q_g (.fieldLink RX11 345 "DeadlineShare$Terms" "mode" "I") := ⟨(List.mem_append_right _ (List.mem_of_getElem? (i := 36) (by decide +kernel))), good_of_word (by decide +kernel)⟩
theorem tw_616 : q_g (.selects RX4 yX4_countOf yX4_countOf) := ⟨(List.mem_append_right _ (List.mem_of_getElem? (i := 1079) (by decide +kernel))), good_of_word (by decide +kernel)⟩
theorem tw_617 : q_g (.instanceMethod yX4_countOf) := ⟨(List.mem_append_right _ (List.mem_of_getElem? (i := 1078) (by decide +kernel))), good_of_word (by decide +kernel)⟩
theorem tw_618 : q_g (.methodLink RX11 342 yX4_countOf) := ⟨(List.mem_append_right _ (List.mem_of_getElem? (i := 1077) (by decide +kernel))), good_of_word (by decide +kernel)⟩
theorem tw_619 : q_g (.selects RX6 yX6_howManyHaveScripts yX6_howManyHaveScripts) := ⟨(List.mem_append_right _ (List.mem_of_getElem? (i := 1075) (by decide +kernel))), good_of_word (by decide +kernel)⟩
theorem tw_620 : q_g (.instanceMethod yX6_howManyHaveScripts) := ⟨(List.mem_append_right _ (List.mem_of_getElem? (i := 1074) (by decide +kernel))), good_of_word (by decide +kernel)⟩
theorem tw_621 : q_g (.methodLink RX11 339 yX6_howManyHaveScripts) := ⟨(List.mem_append_right _ (List.mem_of_getElem? (i := 1073) (by decide +kernel))), good_of_word (by decide +kernel)⟩
theorem tw_622 : q_g (.selects RX6 yX6_howManyAre yX6_howManyAre) := ⟨(List.mem_append_right _ (List.mem_of_getElem? (i := 1071) (by decide +kernel))), good_of_word (by decide +kernel)⟩
theorem tw_623 : q_g (.instanceMethod yX6_howManyAre) := ⟨(List.mem_append_right _ (List.mem_of_getElem? (i := 1070) (by decide +kernel))), good_of_word (by decide +kernel)⟩
theorem tw_624 : q_g (.methodLink RX11 336 yX6_howManyAre) := ⟨(List.mem_append_right _ (List.mem_of_getElem? (i := 1069) (by decide +kernel))), good_of_word (by decide +kernel)⟩
theorem tw_625 : q_g (.code yX11_count cX11_count 2 (some .int)) := ⟨(List.mem_append_right _ (List.mem_of_getElem? (i := 1068) (by decide +kernel))), good_of_word (by decide +kernel)⟩
def ow_c_X11_count : List Cond := [.fieldLink RX11 37 "DeadlineShare" "now" "LDeadlineShare$State;", .fieldLink RX11 119 "DeadlineShare$State" "count" "I", .methodLink RX11 336 yX6_howManyAre, .instanceMethod yX6_howManyAre, .selects RX6 yX6_howManyAre yX6_howManyAre, .initialized RX6, .methodLink RX11 339 yX6_howManyHaveScripts, .instanceMethod yX6_howManyHaveScripts, .selects RX6 yX6_howManyHaveScripts yX6_howManyHaveScripts, .fieldLink RX11 329 "DeadlineShare$State" "last" "I", .fieldLink RX11 223 "DeadlineShare$State" "time" "I", .methodLink RX11 307 yX6_firstInLog, .instanceMethod yX6_firstInLog, .selects RX6 yX6_firstInLog yX6_firstInLog, .fieldLink RX11 65 "DeadlineShare" "history" "LDeadlineShare$History;", .fieldLink RX11 230 "DeadlineShare$History" "size" "I", .fieldLink RX11 21 "DeadlineShare" "tape" "LDeadlineShare$Tape;", .fieldLink RX11 106 "DeadlineShare$Tape" "length" "I", .fieldLink RX11 72 "DeadlineShare" "refusals" "LDeadlineShare$Refusals;", .methodLink RX11 342 yX4_countOf, .instanceMethod yX4_countOf, .selects RX4 yX4_countOf yX4_countOf, .initialized RX4, .fieldLink RX11 12 "DeadlineShare" "terms" "LDeadlineShare$Terms;", .fieldLink RX11 345 "DeadlineShare$Terms" "mode" "I", .fieldLink RX11 348 "DeadlineShare$Terms" "carry" "I", .fieldLink RX11 351 "DeadlineShare$Terms" "seed" "I"]
def wq_c_X11_count : List Cond := .code yX11_count cX11_count 2 (some .int) :: (ow_c_X11_count ++ (u_ws RX11 TX11 12 ++ (u_ws RX6 TX6 10 ++ (wq_c_X6_howManyAre ++ (wq_c_X6_howManyHaveScripts ++ (wq_c_X6_firstInLog ++ (u_ws RX1 TX1 4 ++ (u_ws RX7 TX7 2 ++ (wq_c_X4_countOf ++ (u_ws RX9 TX9 3 ++ ([] : List Cond)))))))))))
theorem tb_c_X11_count : ∀ w ∈ wq_c_X11_count, q_g w := by
  unfold wq_c_X11_count ow_c_X11_count
  exact q_cons tw_625 (q_app (q_cons tw_479 (q_cons tw_478 (q_cons tw_624 (q_cons tw_623 (q_cons tw_622 (q_cons tw_47 (q_cons tw_621 (q_cons tw_620 (q_cons tw_619 (q_cons tw_606 (q_cons tw_523 (q_cons tw_586 (q_cons tw_416 (q_cons tw_415 (q_cons tw_477 (q_cons tw_528 (q_cons tw_463 (q_cons tw_456 (q_cons tw_443 (q_cons tw_618 (q_cons tw_617 (q_cons tw_616 (q_cons tw_204 (q_cons tw_454 (q_cons tw_615 (q_cons tw_614 (q_cons tw_613 q_nil))))))))))))))))))))))))))) (q_app tu_X11 (q_app tu_X6 (q_app tb_c_X6_howManyAre (q_app tb_c_X6_howManyHaveScripts (q_app tb_c_X6_firstInLog (q_app tu_X1 (q_app tu_X7 (q_app tb_c_X4_countOf (q_app tu_X9 q_nil))))))))))
set_option maxHeartbeats 4000000 in
set_option maxRecDepth 100000 in
theorem c_X11_count (l : Launch) (dC : Nat → ClassId) (dI : Nat → Nat → Nat) (g : kG) (A : Nat → Prop) (hG : kWf g) (f : Nat → va_E) (h0 : Nat) (p1 : Int32) (i_h0 : ik g 11 h0) : Met l yX11_count wq_c_X11_count ({ frames := 2, cells := 0, slots := 0, locals := 42 } : Room) (va_Pc [.ref h0, .int p1] (fun U => kIn dC dI g A f U)) (va_Qi (fun (r : Int32) (_ : Unit) => True) (fun (_ : Unit) t => Iv dC dI g A f t.heap) A) 0 0 A := by
  refine Met.ofW (cc := cX11_count) (maxL := 2) (ret := (some .int)) (by decide) rfl ?_
  intro p e s m args below meth c s₁ B hml hv
  obtain ⟨rfl, hI, hK, hE⟩ := hv
  have hx := B.exec
  have hb := B.bytes
  have hr := B.returns
  have hts := atoms_spec (ws := wq_c_X11_count) B.pre
  have hown : s.vm.findClass RX11 = some m.cls := findClass_of_methodNamed B.named
  have hlocks := B.notSynchronized
  have hS : va_S A s.heap s.heap [] := va_S.rf
  have hl := lv_entry ([.ref h0, .int p1]) (n := 2) (Nat.le_of_ble_eq_true rfl)
  rw [lg_entry_eq]
  generalize (lg_sl ([.ref h0, .int p1]) ++ List.replicate (2 - (lg_sl ([.ref h0, .int p1])).length) Slot.unset).toArray = ls at hl ⊢
  have hl : lv_has ls 2 [(0, .ref h0), (1, .int p1)] := hl
  refine lv_iload_n hx hb dX11_count_0 rfl (lv_at hl 1 rfl) ?_
  by_cases h_1 : p1 = 0
  · refine k_topi (y := 0) h_1 ?_
    refine lv_tableIn (tgt := 84) hx hb dX11_count_1 (by decide) (by decide) rfl (by decide) ?_
    have h_1 := kc_eq rfl (by decide : Int32.toInt 0 = 0) h_1
    refine lv_aload_n hx hb dX11_count_84 rfl (lv_at hl 0 rfl) ?_
    obtain ⟨x_3, k_2⟩ := op_11 hI i_h0
    refine k_get (ci := 11) (v := .ref (gr g h0 3)) (C := RX11) (T := TX11) (N := 12) hx hb hts (fun _ h0_ => List.mem_cons_of_mem _ (List.mem_append_right _ (List.mem_append_left _ h0_))) hown hK hI i_h0.1 k_2 rfl 3 (by decide) (hts (.fieldLink RX11 37 "DeadlineShare" "now" "LDeadlineShare$State;") (List.mem_cons_of_mem _ (List.mem_append_left _ (List.mem_of_getElem? (i := 0) rfl)))) (fun _ h9 => h9) rfl dX11_count_85 ?_
    have i_5 := kw_11_3 hG i_h0
    obtain ⟨x_7, x_8, x_9, x_10, x_11, k_6, b_12, b_13⟩ := op_6 hI i_5
    refine k_get (ci := 6) (v := .int x_7) (C := RX6) (T := TX6) (N := 10) hx hb hts (fun _ h0_ => List.mem_cons_of_mem _ (List.mem_append_right _ (List.mem_append_right _ (List.mem_append_left _ h0_)))) hown hK hI i_5.1 k_6 rfl 5 (by decide) (hts (.fieldLink RX11 119 "DeadlineShare$State" "count" "I") (List.mem_cons_of_mem _ (List.mem_append_left _ (List.mem_of_getElem? (i := 1) rfl)))) (fun _ h9 => h9) rfl dX11_count_88 ?_
    exact W.iret (v := x_7) hx hb hr (fun t ht hW => ⟨⟨x_7, (), rfl, trivial, k_ret ht hI⟩, hS.F ht⟩) hS.2.2 dX11_count_91
  by_cases h_14 : p1 = 1
  · refine k_topi (y := 1) h_14 ?_
    refine lv_tableIn (tgt := 92) hx hb dX11_count_1 (by decide) (by decide) rfl (by decide) ?_
    have h_14 := kc_eq rfl (by decide : Int32.toInt 1 = 1) h_14
    refine lv_aload_n hx hb dX11_count_92 rfl (lv_at hl 0 rfl) ?_
    obtain ⟨x_16, k_15⟩ := op_11 hI i_h0
    refine k_get (ci := 11) (v := .ref (gr g h0 3)) (C := RX11) (T := TX11) (N := 12) hx hb hts (fun _ h0_ => List.mem_cons_of_mem _ (List.mem_append_right _ (List.mem_append_left _ h0_))) hown hK hI i_h0.1 k_15 rfl 3 (by decide) (hts (.fieldLink RX11 37 "DeadlineShare" "now" "LDeadlineShare$State;") (List.mem_cons_of_mem _ (List.mem_append_left _ (List.mem_of_getElem? (i := 0) rfl)))) (fun _ h9 => h9) rfl dX11_count_93 ?_
    have i_18 := kw_11_3 hG i_h0
    refine lv_iconst (v := 1) hx hb dX11_count_96 (by decide) ?_
    obtain ⟨x_20, x_21, x_22, x_23, x_24, k_19, b_25, b_26⟩ := op_6 hI i_18
    refine va_calli (va_runV (As := [.int 1]) (rest := []) ⟨hx, hb, hml, hown, hts⟩ (c_X6_howManyAre l dC dI g A hG f (gr g h0 3) 1 i_18) (cwV 1 hts (gi_V (fun w_ h0_ => ⟨List.mem_cons_of_mem _ (List.mem_append_right _ (List.mem_append_right _ (List.mem_append_right _ (List.mem_append_left _ h0_)))), (tb_c_X6_howManyAre w_ h0_).2⟩) (List.mem_cons_of_mem _ (List.mem_append_left _ (List.mem_of_getElem? (i := 2) rfl))) (List.mem_cons_of_mem _ (List.mem_append_left _ (List.mem_of_getElem? (i := 3) rfl))) (List.mem_cons_of_mem _ (List.mem_append_left _ (List.mem_of_getElem? (i := 4) rfl))) (List.mem_cons_of_mem _ (List.mem_append_left _ (List.mem_of_getElem? (i := 5) rfl)))) rfl rfl rfl (by decide +kernel) ⟨Nat.le_of_ble_eq_true rfl, Nat.le_of_ble_eq_true rfl⟩) ⟨fun a U g mk q => ⟨q.1, q.2.calling rfl rfl⟩, k_recv hK hI i_18.1 k_19 (ci := 6) rfl, fun U hU hW => ⟨rfl, kIn.of hI hK hE hS hU hW⟩⟩ rfl rfl hl.1 rfl (lv_room (Nat.le_of_ble_eq_true rfl)) dX11_count_97 ⟨Nat.le_of_ble_eq_true rfl, Nat.le_of_ble_eq_true rfl⟩) hS (fun q _ h => h) (fun q h => h) (fun r_28 u t H1 locs ht hvm w_27 hB hz1 hk1 hS => ?_)
    have hI : Iv dC dI g A f t.heap := hB
    rw [ht] at hI
    generalize H1 = H at hI hS ⊢
    refine W.widen (k := 0) (n := 0) (Nat.le_of_ble_eq_true rfl) (Nat.le_of_ble_eq_true rfl) ?_
    exact W.iret (v := r_28) hx hb hr (fun t ht hW => ⟨⟨r_28, (), rfl, trivial, k_ret ht hI⟩, hS.F ht⟩) hS.2.2 dX11_count_100
  by_cases h_29 : p1 = 2
  · refine k_topi (y := 2) h_29 ?_
    refine lv_tableIn (tgt := 101) hx hb dX11_count_1 (by decide) (by decide) rfl (by decide) ?_
    have h_29 := kc_eq rfl (by decide : Int32.toInt 2 = 2) h_29
    refine lv_aload_n hx hb dX11_count_101 rfl (lv_at hl 0 rfl) ?_
    obtain ⟨x_31, k_30⟩ := op_11 hI i_h0
    refine k_get (ci := 11) (v := .ref (gr g h0 3)) (C := RX11) (T := TX11) (N := 12) hx hb hts (fun _ h0_ => List.mem_cons_of_mem _ (List.mem_append_right _ (List.mem_append_left _ h0_))) hown hK hI i_h0.1 k_30 rfl 3 (by decide) (hts (.fieldLink RX11 37 "DeadlineShare" "now" "LDeadlineShare$State;") (List.mem_cons_of_mem _ (List.mem_append_left _ (List.mem_of_getElem? (i := 0) rfl)))) (fun _ h9 => h9) rfl dX11_count_102 ?_
    have i_33 := kw_11_3 hG i_h0
    refine lv_iconst (v := 2) hx hb dX11_count_105 (by decide) ?_
    obtain ⟨x_35, x_36, x_37, x_38, x_39, k_34, b_40, b_41⟩ := op_6 hI i_33
    refine va_calli (va_runV (As := [.int 2]) (rest := []) ⟨hx, hb, hml, hown, hts⟩ (c_X6_howManyAre l dC dI g A hG f (gr g h0 3) 2 i_33) (cwV 1 hts (gi_V (fun w_ h0_ => ⟨List.mem_cons_of_mem _ (List.mem_append_right _ (List.mem_append_right _ (List.mem_append_right _ (List.mem_append_left _ h0_)))), (tb_c_X6_howManyAre w_ h0_).2⟩) (List.mem_cons_of_mem _ (List.mem_append_left _ (List.mem_of_getElem? (i := 2) rfl))) (List.mem_cons_of_mem _ (List.mem_append_left _ (List.mem_of_getElem? (i := 3) rfl))) (List.mem_cons_of_mem _ (List.mem_append_left _ (List.mem_of_getElem? (i := 4) rfl))) (List.mem_cons_of_mem _ (List.mem_append_left _ (List.mem_of_getElem? (i := 5) rfl)))) rfl rfl rfl (by decide +kernel) ⟨Nat.le_of_ble_eq_true rfl, Nat.le_of_ble_eq_true rfl⟩) ⟨fun a U g mk q => ⟨q.1, q.2.calling rfl rfl⟩, k_recv hK hI i_33.1 k_34 (ci := 6) rfl, fun U hU hW => ⟨rfl, kIn.of hI hK hE hS hU hW⟩⟩ rfl rfl hl.1 rfl (lv_room (Nat.le_of_ble_eq_true rfl)) dX11_count_106 ⟨Nat.le_of_ble_eq_true rfl, Nat.le_of_ble_eq_true rfl⟩) hS (fun q _ h => h) (fun q h => h) (fun r_43 u t H1 locs ht hvm w_42 hB hz1 hk1 hS => ?_)
    have hI : Iv dC dI g A f t.heap := hB
    rw [ht] at hI
    generalize H1 = H at hI hS ⊢
    refine W.widen (k := 0) (n := 0) (Nat.le_of_ble_eq_true rfl) (Nat.le_of_ble_eq_true rfl) ?_
    exact W.iret (v := r_43) hx hb hr (fun t ht hW => ⟨⟨r_43, (), rfl, trivial, k_ret ht hI⟩, hS.F ht⟩) hS.2.2 dX11_count_109
  by_cases h_44 : p1 = 3
  · refine k_topi (y := 3) h_44 ?_
    refine lv_tableIn (tgt := 110) hx hb dX11_count_1 (by decide) (by decide) rfl (by decide) ?_
    have h_44 := kc_eq rfl (by decide : Int32.toInt 3 = 3) h_44
    refine lv_aload_n hx hb dX11_count_110 rfl (lv_at hl 0 rfl) ?_
    obtain ⟨x_46, k_45⟩ := op_11 hI i_h0
    refine k_get (ci := 11) (v := .ref (gr g h0 3)) (C := RX11) (T := TX11) (N := 12) hx hb hts (fun _ h0_ => List.mem_cons_of_mem _ (List.mem_append_right _ (List.mem_append_left _ h0_))) hown hK hI i_h0.1 k_45 rfl 3 (by decide) (hts (.fieldLink RX11 37 "DeadlineShare" "now" "LDeadlineShare$State;") (List.mem_cons_of_mem _ (List.mem_append_left _ (List.mem_of_getElem? (i := 0) rfl)))) (fun _ h9 => h9) rfl dX11_count_111 ?_
    have i_48 := kw_11_3 hG i_h0
    obtain ⟨x_50, x_51, x_52, x_53, x_54, k_49, b_55, b_56⟩ := op_6 hI i_48
    refine va_calli (va_runV (As := []) (rest := []) ⟨hx, hb, hml, hown, hts⟩ (c_X6_howManyHaveScripts l dC dI g A hG f (gr g h0 3) i_48) (cwV 0 hts (gi_V (fun w_ h0_ => ⟨List.mem_cons_of_mem _ (List.mem_append_right _ (List.mem_append_right _ (List.mem_append_right _ (List.mem_append_right _ (List.mem_append_left _ h0_))))), (tb_c_X6_howManyHaveScripts w_ h0_).2⟩) (List.mem_cons_of_mem _ (List.mem_append_left _ (List.mem_of_getElem? (i := 6) rfl))) (List.mem_cons_of_mem _ (List.mem_append_left _ (List.mem_of_getElem? (i := 7) rfl))) (List.mem_cons_of_mem _ (List.mem_append_left _ (List.mem_of_getElem? (i := 8) rfl))) (List.mem_cons_of_mem _ (List.mem_append_left _ (List.mem_of_getElem? (i := 5) rfl)))) rfl rfl rfl (by decide +kernel) ⟨Nat.le_of_ble_eq_true rfl, Nat.le_of_ble_eq_true rfl⟩) ⟨fun a U g mk q => ⟨q.1, q.2.calling rfl rfl⟩, k_recv hK hI i_48.1 k_49 (ci := 6) rfl, fun U hU hW => ⟨rfl, kIn.of hI hK hE hS hU hW⟩⟩ rfl rfl hl.1 rfl (lv_room (Nat.le_of_ble_eq_true rfl)) dX11_count_114 ⟨Nat.le_of_ble_eq_true rfl, Nat.le_of_ble_eq_true rfl⟩) hS (fun q _ h => h) (fun q h => h) (fun r_58 u t H1 locs ht hvm w_57 hB hz1 hk1 hS => ?_)
    have hI : Iv dC dI g A f t.heap := hB
    rw [ht] at hI
    generalize H1 = H at hI hS ⊢
    refine W.widen (k := 0) (n := 0) (Nat.le_of_ble_eq_true rfl) (Nat.le_of_ble_eq_true rfl) ?_
    exact W.iret (v := r_58) hx hb hr (fun t ht hW => ⟨⟨r_58, (), rfl, trivial, k_ret ht hI⟩, hS.F ht⟩) hS.2.2 dX11_count_117
  by_cases h_59 : p1 = 4
  · refine k_topi (y := 4) h_59 ?_
    refine lv_tableIn (tgt := 118) hx hb dX11_count_1 (by decide) (by decide) rfl (by decide) ?_
    have h_59 := kc_eq rfl (by decide : Int32.toInt 4 = 4) h_59
    refine lv_aload_n hx hb dX11_count_118 rfl (lv_at hl 0 rfl) ?_
    obtain ⟨x_61, k_60⟩ := op_11 hI i_h0
    refine k_get (ci := 11) (v := .ref (gr g h0 3)) (C := RX11) (T := TX11) (N := 12) hx hb hts (fun _ h0_ => List.mem_cons_of_mem _ (List.mem_append_right _ (List.mem_append_left _ h0_))) hown hK hI i_h0.1 k_60 rfl 3 (by decide) (hts (.fieldLink RX11 37 "DeadlineShare" "now" "LDeadlineShare$State;") (List.mem_cons_of_mem _ (List.mem_append_left _ (List.mem_of_getElem? (i := 0) rfl)))) (fun _ h9 => h9) rfl dX11_count_119 ?_
    have i_63 := kw_11_3 hG i_h0
    obtain ⟨x_65, x_66, x_67, x_68, x_69, k_64, b_70, b_71⟩ := op_6 hI i_63
    refine k_get (ci := 6) (v := .int x_68) (C := RX6) (T := TX6) (N := 10) hx hb hts (fun _ h0_ => List.mem_cons_of_mem _ (List.mem_append_right _ (List.mem_append_right _ (List.mem_append_left _ h0_)))) hown hK hI i_63.1 k_64 rfl 8 (by decide) (hts (.fieldLink RX11 329 "DeadlineShare$State" "last" "I") (List.mem_cons_of_mem _ (List.mem_append_left _ (List.mem_of_getElem? (i := 9) rfl)))) (fun _ h9 => h9) rfl dX11_count_122 ?_
    exact W.iret (v := x_68) hx hb hr (fun t ht hW => ⟨⟨x_68, (), rfl, trivial, k_ret ht hI⟩, hS.F ht⟩) hS.2.2 dX11_count_125
  by_cases h_72 : p1 = 5
  · refine k_topi (y := 5) h_72 ?_
    refine lv_tableIn (tgt := 126) hx hb dX11_count_1 (by decide) (by decide) rfl (by decide) ?_
    have h_72 := kc_eq rfl (by decide : Int32.toInt 5 = 5) h_72
    refine lv_aload_n hx hb dX11_count_126 rfl (lv_at hl 0 rfl) ?_
    obtain ⟨x_74, k_73⟩ := op_11 hI i_h0
    refine k_get (ci := 11) (v := .ref (gr g h0 3)) (C := RX11) (T := TX11) (N := 12) hx hb hts (fun _ h0_ => List.mem_cons_of_mem _ (List.mem_append_right _ (List.mem_append_left _ h0_))) hown hK hI i_h0.1 k_73 rfl 3 (by decide) (hts (.fieldLink RX11 37 "DeadlineShare" "now" "LDeadlineShare$State;") (List.mem_cons_of_mem _ (List.mem_append_left _ (List.mem_of_getElem? (i := 0) rfl)))) (fun _ h9 => h9) rfl dX11_count_127 ?_
    have i_76 := kw_11_3 hG i_h0
    obtain ⟨x_78, x_79, x_80, x_81, x_82, k_77, b_83, b_84⟩ := op_6 hI i_76
    refine k_get (ci := 6) (v := .int x_79) (C := RX6) (T := TX6) (N := 10) hx hb hts (fun _ h0_ => List.mem_cons_of_mem _ (List.mem_append_right _ (List.mem_append_right _ (List.mem_append_left _ h0_)))) hown hK hI i_76.1 k_77 rfl 6 (by decide) (hts (.fieldLink RX11 223 "DeadlineShare$State" "time" "I") (List.mem_cons_of_mem _ (List.mem_append_left _ (List.mem_of_getElem? (i := 10) rfl)))) (fun _ h9 => h9) rfl dX11_count_130 ?_
    refine lv_aload_n hx hb dX11_count_133 rfl (lv_at hl 0 rfl) ?_
    refine k_get (ci := 11) (v := .ref (gr g h0 3)) (C := RX11) (T := TX11) (N := 12) hx hb hts (fun _ h0_ => List.mem_cons_of_mem _ (List.mem_append_right _ (List.mem_append_left _ h0_))) hown hK hI i_h0.1 k_73 rfl 3 (by decide) (hts (.fieldLink RX11 37 "DeadlineShare" "now" "LDeadlineShare$State;") (List.mem_cons_of_mem _ (List.mem_append_left _ (List.mem_of_getElem? (i := 0) rfl)))) (fun _ h9 => h9) rfl dX11_count_134 ?_
    refine va_calli (va_runV (As := []) (rest := [.int x_79]) ⟨hx, hb, hml, hown, hts⟩ (c_X6_firstInLog l dC dI g A hG f (gr g h0 3) i_76) (cwV 0 hts (gi_V (fun w_ h0_ => ⟨List.mem_cons_of_mem _ (List.mem_append_right _ (List.mem_append_right _ (List.mem_append_right _ (List.mem_append_right _ (List.mem_append_right _ (List.mem_append_left _ h0_)))))), (tb_c_X6_firstInLog w_ h0_).2⟩) (List.mem_cons_of_mem _ (List.mem_append_left _ (List.mem_of_getElem? (i := 11) rfl))) (List.mem_cons_of_mem _ (List.mem_append_left _ (List.mem_of_getElem? (i := 12) rfl))) (List.mem_cons_of_mem _ (List.mem_append_left _ (List.mem_of_getElem? (i := 13) rfl))) (List.mem_cons_of_mem _ (List.mem_append_left _ (List.mem_of_getElem? (i := 5) rfl)))) rfl rfl rfl (by decide +kernel) ⟨Nat.le_of_ble_eq_true rfl, Nat.le_of_ble_eq_true rfl⟩) ⟨fun a U g mk q => ⟨q.1, q.2.calling rfl rfl⟩, k_recv hK hI i_76.1 k_77 (ci := 6) rfl, fun U hU hW => ⟨rfl, kIn.of hI hK hE hS hU hW⟩⟩ rfl rfl hl.1 rfl (lv_room (Nat.le_of_ble_eq_true rfl)) dX11_count_137 ⟨Nat.le_of_ble_eq_true rfl, Nat.le_of_ble_eq_true rfl⟩) hS (fun q _ h => h) (fun q h => h) (fun r_88 u t H1 locs ht hvm w_87 hB hz1 hk1 hS => ?_)
    have hI : Iv dC dI g A f t.heap := hB
    rw [ht] at hI
    generalize H1 = H at hI hS ⊢
    refine W.widen (k := 0) (n := 0) (Nat.le_of_ble_eq_true rfl) (Nat.le_of_ble_eq_true rfl) ?_
    refine lv_isub hx hb dX11_count_140 ?_
    refine lv_topi (fun v_89 ev_89 => ?_)
    have tv_89 := k_sb x_79 r_88
    rw [← ev_89] at tv_89
    exact W.iret (v := v_89) hx hb hr (fun t ht hW => ⟨⟨v_89, (), rfl, trivial, k_ret ht hI⟩, hS.F ht⟩) hS.2.2 dX11_count_141
  by_cases h_90 : p1 = 6
  · refine k_topi (y := 6) h_90 ?_
    refine lv_tableIn (tgt := 142) hx hb dX11_count_1 (by decide) (by decide) rfl (by decide) ?_
    have h_90 := kc_eq rfl (by decide : Int32.toInt 6 = 6) h_90
    refine lv_aload_n hx hb dX11_count_142 rfl (lv_at hl 0 rfl) ?_
    obtain ⟨x_92, k_91⟩ := op_11 hI i_h0
    refine k_get (ci := 11) (v := .ref (gr g h0 9)) (C := RX11) (T := TX11) (N := 12) hx hb hts (fun _ h0_ => List.mem_cons_of_mem _ (List.mem_append_right _ (List.mem_append_left _ h0_))) hown hK hI i_h0.1 k_91 rfl 9 (by decide) (hts (.fieldLink RX11 65 "DeadlineShare" "history" "LDeadlineShare$History;") (List.mem_cons_of_mem _ (List.mem_append_left _ (List.mem_of_getElem? (i := 14) rfl)))) (fun _ h9 => h9) rfl dX11_count_143 ?_
    have i_94 := kw_11_9 hG i_h0
    obtain ⟨x_96, x_97, k_95⟩ := op_1 hI i_94
    refine k_get (ci := 1) (v := .int x_97) (C := RX1) (T := TX1) (N := 4) hx hb hts (fun _ h0_ => List.mem_cons_of_mem _ (List.mem_append_right _ (List.mem_append_right _ (List.mem_append_right _ (List.mem_append_right _ (List.mem_append_right _ (List.mem_append_right _ (List.mem_append_left _ h0_)))))))) hown hK hI i_94.1 k_95 rfl 3 (by decide) (hts (.fieldLink RX11 230 "DeadlineShare$History" "size" "I") (List.mem_cons_of_mem _ (List.mem_append_left _ (List.mem_of_getElem? (i := 15) rfl)))) (fun _ h9 => h9) rfl dX11_count_146 ?_
    exact W.iret (v := x_97) hx hb hr (fun t ht hW => ⟨⟨x_97, (), rfl, trivial, k_ret ht hI⟩, hS.F ht⟩) hS.2.2 dX11_count_149
  by_cases h_98 : p1 = 7
  · refine k_topi (y := 7) h_98 ?_
    refine lv_tableIn (tgt := 150) hx hb dX11_count_1 (by decide) (by decide) rfl (by decide) ?_
    have h_98 := kc_eq rfl (by decide : Int32.toInt 7 = 7) h_98
    refine lv_aload_n hx hb dX11_count_150 rfl (lv_at hl 0 rfl) ?_
    obtain ⟨x_100, k_99⟩ := op_11 hI i_h0
    refine k_get (ci := 11) (v := .ref (gr g h0 1)) (C := RX11) (T := TX11) (N := 12) hx hb hts (fun _ h0_ => List.mem_cons_of_mem _ (List.mem_append_right _ (List.mem_append_left _ h0_))) hown hK hI i_h0.1 k_99 rfl 1 (by decide) (hts (.fieldLink RX11 21 "DeadlineShare" "tape" "LDeadlineShare$Tape;") (List.mem_cons_of_mem _ (List.mem_append_left _ (List.mem_of_getElem? (i := 16) rfl)))) (fun _ h9 => h9) rfl dX11_count_151 ?_
    have i_102 := kw_11_1 hG i_h0
    obtain ⟨x_104, k_103⟩ := op_7 hI i_102
    refine k_get (ci := 7) (v := .int x_104) (C := RX7) (T := TX7) (N := 2) hx hb hts (fun _ h0_ => List.mem_cons_of_mem _ (List.mem_append_right _ (List.mem_append_right _ (List.mem_append_right _ (List.mem_append_right _ (List.mem_append_right _ (List.mem_append_right _ (List.mem_append_right _ (List.mem_append_left _ h0_))))))))) hown hK hI i_102.1 k_103 rfl 1 (by decide) (hts (.fieldLink RX11 106 "DeadlineShare$Tape" "length" "I") (List.mem_cons_of_mem _ (List.mem_append_left _ (List.mem_of_getElem? (i := 17) rfl)))) (fun _ h9 => h9) rfl dX11_count_154 ?_
    exact W.iret (v := x_104) hx hb hr (fun t ht hW => ⟨⟨x_104, (), rfl, trivial, k_ret ht hI⟩, hS.F ht⟩) hS.2.2 dX11_count_157
  by_cases h_105 : p1 = 8
  · refine k_topi (y := 8) h_105 ?_
    refine lv_tableIn (tgt := 158) hx hb dX11_count_1 (by decide) (by decide) rfl (by decide) ?_
    have h_105 := kc_eq rfl (by decide : Int32.toInt 8 = 8) h_105
    refine lv_aload_n hx hb dX11_count_158 rfl (lv_at hl 0 rfl) ?_
    obtain ⟨x_107, k_106⟩ := op_11 hI i_h0
    refine k_get (ci := 11) (v := .ref (gr g h0 10)) (C := RX11) (T := TX11) (N := 12) hx hb hts (fun _ h0_ => List.mem_cons_of_mem _ (List.mem_append_right _ (List.mem_append_left _ h0_))) hown hK hI i_h0.1 k_106 rfl 10 (by decide) (hts (.fieldLink RX11 72 "DeadlineShare" "refusals" "LDeadlineShare$Refusals;") (List.mem_cons_of_mem _ (List.mem_append_left _ (List.mem_of_getElem? (i := 18) rfl)))) (fun _ h9 => h9) rfl dX11_count_159 ?_
    have i_109 := kw_11_10 hG i_h0
    refine lv_iconst (v := (-1)) hx hb dX11_count_162 (by decide) ?_
    obtain ⟨x_111, k_110⟩ := op_4 hI i_109
    refine va_calli (va_runV (As := [.int (-1)]) (rest := []) ⟨hx, hb, hml, hown, hts⟩ (c_X4_countOf l dC dI g A hG f (gr g h0 10) (-1) i_109) (cwV 1 hts (gi_V (fun w_ h0_ => ⟨List.mem_cons_of_mem _ (List.mem_append_right _ (List.mem_append_right _ (List.mem_append_right _ (List.mem_append_right _ (List.mem_append_right _ (List.mem_append_right _ (List.mem_append_right _ (List.mem_append_right _ (List.mem_append_left _ h0_))))))))), (tb_c_X4_countOf w_ h0_).2⟩) (List.mem_cons_of_mem _ (List.mem_append_left _ (List.mem_of_getElem? (i := 19) rfl))) (List.mem_cons_of_mem _ (List.mem_append_left _ (List.mem_of_getElem? (i := 20) rfl))) (List.mem_cons_of_mem _ (List.mem_append_left _ (List.mem_of_getElem? (i := 21) rfl))) (List.mem_cons_of_mem _ (List.mem_append_left _ (List.mem_of_getElem? (i := 22) rfl)))) rfl rfl rfl (by decide +kernel) ⟨Nat.le_of_ble_eq_true rfl, Nat.le_of_ble_eq_true rfl⟩) ⟨fun a U g mk q => ⟨q.1, q.2.calling rfl rfl⟩, k_recv hK hI i_109.1 k_110 (ci := 4) rfl, fun U hU hW => ⟨rfl, kIn.of hI hK hE hS hU hW⟩⟩ rfl rfl hl.1 rfl (lv_room (Nat.le_of_ble_eq_true rfl)) dX11_count_163 ⟨Nat.le_of_ble_eq_true rfl, Nat.le_of_ble_eq_true rfl⟩) hS (fun q _ h => h) (fun q h => h) (fun r_113 u t H1 locs ht hvm w_112 hB hz1 hk1 hS => ?_)
    have hI : Iv dC dI g A f t.heap := hB
    rw [ht] at hI
    generalize H1 = H at hI hS ⊢
    refine W.widen (k := 0) (n := 0) (Nat.le_of_ble_eq_true rfl) (Nat.le_of_ble_eq_true rfl) ?_
    exact W.iret (v := r_113) hx hb hr (fun t ht hW => ⟨⟨r_113, (), rfl, trivial, k_ret ht hI⟩, hS.F ht⟩) hS.2.2 dX11_count_166
  by_cases h_114 : p1 = 9
  · refine k_topi (y := 9) h_114 ?_
    refine lv_tableIn (tgt := 167) hx hb dX11_count_1 (by decide) (by decide) rfl (by decide) ?_
    have h_114 := kc_eq rfl (by decide : Int32.toInt 9 = 9) h_114
    refine lv_aload_n hx hb dX11_count_167 rfl (lv_at hl 0 rfl) ?_
    obtain ⟨x_116, k_115⟩ := op_11 hI i_h0
    refine k_get (ci := 11) (v := .ref (gr g h0 10)) (C := RX11) (T := TX11) (N := 12) hx hb hts (fun _ h0_ => List.mem_cons_of_mem _ (List.mem_append_right _ (List.mem_append_left _ h0_))) hown hK hI i_h0.1 k_115 rfl 10 (by decide) (hts (.fieldLink RX11 72 "DeadlineShare" "refusals" "LDeadlineShare$Refusals;") (List.mem_cons_of_mem _ (List.mem_append_left _ (List.mem_of_getElem? (i := 18) rfl)))) (fun _ h9 => h9) rfl dX11_count_168 ?_
    have i_118 := kw_11_10 hG i_h0
    refine lv_bipush (v := (-2)) hx hb dX11_count_171 (by decide) ?_
    obtain ⟨x_120, k_119⟩ := op_4 hI i_118
    refine va_calli (va_runV (As := [.int (-2)]) (rest := []) ⟨hx, hb, hml, hown, hts⟩ (c_X4_countOf l dC dI g A hG f (gr g h0 10) (-2) i_118) (cwV 1 hts (gi_V (fun w_ h0_ => ⟨List.mem_cons_of_mem _ (List.mem_append_right _ (List.mem_append_right _ (List.mem_append_right _ (List.mem_append_right _ (List.mem_append_right _ (List.mem_append_right _ (List.mem_append_right _ (List.mem_append_right _ (List.mem_append_left _ h0_))))))))), (tb_c_X4_countOf w_ h0_).2⟩) (List.mem_cons_of_mem _ (List.mem_append_left _ (List.mem_of_getElem? (i := 19) rfl))) (List.mem_cons_of_mem _ (List.mem_append_left _ (List.mem_of_getElem? (i := 20) rfl))) (List.mem_cons_of_mem _ (List.mem_append_left _ (List.mem_of_getElem? (i := 21) rfl))) (List.mem_cons_of_mem _ (List.mem_append_left _ (List.mem_of_getElem? (i := 22) rfl)))) rfl rfl rfl (by decide +kernel) ⟨Nat.le_of_ble_eq_true rfl, Nat.le_of_ble_eq_true rfl⟩) ⟨fun a U g mk q => ⟨q.1, q.2.calling rfl rfl⟩, k_recv hK hI i_118.1 k_119 (ci := 4) rfl, fun U hU hW => ⟨rfl, kIn.of hI hK hE hS hU hW⟩⟩ rfl rfl hl.1 rfl (lv_room (Nat.le_of_ble_eq_true rfl)) dX11_count_173 ⟨Nat.le_of_ble_eq_true rfl, Nat.le_of_ble_eq_true rfl⟩) hS (fun q _ h => h) (fun q h => h) (fun r_122 u t H1 locs ht hvm w_121 hB hz1 hk1 hS => ?_)
    have hI : Iv dC dI g A f t.heap := hB
    rw [ht] at hI
    generalize H1 = H at hI hS ⊢
    refine W.widen (k := 0) (n := 0) (Nat.le_of_ble_eq_true rfl) (Nat.le_of_ble_eq_true rfl) ?_
    exact W.iret (v := r_122) hx hb hr (fun t ht hW => ⟨⟨r_122, (), rfl, trivial, k_ret ht hI⟩, hS.F ht⟩) hS.2.2 dX11_count_176
  by_cases h_123 : p1 = 10
  · refine k_topi (y := 10) h_123 ?_
    refine lv_tableIn (tgt := 177) hx hb dX11_count_1 (by decide) (by decide) rfl (by decide) ?_
    have h_123 := kc_eq rfl (by decide : Int32.toInt 10 = 10) h_123
    refine lv_aload_n hx hb dX11_count_177 rfl (lv_at hl 0 rfl) ?_
    obtain ⟨x_125, k_124⟩ := op_11 hI i_h0
    refine k_get (ci := 11) (v := .ref (gr g h0 10)) (C := RX11) (T := TX11) (N := 12) hx hb hts (fun _ h0_ => List.mem_cons_of_mem _ (List.mem_append_right _ (List.mem_append_left _ h0_))) hown hK hI i_h0.1 k_124 rfl 10 (by decide) (hts (.fieldLink RX11 72 "DeadlineShare" "refusals" "LDeadlineShare$Refusals;") (List.mem_cons_of_mem _ (List.mem_append_left _ (List.mem_of_getElem? (i := 18) rfl)))) (fun _ h9 => h9) rfl dX11_count_178 ?_
    have i_127 := kw_11_10 hG i_h0
    refine lv_bipush (v := (-4)) hx hb dX11_count_181 (by decide) ?_
    obtain ⟨x_129, k_128⟩ := op_4 hI i_127
    refine va_calli (va_runV (As := [.int (-4)]) (rest := []) ⟨hx, hb, hml, hown, hts⟩ (c_X4_countOf l dC dI g A hG f (gr g h0 10) (-4) i_127) (cwV 1 hts (gi_V (fun w_ h0_ => ⟨List.mem_cons_of_mem _ (List.mem_append_right _ (List.mem_append_right _ (List.mem_append_right _ (List.mem_append_right _ (List.mem_append_right _ (List.mem_append_right _ (List.mem_append_right _ (List.mem_append_right _ (List.mem_append_left _ h0_))))))))), (tb_c_X4_countOf w_ h0_).2⟩) (List.mem_cons_of_mem _ (List.mem_append_left _ (List.mem_of_getElem? (i := 19) rfl))) (List.mem_cons_of_mem _ (List.mem_append_left _ (List.mem_of_getElem? (i := 20) rfl))) (List.mem_cons_of_mem _ (List.mem_append_left _ (List.mem_of_getElem? (i := 21) rfl))) (List.mem_cons_of_mem _ (List.mem_append_left _ (List.mem_of_getElem? (i := 22) rfl)))) rfl rfl rfl (by decide +kernel) ⟨Nat.le_of_ble_eq_true rfl, Nat.le_of_ble_eq_true rfl⟩) ⟨fun a U g mk q => ⟨q.1, q.2.calling rfl rfl⟩, k_recv hK hI i_127.1 k_128 (ci := 4) rfl, fun U hU hW => ⟨rfl, kIn.of hI hK hE hS hU hW⟩⟩ rfl rfl hl.1 rfl (lv_room (Nat.le_of_ble_eq_true rfl)) dX11_count_183 ⟨Nat.le_of_ble_eq_true rfl, Nat.le_of_ble_eq_true rfl⟩) hS (fun q _ h => h) (fun q h => h) (fun r_131 u t H1 locs ht hvm w_130 hB hz1 hk1 hS => ?_)
    have hI : Iv dC dI g A f t.heap := hB
    rw [ht] at hI
    generalize H1 = H at hI hS ⊢
    refine W.widen (k := 0) (n := 0) (Nat.le_of_ble_eq_true rfl) (Nat.le_of_ble_eq_true rfl) ?_
    exact W.iret (v := r_131) hx hb hr (fun t ht hW => ⟨⟨r_131, (), rfl, trivial, k_ret ht hI⟩, hS.F ht⟩) hS.2.2 dX11_count_186
  by_cases h_132 : p1 = 11
  · refine k_topi (y := 11) h_132 ?_
    refine lv_tableIn (tgt := 187) hx hb dX11_count_1 (by decide) (by decide) rfl (by decide) ?_
    have h_132 := kc_eq rfl (by decide : Int32.toInt 11 = 11) h_132
    refine lv_aload_n hx hb dX11_count_187 rfl (lv_at hl 0 rfl) ?_
    obtain ⟨x_134, k_133⟩ := op_11 hI i_h0
    refine k_get (ci := 11) (v := .ref (gr g h0 10)) (C := RX11) (T := TX11) (N := 12) hx hb hts (fun _ h0_ => List.mem_cons_of_mem _ (List.mem_append_right _ (List.mem_append_left _ h0_))) hown hK hI i_h0.1 k_133 rfl 10 (by decide) (hts (.fieldLink RX11 72 "DeadlineShare" "refusals" "LDeadlineShare$Refusals;") (List.mem_cons_of_mem _ (List.mem_append_left _ (List.mem_of_getElem? (i := 18) rfl)))) (fun _ h9 => h9) rfl dX11_count_188 ?_
    have i_136 := kw_11_10 hG i_h0
    refine lv_bipush (v := (-5)) hx hb dX11_count_191 (by decide) ?_
    obtain ⟨x_138, k_137⟩ := op_4 hI i_136
    refine va_calli (va_runV (As := [.int (-5)]) (rest := []) ⟨hx, hb, hml, hown, hts⟩ (c_X4_countOf l dC dI g A hG f (gr g h0 10) (-5) i_136) (cwV 1 hts (gi_V (fun w_ h0_ => ⟨List.mem_cons_of_mem _ (List.mem_append_right _ (List.mem_append_right _ (List.mem_append_right _ (List.mem_append_right _ (List.mem_append_right _ (List.mem_append_right _ (List.mem_append_right _ (List.mem_append_right _ (List.mem_append_left _ h0_))))))))), (tb_c_X4_countOf w_ h0_).2⟩) (List.mem_cons_of_mem _ (List.mem_append_left _ (List.mem_of_getElem? (i := 19) rfl))) (List.mem_cons_of_mem _ (List.mem_append_left _ (List.mem_of_getElem? (i := 20) rfl))) (List.mem_cons_of_mem _ (List.mem_append_left _ (List.mem_of_getElem? (i := 21) rfl))) (List.mem_cons_of_mem _ (List.mem_append_left _ (List.mem_of_getElem? (i := 22) rfl)))) rfl rfl rfl (by decide +kernel) ⟨Nat.le_of_ble_eq_true rfl, Nat.le_of_ble_eq_true rfl⟩) ⟨fun a U g mk q => ⟨q.1, q.2.calling rfl rfl⟩, k_recv hK hI i_136.1 k_137 (ci := 4) rfl, fun U hU hW => ⟨rfl, kIn.of hI hK hE hS hU hW⟩⟩ rfl rfl hl.1 rfl (lv_room (Nat.le_of_ble_eq_true rfl)) dX11_count_193 ⟨Nat.le_of_ble_eq_true rfl, Nat.le_of_ble_eq_true rfl⟩) hS (fun q _ h => h) (fun q h => h) (fun r_140 u t H1 locs ht hvm w_139 hB hz1 hk1 hS => ?_)
    have hI : Iv dC dI g A f t.heap := hB
    rw [ht] at hI
    generalize H1 = H at hI hS ⊢
    refine W.widen (k := 0) (n := 0) (Nat.le_of_ble_eq_true rfl) (Nat.le_of_ble_eq_true rfl) ?_
    exact W.iret (v := r_140) hx hb hr (fun t ht hW => ⟨⟨r_140, (), rfl, trivial, k_ret ht hI⟩, hS.F ht⟩) hS.2.2 dX11_count_196
  by_cases h_141 : p1 = 12
  · refine k_topi (y := 12) h_141 ?_
    refine lv_tableIn (tgt := 197) hx hb dX11_count_1 (by decide) (by decide) rfl (by decide) ?_
    have h_141 := kc_eq rfl (by decide : Int32.toInt 12 = 12) h_141
    refine lv_aload_n hx hb dX11_count_197 rfl (lv_at hl 0 rfl) ?_
    obtain ⟨x_143, k_142⟩ := op_11 hI i_h0
    refine k_get (ci := 11) (v := .ref (gr g h0 10)) (C := RX11) (T := TX11) (N := 12) hx hb hts (fun _ h0_ => List.mem_cons_of_mem _ (List.mem_append_right _ (List.mem_append_left _ h0_))) hown hK hI i_h0.1 k_142 rfl 10 (by decide) (hts (.fieldLink RX11 72 "DeadlineShare" "refusals" "LDeadlineShare$Refusals;") (List.mem_cons_of_mem _ (List.mem_append_left _ (List.mem_of_getElem? (i := 18) rfl)))) (fun _ h9 => h9) rfl dX11_count_198 ?_
    have i_145 := kw_11_10 hG i_h0
    refine lv_bipush (v := (-6)) hx hb dX11_count_201 (by decide) ?_
    obtain ⟨x_147, k_146⟩ := op_4 hI i_145
    refine va_calli (va_runV (As := [.int (-6)]) (rest := []) ⟨hx, hb, hml, hown, hts⟩ (c_X4_countOf l dC dI g A hG f (gr g h0 10) (-6) i_145) (cwV 1 hts (gi_V (fun w_ h0_ => ⟨List.mem_cons_of_mem _ (List.mem_append_right _ (List.mem_append_right _ (List.mem_append_right _ (List.mem_append_right _ (List.mem_append_right _ (List.mem_append_right _ (List.mem_append_right _ (List.mem_append_right _ (List.mem_append_left _ h0_))))))))), (tb_c_X4_countOf w_ h0_).2⟩) (List.mem_cons_of_mem _ (List.mem_append_left _ (List.mem_of_getElem? (i := 19) rfl))) (List.mem_cons_of_mem _ (List.mem_append_left _ (List.mem_of_getElem? (i := 20) rfl))) (List.mem_cons_of_mem _ (List.mem_append_left _ (List.mem_of_getElem? (i := 21) rfl))) (List.mem_cons_of_mem _ (List.mem_append_left _ (List.mem_of_getElem? (i := 22) rfl)))) rfl rfl rfl (by decide +kernel) ⟨Nat.le_of_ble_eq_true rfl, Nat.le_of_ble_eq_true rfl⟩) ⟨fun a U g mk q => ⟨q.1, q.2.calling rfl rfl⟩, k_recv hK hI i_145.1 k_146 (ci := 4) rfl, fun U hU hW => ⟨rfl, kIn.of hI hK hE hS hU hW⟩⟩ rfl rfl hl.1 rfl (lv_room (Nat.le_of_ble_eq_true rfl)) dX11_count_203 ⟨Nat.le_of_ble_eq_true rfl, Nat.le_of_ble_eq_true rfl⟩) hS (fun q _ h => h) (fun q h => h) (fun r_149 u t H1 locs ht hvm w_148 hB hz1 hk1 hS => ?_)
    have hI : Iv dC dI g A f t.heap := hB
    rw [ht] at hI
    generalize H1 = H at hI hS ⊢
    refine W.widen (k := 0) (n := 0) (Nat.le_of_ble_eq_true rfl) (Nat.le_of_ble_eq_true rfl) ?_
    exact W.iret (v := r_149) hx hb hr (fun t ht hW => ⟨⟨r_149, (), rfl, trivial, k_ret ht hI⟩, hS.F ht⟩) hS.2.2 dX11_count_206
  by_cases h_150 : p1 = 13
  · refine k_topi (y := 13) h_150 ?_
    refine lv_tableIn (tgt := 207) hx hb dX11_count_1 (by decide) (by decide) rfl (by decide) ?_
    have h_150 := kc_eq rfl (by decide : Int32.toInt 13 = 13) h_150
    refine lv_aload_n hx hb dX11_count_207 rfl (lv_at hl 0 rfl) ?_
    obtain ⟨x_152, k_151⟩ := op_11 hI i_h0
    refine k_get (ci := 11) (v := .ref (gr g h0 0)) (C := RX11) (T := TX11) (N := 12) hx hb hts (fun _ h0_ => List.mem_cons_of_mem _ (List.mem_append_right _ (List.mem_append_left _ h0_))) hown hK hI i_h0.1 k_151 rfl 0 (by decide) (hts (.fieldLink RX11 12 "DeadlineShare" "terms" "LDeadlineShare$Terms;") (List.mem_cons_of_mem _ (List.mem_append_left _ (List.mem_of_getElem? (i := 23) rfl)))) (fun _ h9 => h9) rfl dX11_count_208 ?_
    have i_154 := kw_11_0 hG i_h0
    obtain ⟨x_156, x_157, x_158, k_155⟩ := op_9 hI i_154
    refine k_get (ci := 9) (v := .int x_156) (C := RX9) (T := TX9) (N := 3) hx hb hts (fun _ h0_ => List.mem_cons_of_mem _ (List.mem_append_right _ (List.mem_append_right _ (List.mem_append_right _ (List.mem_append_right _ (List.mem_append_right _ (List.mem_append_right _ (List.mem_append_right _ (List.mem_append_right _ (List.mem_append_right _ (List.mem_append_left _ h0_))))))))))) hown hK hI i_154.1 k_155 rfl 0 (by decide) (hts (.fieldLink RX11 345 "DeadlineShare$Terms" "mode" "I") (List.mem_cons_of_mem _ (List.mem_append_left _ (List.mem_of_getElem? (i := 24) rfl)))) (fun _ h9 => h9) rfl dX11_count_211 ?_
    exact W.iret (v := x_156) hx hb hr (fun t ht hW => ⟨⟨x_156, (), rfl, trivial, k_ret ht hI⟩, hS.F ht⟩) hS.2.2 dX11_count_214
  by_cases h_159 : p1 = 14
  · refine k_topi (y := 14) h_159 ?_
    refine lv_tableIn (tgt := 215) hx hb dX11_count_1 (by decide) (by decide) rfl (by decide) ?_
    have h_159 := kc_eq rfl (by decide : Int32.toInt 14 = 14) h_159
    refine lv_aload_n hx hb dX11_count_215 rfl (lv_at hl 0 rfl) ?_
    obtain ⟨x_161, k_160⟩ := op_11 hI i_h0
    refine k_get (ci := 11) (v := .ref (gr g h0 0)) (C := RX11) (T := TX11) (N := 12) hx hb hts (fun _ h0_ => List.mem_cons_of_mem _ (List.mem_append_right _ (List.mem_append_left _ h0_))) hown hK hI i_h0.1 k_160 rfl 0 (by decide) (hts (.fieldLink RX11 12 "DeadlineShare" "terms" "LDeadlineShare$Terms;") (List.mem_cons_of_mem _ (List.mem_append_left _ (List.mem_of_getElem? (i := 23) rfl)))) (fun _ h9 => h9) rfl dX11_count_216 ?_
    have i_163 := kw_11_0 hG i_h0
    obtain ⟨x_165, x_166, x_167, k_164⟩ := op_9 hI i_163
    refine k_get (ci := 9) (v := .int x_166) (C := RX9) (T := TX9) (N := 3) hx hb hts (fun _ h0_ => List.mem_cons_of_mem _ (List.mem_append_right _ (List.mem_append_right _ (List.mem_append_right _ (List.mem_append_right _ (List.mem_append_right _ (List.mem_append_right _ (List.mem_append_right _ (List.mem_append_right _ (List.mem_append_right _ (List.mem_append_left _ h0_))))))))))) hown hK hI i_163.1 k_164 rfl 1 (by decide) (hts (.fieldLink RX11 348 "DeadlineShare$Terms" "carry" "I") (List.mem_cons_of_mem _ (List.mem_append_left _ (List.mem_of_getElem? (i := 25) rfl)))) (fun _ h9 => h9) rfl dX11_count_219 ?_
    exact W.iret (v := x_166) hx hb hr (fun t ht hW => ⟨⟨x_166, (), rfl, trivial, k_ret ht hI⟩, hS.F ht⟩) hS.2.2 dX11_count_222
  by_cases h_168 : p1 = 15
  · refine k_topi (y := 15) h_168 ?_
    refine lv_tableIn (tgt := 223) hx hb dX11_count_1 (by decide) (by decide) rfl (by decide) ?_
    have h_168 := kc_eq rfl (by decide : Int32.toInt 15 = 15) h_168
    refine lv_aload_n hx hb dX11_count_223 rfl (lv_at hl 0 rfl) ?_
    obtain ⟨x_170, k_169⟩ := op_11 hI i_h0
    refine k_get (ci := 11) (v := .ref (gr g h0 0)) (C := RX11) (T := TX11) (N := 12) hx hb hts (fun _ h0_ => List.mem_cons_of_mem _ (List.mem_append_right _ (List.mem_append_left _ h0_))) hown hK hI i_h0.1 k_169 rfl 0 (by decide) (hts (.fieldLink RX11 12 "DeadlineShare" "terms" "LDeadlineShare$Terms;") (List.mem_cons_of_mem _ (List.mem_append_left _ (List.mem_of_getElem? (i := 23) rfl)))) (fun _ h9 => h9) rfl dX11_count_224 ?_
    have i_172 := kw_11_0 hG i_h0
    obtain ⟨x_174, x_175, x_176, k_173⟩ := op_9 hI i_172
    refine k_get (ci := 9) (v := .int x_176) (C := RX9) (T := TX9) (N := 3) hx hb hts (fun _ h0_ => List.mem_cons_of_mem _ (List.mem_append_right _ (List.mem_append_right _ (List.mem_append_right _ (List.mem_append_right _ (List.mem_append_right _ (List.mem_append_right _ (List.mem_append_right _ (List.mem_append_right _ (List.mem_append_right _ (List.mem_append_left _ h0_))))))))))) hown hK hI i_172.1 k_173 rfl 2 (by decide) (hts (.fieldLink RX11 351 "DeadlineShare$Terms" "seed" "I") (List.mem_cons_of_mem _ (List.mem_append_left _ (List.mem_of_getElem? (i := 26) rfl)))) (fun _ h9 => h9) rfl dX11_count_227 ?_
    exact W.iret (v := x_176) hx hb hr (fun t ht hW => ⟨⟨x_176, (), rfl, trivial, k_ret ht hI⟩, hS.F ht⟩) hS.2.2 dX11_count_230
  by_cases h_177 : p1 = 16
  · refine k_topi (y := 16) h_177 ?_
    refine lv_tableIn (tgt := 231) hx hb dX11_count_1 (by decide) (by decide) rfl (by decide) ?_
    have h_177 := kc_eq rfl (by decide : Int32.toInt 16 = 16) h_177
    refine lv_aload_n hx hb dX11_count_231 rfl (lv_at hl 0 rfl) ?_
    obtain ⟨x_179, k_178⟩ := op_11 hI i_h0
    refine k_get (ci := 11) (v := .ref (gr g h0 3)) (C := RX11) (T := TX11) (N := 12) hx hb hts (fun _ h0_ => List.mem_cons_of_mem _ (List.mem_append_right _ (List.mem_append_left _ h0_))) hown hK hI i_h0.1 k_178 rfl 3 (by decide) (hts (.fieldLink RX11 37 "DeadlineShare" "now" "LDeadlineShare$State;") (List.mem_cons_of_mem _ (List.mem_append_left _ (List.mem_of_getElem? (i := 0) rfl)))) (fun _ h9 => h9) rfl dX11_count_232 ?_
    have i_181 := kw_11_3 hG i_h0
    refine lv_iconst (v := 3) hx hb dX11_count_235 (by decide) ?_
    obtain ⟨x_183, x_184, x_185, x_186, x_187, k_182, b_188, b_189⟩ := op_6 hI i_181
    refine va_calli (va_runV (As := [.int 3]) (rest := []) ⟨hx, hb, hml, hown, hts⟩ (c_X6_howManyAre l dC dI g A hG f (gr g h0 3) 3 i_181) (cwV 1 hts (gi_V (fun w_ h0_ => ⟨List.mem_cons_of_mem _ (List.mem_append_right _ (List.mem_append_right _ (List.mem_append_right _ (List.mem_append_left _ h0_)))), (tb_c_X6_howManyAre w_ h0_).2⟩) (List.mem_cons_of_mem _ (List.mem_append_left _ (List.mem_of_getElem? (i := 2) rfl))) (List.mem_cons_of_mem _ (List.mem_append_left _ (List.mem_of_getElem? (i := 3) rfl))) (List.mem_cons_of_mem _ (List.mem_append_left _ (List.mem_of_getElem? (i := 4) rfl))) (List.mem_cons_of_mem _ (List.mem_append_left _ (List.mem_of_getElem? (i := 5) rfl)))) rfl rfl rfl (by decide +kernel) ⟨Nat.le_of_ble_eq_true rfl, Nat.le_of_ble_eq_true rfl⟩) ⟨fun a U g mk q => ⟨q.1, q.2.calling rfl rfl⟩, k_recv hK hI i_181.1 k_182 (ci := 6) rfl, fun U hU hW => ⟨rfl, kIn.of hI hK hE hS hU hW⟩⟩ rfl rfl hl.1 rfl (lv_room (Nat.le_of_ble_eq_true rfl)) dX11_count_236 ⟨Nat.le_of_ble_eq_true rfl, Nat.le_of_ble_eq_true rfl⟩) hS (fun q _ h => h) (fun q h => h) (fun r_191 u t H1 locs ht hvm w_190 hB hz1 hk1 hS => ?_)
    have hI : Iv dC dI g A f t.heap := hB
    rw [ht] at hI
    generalize H1 = H at hI hS ⊢
    refine W.widen (k := 0) (n := 0) (Nat.le_of_ble_eq_true rfl) (Nat.le_of_ble_eq_true rfl) ?_
    exact W.iret (v := r_191) hx hb hr (fun t ht hW => ⟨⟨r_191, (), rfl, trivial, k_ret ht hI⟩, hS.F ht⟩) hS.2.2 dX11_count_239
  have h_1 := kn_eq rfl (by decide : Int32.toInt 0 = 0) h_1
  have h_14 := kn_eq rfl (by decide : Int32.toInt 1 = 1) h_14
  have h_29 := kn_eq rfl (by decide : Int32.toInt 2 = 2) h_29
  have h_44 := kn_eq rfl (by decide : Int32.toInt 3 = 3) h_44
  have h_59 := kn_eq rfl (by decide : Int32.toInt 4 = 4) h_59
  have h_72 := kn_eq rfl (by decide : Int32.toInt 5 = 5) h_72
  have h_90 := kn_eq rfl (by decide : Int32.toInt 6 = 6) h_90
  have h_98 := kn_eq rfl (by decide : Int32.toInt 7 = 7) h_98
  have h_105 := kn_eq rfl (by decide : Int32.toInt 8 = 8) h_105
  have h_114 := kn_eq rfl (by decide : Int32.toInt 9 = 9) h_114
  have h_123 := kn_eq rfl (by decide : Int32.toInt 10 = 10) h_123
  have h_132 := kn_eq rfl (by decide : Int32.toInt 11 = 11) h_132
  have h_141 := kn_eq rfl (by decide : Int32.toInt 12 = 12) h_141
  have h_150 := kn_eq rfl (by decide : Int32.toInt 13 = 13) h_150
  have h_159 := kn_eq rfl (by decide : Int32.toInt 14 = 14) h_159
  have h_168 := kn_eq rfl (by decide : Int32.toInt 15 = 15) h_168
  have h_177 := kn_eq rfl (by decide : Int32.toInt 16 = 16) h_177
  refine lv_tableOut (tgt := 240) hx hb dX11_count_1 (by omega) (by decide) ?_
  refine lv_iconst (v := (-1)) hx hb dX11_count_240 (by decide) ?_
  exact W.iret (v := (-1)) hx hb hr (fun t ht hW => ⟨⟨(-1), (), rfl, trivial, k_ret ht hI⟩, hS.F ht⟩) hS.2.2 dX11_count_241
theorem tw_626 : q_g (.fieldLink RX11 354 "DeadlineShare$Refusals" "latest" "I") := ⟨(List.mem_append_right _ (List.mem_of_getElem? (i := 314) (by decide +kernel))), good_of_word (by decide +kernel)⟩
theorem tw_627 : q_g (.code yX11_status cX11_status 1 (some .int)) := ⟨(List.mem_append_right _ (List.mem_of_getElem? (i := 1084) (by decide +kernel))), good_of_word (by decide +kernel)⟩
def ow_c_X11_status : List Cond := [.fieldLink RX11 72 "DeadlineShare" "refusals" "LDeadlineShare$Refusals;", .fieldLink RX11 354 "DeadlineShare$Refusals" "latest" "I"]
def wq_c_X11_status : List Cond := .code yX11_status cX11_status 1 (some .int) :: (ow_c_X11_status ++ (u_ws RX11 TX11 12 ++ (u_ws RX4 TX4 2 ++ ([] : List Cond))))
theorem tb_c_X11_status : ∀ w ∈ wq_c_X11_status, q_g w := by
  unfold wq_c_X11_status ow_c_X11_status
  exact q_cons tw_627 (q_app (q_cons tw_443 (q_cons tw_626 q_nil)) (q_app tu_X11 (q_app tu_X4 q_nil)))
set_option maxHeartbeats 4000000 in
set_option maxRecDepth 100000 in
theorem c_X11_status (l : Launch) (dC : Nat → ClassId) (dI : Nat → Nat → Nat) (g : kG) (A : Nat → Prop) (hG : kWf g) (f : Nat → va_E) (h0 : Nat) (i_h0 : ik g 11 h0) : Met l yX11_status wq_c_X11_status ({ frames := 0, cells := 0, slots := 0, locals := 0 } : Room) (va_Pc [.ref h0] (fun U => kIn dC dI g A f U)) (va_Qi (fun (r : Int32) (_ : Unit) => True) (fun (_ : Unit) t => Iv dC dI g A f t.heap) A) 0 0 A := by
  refine Met.ofW (cc := cX11_status) (maxL := 1) (ret := (some .int)) (by decide) rfl ?_
  intro p e s m args below meth c s₁ B hml hv
  obtain ⟨rfl, hI, hK, hE⟩ := hv
  have hx := B.exec
  have hb := B.bytes
  have hr := B.returns
  have hts := atoms_spec (ws := wq_c_X11_status) B.pre
  have hown : s.vm.findClass RX11 = some m.cls := findClass_of_methodNamed B.named
  have hlocks := B.notSynchronized
  have hS : va_S A s.heap s.heap [] := va_S.rf
  have hl := lv_entry ([.ref h0]) (n := 1) (Nat.le_of_ble_eq_true rfl)
  rw [lg_entry_eq]
  generalize (lg_sl ([.ref h0]) ++ List.replicate (1 - (lg_sl ([.ref h0])).length) Slot.unset).toArray = ls at hl ⊢
  have hl : lv_has ls 1 [(0, .ref h0)] := hl
  refine lv_aload_n hx hb dX11_status_0 rfl (lv_at hl 0 rfl) ?_
  obtain ⟨x_2, k_1⟩ := op_11 hI i_h0
  refine k_get (ci := 11) (v := .ref (gr g h0 10)) (C := RX11) (T := TX11) (N := 12) hx hb hts (fun _ h0_ => List.mem_cons_of_mem _ (List.mem_append_right _ (List.mem_append_left _ h0_))) hown hK hI i_h0.1 k_1 rfl 10 (by decide) (hts (.fieldLink RX11 72 "DeadlineShare" "refusals" "LDeadlineShare$Refusals;") (List.mem_cons_of_mem _ (List.mem_append_left _ (List.mem_of_getElem? (i := 0) rfl)))) (fun _ h9 => h9) rfl dX11_status_1 ?_
  have i_4 := kw_11_10 hG i_h0
  obtain ⟨x_6, k_5⟩ := op_4 hI i_4
  refine k_get (ci := 4) (v := .int x_6) (C := RX4) (T := TX4) (N := 2) hx hb hts (fun _ h0_ => List.mem_cons_of_mem _ (List.mem_append_right _ (List.mem_append_right _ (List.mem_append_left _ h0_)))) hown hK hI i_4.1 k_5 rfl 1 (by decide) (hts (.fieldLink RX11 354 "DeadlineShare$Refusals" "latest" "I") (List.mem_cons_of_mem _ (List.mem_append_left _ (List.mem_of_getElem? (i := 1) rfl)))) (fun _ h9 => h9) rfl dX11_status_4 ?_
  exact W.iret (v := x_6) hx hb hr (fun t ht hW => ⟨⟨x_6, (), rfl, trivial, k_ret ht hI⟩, hS.F ht⟩) hS.2.2 dX11_status_7
