theorem tw_836 : q_g (.selects RX12 yX12_goOn yX12_goOn) := ⟨(List.mem_append_left _ (List.mem_of_getElem? (i := 44) (by decide +kernel))), good_of_word (by decide +kernel)⟩
theorem tw_837 : q_g (.instanceMethod yX12_goOn) := ⟨(List.mem_append_right _ (List.mem_of_getElem? (i := 1367) (by decide +kernel))), good_of_word (by decide +kernel)⟩
theorem tw_838 : q_g (.methodLink RX12 223 yX12_goOn) := ⟨(List.mem_append_right _ (List.mem_of_getElem? (i := 1365) (by decide +kernel))), good_of_word (by decide +kernel)⟩
theorem tw_839 : q_g (.selects RX12 yX12_joins yX12_joins) := ⟨(List.mem_append_left _ (List.mem_of_getElem? (i := 31) (by decide +kernel))), good_of_word (by decide +kernel)⟩
theorem tw_840 : q_g (.instanceMethod yX12_joins) := ⟨(List.mem_append_right _ (List.mem_of_getElem? (i := 1261) (by decide +kernel))), good_of_word (by decide +kernel)⟩
theorem tw_841 : q_g (.methodLink RX12 151 yX12_joins) := ⟨(List.mem_append_right _ (List.mem_of_getElem? (i := 1259) (by decide +kernel))), good_of_word (by decide +kernel)⟩
theorem tw_842 : q_g (.selects RX12 yX12_isSpent yX12_isSpent) := ⟨(List.mem_append_left _ (List.mem_of_getElem? (i := 26) (by decide +kernel))), good_of_word (by decide +kernel)⟩
theorem tw_843 : q_g (.instanceMethod yX12_isSpent) := ⟨(List.mem_append_right _ (List.mem_of_getElem? (i := 1240) (by decide +kernel))), good_of_word (by decide +kernel)⟩
theorem tw_844 : q_g (.methodLink RX12 145 yX12_isSpent) := ⟨(List.mem_append_right _ (List.mem_of_getElem? (i := 1238) (by decide +kernel))), good_of_word (by decide +kernel)⟩
theorem tw_845 : q_g (.selects RX12 yX12_hasRoom yX12_hasRoom) := ⟨(List.mem_append_left _ (List.mem_of_getElem? (i := 27) (by decide +kernel))), good_of_word (by decide +kernel)⟩
theorem tw_846 : q_g (.instanceMethod yX12_hasRoom) := ⟨(List.mem_append_right _ (List.mem_of_getElem? (i := 1244) (by decide +kernel))), good_of_word (by decide +kernel)⟩
theorem tw_847 : q_g (.methodLink RX12 148 yX12_hasRoom) := ⟨(List.mem_append_right _ (List.mem_of_getElem? (i := 1242) (by decide +kernel))), good_of_word (by decide +kernel)⟩
theorem tw_848 : q_g (.code yX12_wake cX12_wake 3 none) := ⟨(List.mem_append_right _ (List.mem_of_getElem? (i := 1404) (by decide +kernel))), good_of_word (by decide +kernel)⟩
def ow_c_X12_wake : List Cond := [.methodLink RX12 87 yX12_at, .static yX12_at, .initialized RX12, .methodLink RX12 148 yX12_hasRoom, .instanceMethod yX12_hasRoom, .selects RX12 yX12_hasRoom yX12_hasRoom, .fieldLink RX12 16 "DeadlineShareModel" "row" "[J", .methodLink RX12 145 yX12_isSpent, .instanceMethod yX12_isSpent, .selects RX12 yX12_isSpent yX12_isSpent, .methodLink RX12 151 yX12_joins, .instanceMethod yX12_joins, .selects RX12 yX12_joins yX12_joins, .methodLink RX12 223 yX12_goOn, .instanceMethod yX12_goOn, .selects RX12 yX12_goOn yX12_goOn]
def wq_c_X12_wake : List Cond := .code yX12_wake cX12_wake 3 none :: (ow_c_X12_wake ++ (wq_c_X12_at ++ (wq_c_X12_hasRoom ++ (u_ws RX12 TX12 27 ++ (wq_c_X12_isSpent ++ (wq_c_X12_joins ++ (wq_c_X12_goOn ++ ([] : List Cond))))))))
theorem tb_c_X12_wake : ∀ w ∈ wq_c_X12_wake, q_g w := by
  unfold wq_c_X12_wake ow_c_X12_wake
  exact q_cons tw_848 (q_app (q_cons tw_734 (q_cons tw_733 (q_cons tw_728 (q_cons tw_847 (q_cons tw_846 (q_cons tw_845 (q_cons tw_731 (q_cons tw_844 (q_cons tw_843 (q_cons tw_842 (q_cons tw_841 (q_cons tw_840 (q_cons tw_839 (q_cons tw_838 (q_cons tw_837 (q_cons tw_836 q_nil)))))))))))))))) (q_app tb_c_X12_at (q_app tb_c_X12_hasRoom (q_app tu_X12 (q_app tb_c_X12_isSpent (q_app tb_c_X12_joins (q_app tb_c_X12_goOn q_nil)))))))
set_option maxHeartbeats 4000000 in
set_option maxRecDepth 100000 in
theorem c_X12_wake (l : Launch) (dC : Nat → ClassId) (dI : Nat → Nat → Nat) (g : kG) (A : Nat → Prop) (hG : kWf g) (f : Nat → va_E) (h0 : Nat) (p1 : Nat) (q : Nat → Int64) (i_h0 : ik g 12 h0) (hc0 : f (gr g h0 4) = .inl (gc g 1, 906, .inr (.inl q))) (hc0_ok : RowOK q) (ht : (p1 : Int) < (q 0).toInt) : Met l yX12_wake wq_c_X12_wake ({ frames := 6, cells := 0, slots := 0, locals := 142 } : Room) (va_Pc [.ref h0, .int (nI p1)] (fun U => kIn dC dI g A f U)) (va_Qv (fun (_ : Unit) => True) (fun (_ : Unit) t => ∃ f1 : Nat → va_E, Iv dC dI g A f1 t.heap ∧ Kp g [32] f f1 ∧ ∃ (q1 : Nat → Int64), (f1 (gr g h0 4) = .inl (gc g 1, 906, .inr (.inl q1))) ∧ (RowOK q1) ∧ ((q1 0).toInt = (q 0).toInt) ∧ ((q1 1).toInt = (q 1).toInt)) A) 0 0 A := by
  refine Met.ofW (cc := cX12_wake) (maxL := 3) (ret := none) (by decide) rfl ?_
  intro p e s m args below meth c s₁ B hml hv
  obtain ⟨rfl, hI, hK, hE⟩ := hv
  have hx := B.exec
  have hb := B.bytes
  have hr := B.returns
  have hts := atoms_spec (ws := wq_c_X12_wake) B.pre
  have hown : s.vm.findClass RX12 = some m.cls := findClass_of_methodNamed B.named
  have hlocks := B.notSynchronized
  have hS : va_S A s.heap s.heap [] := va_S.rf
  have hk0 : Kp g [32] f f := Kp.rf
  have hl := lv_entry ([.ref h0, .int (nI p1)]) (n := 3) (Nat.le_of_ble_eq_true rfl)
  rw [lg_entry_eq]
  generalize (lg_sl ([.ref h0, .int (nI p1)]) ++ List.replicate (3 - (lg_sl ([.ref h0, .int (nI p1)])).length) Slot.unset).toArray = ls at hl ⊢
  have hl : lv_has ls 3 [(0, .ref h0), (1, .int (nI p1))] := hl
  have i_1 := kw_12_4 hG i_h0
  have d_2 := rk_hd hc0_ok
  refine lv_iload_n hx hb dX12_wake_0 rfl (lv_at hl 1 rfl) ?_
  refine va_calli (va_runS (As := [.int (nI p1)]) (rest := []) ⟨hx, hb, hml, hown, hts⟩ (c_X12_at l dC dI g A hG f p1) (va_cwS 1 hts (gi_S (fun w_ h0_ => ⟨List.mem_cons_of_mem _ (List.mem_append_right _ (List.mem_append_left _ h0_)), (tb_c_X12_at w_ h0_).2⟩) (List.mem_cons_of_mem _ (List.mem_append_left _ (List.mem_of_getElem? (i := 0) rfl))) (List.mem_cons_of_mem _ (List.mem_append_left _ (List.mem_of_getElem? (i := 1) rfl))) (List.mem_cons_of_mem _ (List.mem_append_left _ (List.mem_of_getElem? (i := 2) rfl)))) rfl rfl rfl (by decide +kernel) ⟨Nat.le_of_ble_eq_true rfl, Nat.le_of_ble_eq_true rfl⟩) ⟨fun a U g mk q => ⟨q.1, q.2.calling rfl rfl⟩, fun U hU hW => ⟨rfl, kIn.of hI hK hE hS hU hW⟩⟩ rfl rfl hl.1 rfl (lv_room (Nat.le_of_ble_eq_true rfl)) dX12_wake_1 ⟨Nat.le_of_ble_eq_true rfl, Nat.le_of_ble_eq_true rfl⟩) hS (fun q _ h => h) (fun q h => h) (fun r_4 u t H1 locs ht hvm w_3 hB hz1 hk1 hS => ?_)
  have hI : Iv dC dI g A f t.heap := hB
  rw [ht] at hI
  generalize H1 = H at hI hS ⊢
  refine W.widen (k := 0) (n := 0) (Nat.le_of_ble_eq_true rfl) (Nat.le_of_ble_eq_true rfl) ?_
  have w_3 : r_4 = nI (6 + 43 * p1) := w_3
  refine k_topi (y := nI (6 + 43 * p1)) w_3 ?_
  refine lv_istore_n (lv' := [(2, .int (nI (6 + 43 * p1))), (0, .ref h0), (1, .int (nI p1))]) hx hb dX12_wake_4 rfl hl (by decide) rfl (fun ls hl => ?_)
  refine lv_aload_n hx hb dX12_wake_5 rfl (lv_at hl 1 rfl) ?_
  refine lv_iload_n hx hb dX12_wake_6 rfl (lv_at hl 2 rfl) ?_
  obtain ⟨x_6, x_7, x_8, x_9, x_10, x_11, x_12, x_13, x_14, x_15, x_16, x_17, x_18, x_19, k_5, b_20, b_21, b_22, b_23, b_24, b_25⟩ := op_12 hI i_h0
  refine va_calli (va_runV (As := [.int (nI p1)]) (rest := []) ⟨hx, hb, hml, hown, hts⟩ (c_X12_hasRoom l dC dI g A hG f h0 p1 q i_h0 hc0 hc0_ok (by first | omega | decide | (simp only [k_c0, k_c1, k_cm1]; omega))) (cwV 1 hts (gi_V (fun w_ h0_ => ⟨List.mem_cons_of_mem _ (List.mem_append_right _ (List.mem_append_right _ (List.mem_append_left _ h0_))), (tb_c_X12_hasRoom w_ h0_).2⟩) (List.mem_cons_of_mem _ (List.mem_append_left _ (List.mem_of_getElem? (i := 3) rfl))) (List.mem_cons_of_mem _ (List.mem_append_left _ (List.mem_of_getElem? (i := 4) rfl))) (List.mem_cons_of_mem _ (List.mem_append_left _ (List.mem_of_getElem? (i := 5) rfl))) (List.mem_cons_of_mem _ (List.mem_append_left _ (List.mem_of_getElem? (i := 2) rfl)))) rfl rfl rfl (by decide +kernel) ⟨Nat.le_of_ble_eq_true rfl, Nat.le_of_ble_eq_true rfl⟩) ⟨fun a U g mk q => ⟨q.1, q.2.calling rfl rfl⟩, k_recv hK hI i_h0.1 k_5 (ci := 12) rfl, fun U hU hW => ⟨rfl, kIn.of hI hK hE hS hU hW⟩⟩ rfl rfl hl.1 rfl (lv_room (Nat.le_of_ble_eq_true rfl)) dX12_wake_7 ⟨Nat.le_of_ble_eq_true rfl, Nat.le_of_ble_eq_true rfl⟩) hS (fun q _ h => h) (fun q h => h) (fun r_27 u t H1 locs ht hvm w_26 hB hz1 hk1 hS => ?_)
  have hI : Iv dC dI g A f t.heap := hB
  rw [ht] at hI
  generalize H1 = H at hI hS ⊢
  refine W.widen (k := 0) (n := 0) (Nat.le_of_ble_eq_true rfl) (Nat.le_of_ble_eq_true rfl) ?_
  have J_52 : ∀ (H : Heap) (locs : List Loc) (ls : Array Slot), Iv dC dI g A f H → va_S A s.heap H locs → lv_has ls 3 [(2, .int (nI (6 + 43 * p1))), (0, .ref h0), (1, .int (nI p1))] → W p l e (headSpec wq_c_X12_wake ({ frames := 6, cells := 0, slots := 0, locals := 142 } : Room)).room s m ([.ref h0, .int (nI p1)].toArray) below meth c H locs 0 0 (MQ below (va_Qv (fun (_ : Unit) => True) (fun (_ : Unit) t => ∃ f1 : Nat → va_E, Iv dC dI g A f1 t.heap ∧ Kp g [32] f f1 ∧ ∃ (q1 : Nat → Int64), (f1 (gr g h0 4) = .inl (gc g 1, 906, .inr (.inl q1))) ∧ (RowOK q1) ∧ ((q1 0).toInt = (q 0).toInt) ∧ ((q1 1).toInt = (q 1).toInt)) A) ([.ref h0, .int (nI p1)].toArray) s 0 0 A) (F0 m 52 ls []) := by
    intro H locs ls hI hS  hl
    refine lv_aload_n hx hb dX12_wake_52 rfl (lv_at hl 1 rfl) ?_
    refine k_get (ci := 12) (v := .ref (gr g h0 4)) (C := RX12) (T := TX12) (N := 27) hx hb hts (fun _ h0_ => List.mem_cons_of_mem _ (List.mem_append_right _ (List.mem_append_right _ (List.mem_append_right _ (List.mem_append_left _ h0_))))) hown hK hI i_h0.1 k_5 rfl 4 (by decide) (hts (.fieldLink RX12 16 "DeadlineShareModel" "row" "[J") (List.mem_cons_of_mem _ (List.mem_append_left _ (List.mem_of_getElem? (i := 6) rfl)))) (fun _ h9 => h9) rfl dX12_wake_53 ?_
    refine lv_iload_n hx hb dX12_wake_56 rfl (lv_at hl 0 rfl) ?_
    refine lv_bipush (v := 9) hx hb dX12_wake_57 (by decide) ?_
    refine lv_iadd hx hb dX12_wake_59 ?_
    refine k_topi (y := nI (6 + 43 * p1 + 9)) ((nI_add (6 + 43 * p1) 9).trans (congrArg nI (by omega))) ?_
    refine lv_aload_n hx hb dX12_wake_60 rfl (lv_at hl 1 rfl) ?_
    refine k_get (ci := 12) (v := .ref (gr g h0 4)) (C := RX12) (T := TX12) (N := 27) hx hb hts (fun _ h0_ => List.mem_cons_of_mem _ (List.mem_append_right _ (List.mem_append_right _ (List.mem_append_right _ (List.mem_append_left _ h0_))))) hown hK hI i_h0.1 k_5 rfl 4 (by decide) (hts (.fieldLink RX12 16 "DeadlineShareModel" "row" "[J") (List.mem_cons_of_mem _ (List.mem_append_left _ (List.mem_of_getElem? (i := 6) rfl)))) (fun _ h9 => h9) rfl dX12_wake_61 ?_
    refine lv_iconst (v := 1) hx hb dX12_wake_64 (by decide) ?_
    refine k_lald hx hb hK hI i_1.1 1 hc0 rfl (by unfold vp_in; decide) dX12_wake_65 ?_
    refine k_topl (y := q 1) (congrArg q (show Int32.toNatClampNeg 1 = 1 by decide)) ?_
    refine lv_lconst (v := 1) hx hb dX12_wake_66 (by decide) ?_
    refine lv_ladd hx hb dX12_wake_67 ?_
    refine lv_topl (fun v_32 ev_32 => ?_)
    have tv_32 := l_ad (q 1) 1
    rw [← ev_32, show Int64.toInt 1 = 1 from by decide] at tv_32
    refine k_last hx hb hK hI hS i_1.1 1 hc0 rfl (vp_in_nI (by omega) (by omega)) (cl_32 i_1) dX12_wake_68 (fun f_33 H locs e_34 hI hS => ?_)
    generalize eq_35 : vp_updL q (Int32.toNatClampNeg (nI (6 + 43 * p1 + 9))) v_32 = q_35 at e_34
    have k_37 : f_33 (gr g h0 4) = .inl (gc g 1, 906, .inr (.inl q_35)) := by rw [e_34]; exact va_up_self _ _ _
    have k_38 : f_33 h0 = .inr (12, [.int x_6, .int x_7, .ref (gr g h0 2), .ref (gr g h0 3), .ref (gr g h0 4), .ref (gr g h0 5), .ref (gr g h0 6), .ref (gr g h0 7), .ref (gr g h0 8), .ref (gr g h0 9), .int x_8, .ref (gr g h0 11), .int x_9, .int x_10, .int x_11, .int x_12, .long x_13, .int x_14, .int x_15, .ref (gr g h0 19), .ref (gr g h0 20), .ref (gr g h0 21), .ref (gr g h0 22), .int x_16, .long x_17, .long x_18, .long x_19]) := by rw [e_34, va_up_ne _ _ (ik_ne i_h0 i_1 (by decide))]; exact k_5
    have kp_36 := Kp.put hk0 i_1 (by decide) e_34
    have u_39 : vp_updL q (6 + 43 * p1 + 9) v_32 = q_35 := by rw [← eq_35, show Int32.toNatClampNeg (nI (6 + 43 * p1 + 9)) = 6 + 43 * p1 + 9 from (nI_clamp (by omega))]
    have ok_40 : RowOK q_35 := by rw [← u_39]; exact rk_upd hc0_ok (by refine ⟨⟨by omega, by omega, by omega, by omega, by omega⟩, fun t9 ht9 => ⟨by omega, by omega, by omega, by omega, by omega, by omega⟩, fun t9 k9 ht9 hk9 => ⟨by omega, by omega, by omega⟩, by omega⟩)
    have d_41 := rk_hd ok_40
    have n_42 : (q_35 0).toInt = (q 0).toInt := by rw [← u_39, pk_uLn (by omega)]
    have n_43 : (q_35 1).toInt = (q 1).toInt := by rw [← u_39, pk_uLn (by omega)]
    have n_44 : (q_35 3).toInt = (q 3).toInt := by rw [← u_39, pk_uLn (by omega)]
    have n_45 : (q_35 4).toInt = (q 4).toInt := by rw [← u_39, pk_uLn (by omega)]
    have n_46 : (q_35 5).toInt = (q 5).toInt := by rw [← u_39, pk_uLn (by omega)]
    exact W.vret hx hb hr (fun t ht hW => ⟨⟨(), rfl, trivial, ⟨f_33, k_ret ht hI, kp_36, q_35, k_37, ok_40, (by first | omega | decide), (by first | omega | decide)⟩⟩, hS.F ht⟩) hS.2.2 dX12_wake_69
  refine lv_if_eq (tgt := 52) hx hb dX12_wake_10 (by decide) (fun c_47 => ?_) (fun c_47 => ?_)
  · have c_47 := kc_eq rfl (by decide : Int32.toInt 0 = 0) c_47
    exact J_52  _ _ _ hI hS  (lv_sub hl [0, 1, 2] rfl)
  · have c_47 := kn_eq rfl (by decide : Int32.toInt 0 = 0) c_47
    refine lv_aload_n hx hb dX12_wake_13 rfl (lv_at hl 1 rfl) ?_
    refine lv_iload_n hx hb dX12_wake_14 rfl (lv_at hl 2 rfl) ?_
    refine va_calli (va_runV (As := [.int (nI p1)]) (rest := []) ⟨hx, hb, hml, hown, hts⟩ (c_X12_isSpent l dC dI g A hG f h0 p1 q i_h0 hc0 hc0_ok (by first | omega | decide | (simp only [k_c0, k_c1, k_cm1]; omega))) (cwV 1 hts (gi_V (fun w_ h0_ => ⟨List.mem_cons_of_mem _ (List.mem_append_right _ (List.mem_append_right _ (List.mem_append_right _ (List.mem_append_right _ (List.mem_append_left _ h0_))))), (tb_c_X12_isSpent w_ h0_).2⟩) (List.mem_cons_of_mem _ (List.mem_append_left _ (List.mem_of_getElem? (i := 7) rfl))) (List.mem_cons_of_mem _ (List.mem_append_left _ (List.mem_of_getElem? (i := 8) rfl))) (List.mem_cons_of_mem _ (List.mem_append_left _ (List.mem_of_getElem? (i := 9) rfl))) (List.mem_cons_of_mem _ (List.mem_append_left _ (List.mem_of_getElem? (i := 2) rfl)))) rfl rfl rfl (by decide +kernel) ⟨Nat.le_of_ble_eq_true rfl, Nat.le_of_ble_eq_true rfl⟩) ⟨fun a U g mk q => ⟨q.1, q.2.calling rfl rfl⟩, k_recv hK hI i_h0.1 k_5 (ci := 12) rfl, fun U hU hW => ⟨rfl, kIn.of hI hK hE hS hU hW⟩⟩ rfl rfl hl.1 rfl (lv_room (Nat.le_of_ble_eq_true rfl)) dX12_wake_15 ⟨Nat.le_of_ble_eq_true rfl, Nat.le_of_ble_eq_true rfl⟩) hS (fun q _ h => h) (fun q h => h) (fun r_49 u t H1 locs ht hvm w_48 hB hz1 hk1 hS => ?_)
    have hI : Iv dC dI g A f t.heap := hB
    rw [ht] at hI
    generalize H1 = H at hI hS ⊢
    refine W.widen (k := 0) (n := 0) (Nat.le_of_ble_eq_true rfl) (Nat.le_of_ble_eq_true rfl) ?_
    refine lv_if_ne (tgt := 52) hx hb dX12_wake_18 (by decide) (fun c_50 => ?_) (fun c_50 => ?_)
    · have c_50 := kn_eq rfl (by decide : Int32.toInt 0 = 0) c_50
      exact J_52  _ _ _ hI hS  (lv_sub hl [0, 1, 2] rfl)
    · have c_50 := kc_eq rfl (by decide : Int32.toInt 0 = 0) c_50
      refine lv_aload_n hx hb dX12_wake_21 rfl (lv_at hl 1 rfl) ?_
      refine lv_iload_n hx hb dX12_wake_22 rfl (lv_at hl 2 rfl) ?_
      refine va_callv (va_runV (As := [.int (nI p1)]) (rest := []) ⟨hx, hb, hml, hown, hts⟩ (c_X12_joins l dC dI g A hG f h0 p1 q i_h0 hc0 hc0_ok (by first | omega | decide | (simp only [k_c0, k_c1, k_cm1]; omega))) (cwV 1 hts (gi_V (fun w_ h0_ => ⟨List.mem_cons_of_mem _ (List.mem_append_right _ (List.mem_append_right _ (List.mem_append_right _ (List.mem_append_right _ (List.mem_append_right _ (List.mem_append_left _ h0_)))))), (tb_c_X12_joins w_ h0_).2⟩) (List.mem_cons_of_mem _ (List.mem_append_left _ (List.mem_of_getElem? (i := 10) rfl))) (List.mem_cons_of_mem _ (List.mem_append_left _ (List.mem_of_getElem? (i := 11) rfl))) (List.mem_cons_of_mem _ (List.mem_append_left _ (List.mem_of_getElem? (i := 12) rfl))) (List.mem_cons_of_mem _ (List.mem_append_left _ (List.mem_of_getElem? (i := 2) rfl)))) rfl rfl rfl (by decide +kernel) ⟨Nat.le_of_ble_eq_true rfl, Nat.le_of_ble_eq_true rfl⟩) ⟨fun a U g mk q => ⟨q.1, q.2.calling rfl rfl⟩, k_recv hK hI i_h0.1 k_5 (ci := 12) rfl, fun U hU hW => ⟨rfl, kIn.of hI hK hE hS hU hW⟩⟩ rfl rfl hl.1 rfl (lv_room (Nat.le_of_ble_eq_true rfl)) dX12_wake_23 ⟨Nat.le_of_ble_eq_true rfl, Nat.le_of_ble_eq_true rfl⟩) hS (fun q _ h => h) (fun q h => h) (fun u t H1 locs ht hvm _ hB hz1 hk1 hS => ?_)
      obtain ⟨f_51, hI, kc_53, q1_54, k_55, z_56, z_57, z_58⟩ := hB
      rw [ht] at hI
      have k_59 : f_51 h0 = .inr (12, [.int x_6, .int x_7, .ref (gr g h0 2), .ref (gr g h0 3), .ref (gr g h0 4), .ref (gr g h0 5), .ref (gr g h0 6), .ref (gr g h0 7), .ref (gr g h0 8), .ref (gr g h0 9), .int x_8, .ref (gr g h0 11), .int x_9, .int x_10, .int x_11, .int x_12, .long x_13, .int x_14, .int x_15, .ref (gr g h0 19), .ref (gr g h0 20), .ref (gr g h0 21), .ref (gr g h0 22), .int x_16, .long x_17, .long x_18, .long x_19]) := Kp.at kc_53 i_h0 (by decide) k_5
      have z_56 : RowOK q1_54 := z_56
      have d_60 := rk_hd z_56
      have z_57 : (q1_54 0).toInt = (q 0).toInt := z_57
      have z_58 : (q1_54 1).toInt = (q 1).toInt := z_58
      have kp_61 := Kp.call hk0 kc_53 (by decide)
      generalize H1 = H at hI hS ⊢
      refine W.widen (k := 0) (n := 0) (Nat.le_of_ble_eq_true rfl) (Nat.le_of_ble_eq_true rfl) ?_
      refine lv_aload_n hx hb dX12_wake_26 rfl (lv_at hl 1 rfl) ?_
      refine lv_iload_n hx hb dX12_wake_27 rfl (lv_at hl 2 rfl) ?_
      refine lv_aload_n hx hb dX12_wake_28 rfl (lv_at hl 1 rfl) ?_
      refine k_get (ci := 12) (v := .ref (gr g h0 4)) (C := RX12) (T := TX12) (N := 27) hx hb hts (fun _ h0_ => List.mem_cons_of_mem _ (List.mem_append_right _ (List.mem_append_right _ (List.mem_append_right _ (List.mem_append_left _ h0_))))) hown hK hI i_h0.1 k_59 rfl 4 (by decide) (hts (.fieldLink RX12 16 "DeadlineShareModel" "row" "[J") (List.mem_cons_of_mem _ (List.mem_append_left _ (List.mem_of_getElem? (i := 6) rfl)))) (fun _ h9 => h9) rfl dX12_wake_29 ?_
      refine lv_iload_n hx hb dX12_wake_32 rfl (lv_at hl 0 rfl) ?_
      refine lv_bipush (v := 14) hx hb dX12_wake_33 (by decide) ?_
      refine lv_iadd hx hb dX12_wake_35 ?_
      refine k_topi (y := nI (6 + 43 * p1 + 14)) ((nI_add (6 + 43 * p1) 14).trans (congrArg nI (by omega))) ?_
      refine k_lald hx hb hK hI i_1.1 1 k_55 rfl (vp_in_nI (by omega) (by omega)) dX12_wake_36 ?_
      refine k_topl (y := q1_54 (6 + 43 * p1 + 14)) (congrArg q1_54 (nI_clamp (by omega))) ?_
      have d_64 := rk_14 z_56 (t := p1) (by omega)
      refine lv_l2i (v := (q1_54 (6 + 43 * p1 + 14)).toInt32) hx hb dX12_wake_37 rfl ?_
      refine lv_topi (fun v_65 ev_65 => ?_)
      have tv_65 := k_l2i (q1_54 (6 + 43 * p1 + 14))
      rw [← ev_65] at tv_65
      refine lv_iconst (v := 1) hx hb dX12_wake_38 (by decide) ?_
      refine lv_iadd hx hb dX12_wake_39 ?_
      obtain ⟨m_66, em_66, tm_66⟩ := k_nat (x := v_65) (by omega)
      refine k_topi (y := nI (m_66 + 1)) (by rw [em_66]; exact nI_1 m_66) ?_
      refine lv_aload_n hx hb dX12_wake_40 rfl (lv_at hl 1 rfl) ?_
      refine k_get (ci := 12) (v := .ref (gr g h0 4)) (C := RX12) (T := TX12) (N := 27) hx hb hts (fun _ h0_ => List.mem_cons_of_mem _ (List.mem_append_right _ (List.mem_append_right _ (List.mem_append_right _ (List.mem_append_left _ h0_))))) hown hK hI i_h0.1 k_59 rfl 4 (by decide) (hts (.fieldLink RX12 16 "DeadlineShareModel" "row" "[J") (List.mem_cons_of_mem _ (List.mem_append_left _ (List.mem_of_getElem? (i := 6) rfl)))) (fun _ h9 => h9) rfl dX12_wake_41 ?_
      refine lv_iconst (v := 1) hx hb dX12_wake_44 (by decide) ?_
      refine k_lald hx hb hK hI i_1.1 1 k_55 rfl (by unfold vp_in; decide) dX12_wake_45 ?_
      refine k_topl (y := q1_54 1) (congrArg q1_54 (show Int32.toNatClampNeg 1 = 1 by decide)) ?_
      refine va_callv (va_runV (As := [.int (nI p1), .int (nI (m_66 + 1)), .long (q1_54 1)]) (rest := []) ⟨hx, hb, hml, hown, hts⟩ (c_X12_goOn l dC dI g A hG f_51 h0 p1 (m_66 + 1) (q1_54 1) q1_54 i_h0 k_55 z_56 (by first | omega | decide | (simp only [k_c0, k_c1, k_cm1]; omega)) (by first | omega | decide | (simp only [k_c0, k_c1, k_cm1]; omega))) (cwV 3 hts (gi_V (fun w_ h0_ => ⟨List.mem_cons_of_mem _ (List.mem_append_right _ (List.mem_append_right _ (List.mem_append_right _ (List.mem_append_right _ (List.mem_append_right _ (List.mem_append_right _ (List.mem_append_left _ h0_))))))), (tb_c_X12_goOn w_ h0_).2⟩) (List.mem_cons_of_mem _ (List.mem_append_left _ (List.mem_of_getElem? (i := 13) rfl))) (List.mem_cons_of_mem _ (List.mem_append_left _ (List.mem_of_getElem? (i := 14) rfl))) (List.mem_cons_of_mem _ (List.mem_append_left _ (List.mem_of_getElem? (i := 15) rfl))) (List.mem_cons_of_mem _ (List.mem_append_left _ (List.mem_of_getElem? (i := 2) rfl)))) rfl rfl rfl (by decide +kernel) ⟨Nat.le_of_ble_eq_true rfl, Nat.le_of_ble_eq_true rfl⟩) ⟨fun a U g mk q => ⟨q.1, q.2.calling rfl rfl⟩, k_recv hK hI i_h0.1 k_59 (ci := 12) rfl, fun U hU hW => ⟨rfl, kIn.of hI hK hE hS hU hW⟩⟩ rfl rfl hl.1 rfl (lv_room (Nat.le_of_ble_eq_true rfl)) dX12_wake_46 ⟨Nat.le_of_ble_eq_true rfl, Nat.le_of_ble_eq_true rfl⟩) hS (fun q _ h => h) (fun q h => h) (fun u t H1 locs ht hvm _ hB hz1 hk1 hS => ?_)
      obtain ⟨f_69, hI, kc_71, q1_72, k_73, z_74, z_75, z_76⟩ := hB
      rw [ht] at hI
      have k_77 : f_69 h0 = .inr (12, [.int x_6, .int x_7, .ref (gr g h0 2), .ref (gr g h0 3), .ref (gr g h0 4), .ref (gr g h0 5), .ref (gr g h0 6), .ref (gr g h0 7), .ref (gr g h0 8), .ref (gr g h0 9), .int x_8, .ref (gr g h0 11), .int x_9, .int x_10, .int x_11, .int x_12, .long x_13, .int x_14, .int x_15, .ref (gr g h0 19), .ref (gr g h0 20), .ref (gr g h0 21), .ref (gr g h0 22), .int x_16, .long x_17, .long x_18, .long x_19]) := Kp.at kc_71 i_h0 (by decide) k_59
      have z_74 : RowOK q1_72 := z_74
      have d_78 := rk_hd z_74
      have z_75 : (q1_72 0).toInt = (q1_54 0).toInt := z_75
      have z_76 : (q1_72 1).toInt = (q1_54 1).toInt := z_76
      have kp_79 := Kp.call kp_61 kc_71 (by decide)
      generalize H1 = H at hI hS ⊢
      refine W.widen (k := 0) (n := 0) (Nat.le_of_ble_eq_true rfl) (Nat.le_of_ble_eq_true rfl) ?_
      refine lv_goto (tgt := 69) hx hb dX12_wake_49 (by decide) ?_
      exact W.vret hx hb hr (fun t ht hW => ⟨⟨(), rfl, trivial, ⟨f_69, k_ret ht hI, kp_79, q1_72, k_73, z_74, (by first | omega | decide), (by first | omega | decide)⟩⟩, hS.F ht⟩) hS.2.2 dX12_wake_69
theorem tw_849 : q_g (.constantLong RX12 270 (128)) := ⟨(List.mem_append_right _ (List.mem_of_getElem? (i := 1436) (by decide +kernel))), good_of_word (by decide +kernel)⟩
theorem tw_850 : q_g (.code yX12_log cX12_log 4 none) := ⟨(List.mem_append_right _ (List.mem_of_getElem? (i := 1435) (by decide +kernel))), good_of_word (by decide +kernel)⟩
def ow_c_X12_log : List Cond := [.fieldLink RX12 16 "DeadlineShareModel" "row" "[J", .constantLong RX12 270 (128), .methodLink RX12 105 yX12_heavy, .instanceMethod yX12_heavy, .selects RX12 yX12_heavy yX12_heavy, .initialized RX12, .methodLink RX12 90 yX12_isOn, .instanceMethod yX12_isOn, .selects RX12 yX12_isOn yX12_isOn, .methodLink RX12 94 yX12_weight, .instanceMethod yX12_weight, .selects RX12 yX12_weight yX12_weight]
def wq_c_X12_log : List Cond := .code yX12_log cX12_log 4 none :: (ow_c_X12_log ++ (u_ws RX12 TX12 27 ++ (wq_c_X12_heavy ++ (wq_c_X12_isOn ++ (wq_c_X12_weight ++ ([] : List Cond))))))
theorem tb_c_X12_log : ∀ w ∈ wq_c_X12_log, q_g w := by
  unfold wq_c_X12_log ow_c_X12_log
  exact q_cons tw_850 (q_app (q_cons tw_731 (q_cons tw_849 (q_cons tw_752 (q_cons tw_751 (q_cons tw_750 (q_cons tw_728 (q_cons tw_744 (q_cons tw_743 (q_cons tw_742 (q_cons tw_741 (q_cons tw_740 (q_cons tw_739 q_nil)))))))))))) (q_app tu_X12 (q_app tb_c_X12_heavy (q_app tb_c_X12_isOn (q_app tb_c_X12_weight q_nil)))))
set_option maxHeartbeats 4000000 in
set_option maxRecDepth 100000 in
theorem c_X12_log (l : Launch) (dC : Nat → ClassId) (dI : Nat → Nat → Nat) (g : kG) (A : Nat → Prop) (hG : kWf g) (f : Nat → va_E) (h0 : Nat) (p1 : Int32) (q : Nat → Int64) (i_h0 : ik g 12 h0) (hc0 : f (gr g h0 4) = .inl (gc g 1, 906, .inr (.inl q))) (hc0_ok : RowOK q) : Met l yX12_log wq_c_X12_log ({ frames := 3, cells := 0, slots := 0, locals := 64 } : Room) (va_Pc [.ref h0, .int p1] (fun U => kIn dC dI g A f U)) (va_Qv (fun (_ : Unit) => True) (fun (_ : Unit) t => ∃ f1 : Nat → va_E, Iv dC dI g A f1 t.heap ∧ Kp g [32] f f1 ∧ ∃ (q1 : Nat → Int64), (f1 (gr g h0 4) = .inl (gc g 1, 906, .inr (.inl q1))) ∧ (RowOK q1) ∧ ((q1 0).toInt = (q 0).toInt) ∧ ((q1 1).toInt = (q 1).toInt)) A) 0 0 A := by
  refine Met.ofW (cc := cX12_log) (maxL := 4) (ret := none) (by decide) rfl ?_
  intro p e s m args below meth c s₁ B hml hv
  obtain ⟨rfl, hI, hK, hE⟩ := hv
  have hx := B.exec
  have hb := B.bytes
  have hr := B.returns
  have hts := atoms_spec (ws := wq_c_X12_log) B.pre
  have hown : s.vm.findClass RX12 = some m.cls := findClass_of_methodNamed B.named
  have hlocks := B.notSynchronized
  have hS : va_S A s.heap s.heap [] := va_S.rf
  have hk0 : Kp g [32] f f := Kp.rf
  have hl := lv_entry ([.ref h0, .int p1]) (n := 4) (Nat.le_of_ble_eq_true rfl)
  rw [lg_entry_eq]
  generalize (lg_sl ([.ref h0, .int p1]) ++ List.replicate (4 - (lg_sl ([.ref h0, .int p1])).length) Slot.unset).toArray = ls at hl ⊢
  have hl : lv_has ls 4 [(0, .ref h0), (1, .int p1)] := hl
  have i_1 := kw_12_4 hG i_h0
  have d_2 := rk_hd hc0_ok
  refine lv_aload_n hx hb dX12_log_0 rfl (lv_at hl 0 rfl) ?_
  obtain ⟨x_4, x_5, x_6, x_7, x_8, x_9, x_10, x_11, x_12, x_13, x_14, x_15, x_16, x_17, k_3, b_18, b_19, b_20, b_21, b_22, b_23⟩ := op_12 hI i_h0
  refine k_get (ci := 12) (v := .ref (gr g h0 4)) (C := RX12) (T := TX12) (N := 27) hx hb hts (fun _ h0_ => List.mem_cons_of_mem _ (List.mem_append_right _ (List.mem_append_left _ h0_))) hown hK hI i_h0.1 k_3 rfl 4 (by decide) (hts (.fieldLink RX12 16 "DeadlineShareModel" "row" "[J") (List.mem_cons_of_mem _ (List.mem_append_left _ (List.mem_of_getElem? (i := 0) rfl)))) (fun _ h9 => h9) rfl dX12_log_1 ?_
  refine lv_iconst (v := 5) hx hb dX12_log_4 (by decide) ?_
  refine k_lald hx hb hK hI i_1.1 1 hc0 rfl (by unfold vp_in; decide) dX12_log_5 ?_
  refine k_topl (y := q 5) (congrArg q (show Int32.toNatClampNeg 5 = 5 by decide)) ?_
  refine lv_ldc2 hx hb hown (hts (.constantLong RX12 270 (128)) (List.mem_cons_of_mem _ (List.mem_append_left _ (List.mem_of_getElem? (i := 1) rfl)))) dX12_log_6 ?_
  refine W.lcmp hx hb dX12_log_9 ?_
  have J_54 : ∀ (q_27 : Nat → Int64) (f_26 : Nat → va_E) (H : Heap) (locs : List Loc) (ls : Array Slot), Iv dC dI g A f_26 H → va_S A s.heap H locs → f_26 (gr g h0 4) = .inl (gc g 1, 906, .inr (.inl q_27)) → RowOK q_27 → f_26 h0 = .inr (12, [.int x_4, .int x_5, .ref (gr g h0 2), .ref (gr g h0 3), .ref (gr g h0 4), .ref (gr g h0 5), .ref (gr g h0 6), .ref (gr g h0 7), .ref (gr g h0 8), .ref (gr g h0 9), .int x_6, .ref (gr g h0 11), .int x_7, .int x_8, .int x_9, .int x_10, .long x_11, .int x_12, .int x_13, .ref (gr g h0 19), .ref (gr g h0 20), .ref (gr g h0 21), .ref (gr g h0 22), .int x_14, .long x_15, .long x_16, .long x_17]) → Kp g [32] f f_26 → ((q_27 5).toInt < 128) → ((q_27 0).toInt = (q 0).toInt) → ((q_27 1).toInt = (q 1).toInt) → lv_has ls 4 [(0, .ref h0), (1, .int p1)] → W p l e (headSpec wq_c_X12_log ({ frames := 3, cells := 0, slots := 0, locals := 64 } : Room)).room s m ([.ref h0, .int p1].toArray) below meth c H locs 0 0 (MQ below (va_Qv (fun (_ : Unit) => True) (fun (_ : Unit) t => ∃ f1 : Nat → va_E, Iv dC dI g A f1 t.heap ∧ Kp g [32] f f1 ∧ ∃ (q1 : Nat → Int64), (f1 (gr g h0 4) = .inl (gc g 1, 906, .inr (.inl q1))) ∧ (RowOK q1) ∧ ((q1 0).toInt = (q 0).toInt) ∧ ((q1 1).toInt = (q 1).toInt)) A) ([.ref h0, .int p1].toArray) s 0 0 A) (F0 m 54 ls []) := by
    intro q_27 f_26 H locs ls hI hS k_28 ok_29 k_30 kp_31 t_34 t_32 t_33 hl
    have d_35 := rk_hd ok_29
    refine lv_sipush (v := 522) hx hb dX12_log_54 (by decide) ?_
    refine lv_iconst (v := 3) hx hb dX12_log_57 (by decide) ?_
    refine lv_aload_n hx hb dX12_log_58 rfl (lv_at hl 0 rfl) ?_
    refine k_get (ci := 12) (v := .ref (gr g h0 4)) (C := RX12) (T := TX12) (N := 27) hx hb hts (fun _ h0_ => List.mem_cons_of_mem _ (List.mem_append_right _ (List.mem_append_left _ h0_))) hown hK hI i_h0.1 k_30 rfl 4 (by decide) (hts (.fieldLink RX12 16 "DeadlineShareModel" "row" "[J") (List.mem_cons_of_mem _ (List.mem_append_left _ (List.mem_of_getElem? (i := 0) rfl)))) (fun _ h9 => h9) rfl dX12_log_59 ?_
    refine lv_iconst (v := 5) hx hb dX12_log_62 (by decide) ?_
    refine k_lald hx hb hK hI i_1.1 1 k_28 rfl (by unfold vp_in; decide) dX12_log_63 ?_
    refine k_topl (y := q_27 5) (congrArg q_27 (show Int32.toNatClampNeg 5 = 5 by decide)) ?_
    refine lv_l2i (v := (q_27 5).toInt32) hx hb dX12_log_64 rfl ?_
    refine lv_topi (fun v_38 ev_38 => ?_)
    have tv_38 := k_l2i (q_27 5)
    rw [← ev_38] at tv_38
    obtain ⟨m_39, em_39, tm_39⟩ := k_nat (x := v_38) (by omega)
    refine k_topi (y := nI m_39) em_39 ?_
    refine lv_imul hx hb dX12_log_65 ?_
    refine k_topi (y := nI (3 * m_39)) ((pk_mul 3 m_39).trans (congrArg nI (by omega))) ?_
    refine lv_iadd hx hb dX12_log_66 ?_
    refine k_topi (y := nI (522 + 3 * m_39)) ((nI_add 522 (3 * m_39)).trans (congrArg nI (by omega))) ?_
    refine lv_istore_n (lv' := [(2, .int (nI (522 + 3 * m_39))), (0, .ref h0), (1, .int p1)]) hx hb dX12_log_67 rfl hl (by decide) rfl (fun ls hl => ?_)
    refine lv_aload_n hx hb dX12_log_68 rfl (lv_at hl 1 rfl) ?_
    refine k_get (ci := 12) (v := .ref (gr g h0 4)) (C := RX12) (T := TX12) (N := 27) hx hb hts (fun _ h0_ => List.mem_cons_of_mem _ (List.mem_append_right _ (List.mem_append_left _ h0_))) hown hK hI i_h0.1 k_30 rfl 4 (by decide) (hts (.fieldLink RX12 16 "DeadlineShareModel" "row" "[J") (List.mem_cons_of_mem _ (List.mem_append_left _ (List.mem_of_getElem? (i := 0) rfl)))) (fun _ h9 => h9) rfl dX12_log_69 ?_
    refine lv_iload_n hx hb dX12_log_72 rfl (lv_at hl 0 rfl) ?_
    refine lv_iload_n hx hb dX12_log_73 rfl (lv_at hl 2 rfl) ?_
    refine lv_i2l (v := p1.toInt64) hx hb dX12_log_74 rfl ?_
    have t_42 := Int32.toInt_toInt64 p1
    refine k_last hx hb hK hI hS i_1.1 1 k_28 rfl (vp_in_nI (by omega) (by omega)) (cl_32 i_1) dX12_log_75 (fun f_43 H locs e_44 hI hS => ?_)
    generalize eq_45 : vp_updL q_27 (Int32.toNatClampNeg (nI (522 + 3 * m_39))) p1.toInt64 = q_45 at e_44
    have k_47 : f_43 (gr g h0 4) = .inl (gc g 1, 906, .inr (.inl q_45)) := by rw [e_44]; exact va_up_self _ _ _
    have k_48 : f_43 h0 = .inr (12, [.int x_4, .int x_5, .ref (gr g h0 2), .ref (gr g h0 3), .ref (gr g h0 4), .ref (gr g h0 5), .ref (gr g h0 6), .ref (gr g h0 7), .ref (gr g h0 8), .ref (gr g h0 9), .int x_6, .ref (gr g h0 11), .int x_7, .int x_8, .int x_9, .int x_10, .long x_11, .int x_12, .int x_13, .ref (gr g h0 19), .ref (gr g h0 20), .ref (gr g h0 21), .ref (gr g h0 22), .int x_14, .long x_15, .long x_16, .long x_17]) := by rw [e_44, va_up_ne _ _ (ik_ne i_h0 i_1 (by decide))]; exact k_30
    have kp_46 := Kp.put kp_31 i_1 (by decide) e_44
    have u_49 : vp_updL q_27 (522 + 3 * m_39) p1.toInt64 = q_45 := by rw [← eq_45, show Int32.toNatClampNeg (nI (522 + 3 * m_39)) = 522 + 3 * m_39 from (nI_clamp (by omega))]
    have ok_50 : RowOK q_45 := by rw [← u_49]; exact rk_upd ok_29 (by refine ⟨⟨by omega, by omega, by omega, by omega, by omega⟩, fun t9 ht9 => ⟨by omega, by omega, by omega, by omega, by omega, by omega⟩, fun t9 k9 ht9 hk9 => ⟨by omega, by omega, by omega⟩, by omega⟩)
    have d_51 := rk_hd ok_50
    have n_52 : (q_45 0).toInt = (q_27 0).toInt := by rw [← u_49, pk_uLn (by omega)]
    have n_53 : (q_45 1).toInt = (q_27 1).toInt := by rw [← u_49, pk_uLn (by omega)]
    have n_54 : (q_45 3).toInt = (q_27 3).toInt := by rw [← u_49, pk_uLn (by omega)]
    have n_55 : (q_45 4).toInt = (q_27 4).toInt := by rw [← u_49, pk_uLn (by omega)]
    have n_56 : (q_45 5).toInt = (q_27 5).toInt := by rw [← u_49, pk_uLn (by omega)]
    refine lv_aload_n hx hb dX12_log_76 rfl (lv_at hl 1 rfl) ?_
    refine k_get (ci := 12) (v := .ref (gr g h0 4)) (C := RX12) (T := TX12) (N := 27) hx hb hts (fun _ h0_ => List.mem_cons_of_mem _ (List.mem_append_right _ (List.mem_append_left _ h0_))) hown hK hI i_h0.1 k_48 rfl 4 (by decide) (hts (.fieldLink RX12 16 "DeadlineShareModel" "row" "[J") (List.mem_cons_of_mem _ (List.mem_append_left _ (List.mem_of_getElem? (i := 0) rfl)))) (fun _ h9 => h9) rfl dX12_log_77 ?_
    refine lv_iload_n hx hb dX12_log_80 rfl (lv_at hl 0 rfl) ?_
    refine lv_iconst (v := 1) hx hb dX12_log_81 (by decide) ?_
    refine lv_iadd hx hb dX12_log_82 ?_
    refine k_topi (y := nI (522 + 3 * m_39 + 1)) ((nI_add (522 + 3 * m_39) 1).trans (congrArg nI (by omega))) ?_
    refine lv_aload_n hx hb dX12_log_83 rfl (lv_at hl 1 rfl) ?_
    refine va_calll (va_runV (As := []) (rest := [.int (nI (522 + 3 * m_39 + 1)), .ref (gr g h0 4)]) ⟨hx, hb, hml, hown, hts⟩ (c_X12_heavy l dC dI g A hG f_43 h0 q_45 i_h0 k_47 ok_50) (cwV 0 hts (gi_V (fun w_ h0_ => ⟨List.mem_cons_of_mem _ (List.mem_append_right _ (List.mem_append_right _ (List.mem_append_left _ h0_))), (tb_c_X12_heavy w_ h0_).2⟩) (List.mem_cons_of_mem _ (List.mem_append_left _ (List.mem_of_getElem? (i := 2) rfl))) (List.mem_cons_of_mem _ (List.mem_append_left _ (List.mem_of_getElem? (i := 3) rfl))) (List.mem_cons_of_mem _ (List.mem_append_left _ (List.mem_of_getElem? (i := 4) rfl))) (List.mem_cons_of_mem _ (List.mem_append_left _ (List.mem_of_getElem? (i := 5) rfl)))) rfl rfl rfl (by decide +kernel) ⟨Nat.le_of_ble_eq_true rfl, Nat.le_of_ble_eq_true rfl⟩) ⟨fun a U g mk q => ⟨q.1, q.2.calling rfl rfl⟩, k_recv hK hI i_h0.1 k_48 (ci := 12) rfl, fun U hU hW => ⟨rfl, kIn.of hI hK hE hS hU hW⟩⟩ rfl rfl hl.1 rfl (lv_room (Nat.le_of_ble_eq_true rfl)) dX12_log_84 ⟨Nat.le_of_ble_eq_true rfl, Nat.le_of_ble_eq_true rfl⟩) hS (fun q _ h => h) (fun q h => h) (fun r_60 u t H1 locs ht hvm w_59 hB hz1 hk1 hS => ?_)
    have hI : Iv dC dI g A f_43 t.heap := hB
    rw [ht] at hI
    generalize H1 = H at hI hS ⊢
    refine W.widen (k := 0) (n := 0) (Nat.le_of_ble_eq_true rfl) (Nat.le_of_ble_eq_true rfl) ?_
    have w_59 : 0 ≤ r_60.toInt ∧ r_60.toInt ≤ 96 ∧ ∀ t : Nat, (t : Int) < (q_45 0).toInt → (q_45 (6 + 43 * t + 2)).toInt = 1 → 1 ≤ r_60.toInt := w_59
    refine k_last hx hb hK hI hS i_1.1 1 k_47 rfl (vp_in_nI (by omega) (by omega)) (cl_32 i_1) dX12_log_87 (fun f_61 H locs e_62 hI hS => ?_)
    generalize eq_63 : vp_updL q_45 (Int32.toNatClampNeg (nI (522 + 3 * m_39 + 1))) r_60 = q_63 at e_62
    have k_65 : f_61 (gr g h0 4) = .inl (gc g 1, 906, .inr (.inl q_63)) := by rw [e_62]; exact va_up_self _ _ _
    have k_66 : f_61 h0 = .inr (12, [.int x_4, .int x_5, .ref (gr g h0 2), .ref (gr g h0 3), .ref (gr g h0 4), .ref (gr g h0 5), .ref (gr g h0 6), .ref (gr g h0 7), .ref (gr g h0 8), .ref (gr g h0 9), .int x_6, .ref (gr g h0 11), .int x_7, .int x_8, .int x_9, .int x_10, .long x_11, .int x_12, .int x_13, .ref (gr g h0 19), .ref (gr g h0 20), .ref (gr g h0 21), .ref (gr g h0 22), .int x_14, .long x_15, .long x_16, .long x_17]) := by rw [e_62, va_up_ne _ _ (ik_ne i_h0 i_1 (by decide))]; exact k_48
    have kp_64 := Kp.put kp_46 i_1 (by decide) e_62
    have u_67 : vp_updL q_45 (522 + 3 * m_39 + 1) r_60 = q_63 := by rw [← eq_63, show Int32.toNatClampNeg (nI (522 + 3 * m_39 + 1)) = 522 + 3 * m_39 + 1 from (nI_clamp (by omega))]
    have ok_68 : RowOK q_63 := by rw [← u_67]; exact rk_upd ok_50 (by refine ⟨⟨by omega, by omega, by omega, by omega, by omega⟩, fun t9 ht9 => ⟨by omega, by omega, by omega, by omega, by omega, by omega⟩, fun t9 k9 ht9 hk9 => ⟨by omega, by omega, by omega⟩, by omega⟩)
    have d_69 := rk_hd ok_68
    have n_70 : (q_63 0).toInt = (q_45 0).toInt := by rw [← u_67, pk_uLn (by omega)]
    have n_71 : (q_63 1).toInt = (q_45 1).toInt := by rw [← u_67, pk_uLn (by omega)]
    have n_72 : (q_63 3).toInt = (q_45 3).toInt := by rw [← u_67, pk_uLn (by omega)]
    have n_73 : (q_63 4).toInt = (q_45 4).toInt := by rw [← u_67, pk_uLn (by omega)]
    have n_74 : (q_63 5).toInt = (q_45 5).toInt := by rw [← u_67, pk_uLn (by omega)]
    refine lv_aload_n hx hb dX12_log_88 rfl (lv_at hl 1 rfl) ?_
    refine k_get (ci := 12) (v := .ref (gr g h0 4)) (C := RX12) (T := TX12) (N := 27) hx hb hts (fun _ h0_ => List.mem_cons_of_mem _ (List.mem_append_right _ (List.mem_append_left _ h0_))) hown hK hI i_h0.1 k_66 rfl 4 (by decide) (hts (.fieldLink RX12 16 "DeadlineShareModel" "row" "[J") (List.mem_cons_of_mem _ (List.mem_append_left _ (List.mem_of_getElem? (i := 0) rfl)))) (fun _ h9 => h9) rfl dX12_log_89 ?_
    refine lv_iload_n hx hb dX12_log_92 rfl (lv_at hl 0 rfl) ?_
    refine lv_iconst (v := 2) hx hb dX12_log_93 (by decide) ?_
    refine lv_iadd hx hb dX12_log_94 ?_
    refine k_topi (y := nI (522 + 3 * m_39 + 2)) ((nI_add (522 + 3 * m_39) 2).trans (congrArg nI (by omega))) ?_
    refine lv_lconst (v := 0) hx hb dX12_log_95 (by decide) ?_
    refine k_last hx hb hK hI hS i_1.1 1 k_65 rfl (vp_in_nI (by omega) (by omega)) (cl_32 i_1) dX12_log_96 (fun f_77 H locs e_78 hI hS => ?_)
    generalize eq_79 : vp_updL q_63 (Int32.toNatClampNeg (nI (522 + 3 * m_39 + 2))) 0 = q_79 at e_78
    have k_81 : f_77 (gr g h0 4) = .inl (gc g 1, 906, .inr (.inl q_79)) := by rw [e_78]; exact va_up_self _ _ _
    have k_82 : f_77 h0 = .inr (12, [.int x_4, .int x_5, .ref (gr g h0 2), .ref (gr g h0 3), .ref (gr g h0 4), .ref (gr g h0 5), .ref (gr g h0 6), .ref (gr g h0 7), .ref (gr g h0 8), .ref (gr g h0 9), .int x_6, .ref (gr g h0 11), .int x_7, .int x_8, .int x_9, .int x_10, .long x_11, .int x_12, .int x_13, .ref (gr g h0 19), .ref (gr g h0 20), .ref (gr g h0 21), .ref (gr g h0 22), .int x_14, .long x_15, .long x_16, .long x_17]) := by rw [e_78, va_up_ne _ _ (ik_ne i_h0 i_1 (by decide))]; exact k_66
    have kp_80 := Kp.put kp_64 i_1 (by decide) e_78
    have u_83 : vp_updL q_63 (522 + 3 * m_39 + 2) 0 = q_79 := by rw [← eq_79, show Int32.toNatClampNeg (nI (522 + 3 * m_39 + 2)) = 522 + 3 * m_39 + 2 from (nI_clamp (by omega))]
    have ok_84 : RowOK q_79 := by rw [← u_83]; exact rk_upd ok_68 (by rw [show Int64.toInt 0 = 0 from by decide]; refine ⟨⟨by omega, by omega, by omega, by omega, by omega⟩, fun t9 ht9 => ⟨by omega, by omega, by omega, by omega, by omega, by omega⟩, fun t9 k9 ht9 hk9 => ⟨by omega, by omega, by omega⟩, by omega⟩)
    have d_85 := rk_hd ok_84
    have n_86 : (q_79 0).toInt = (q_63 0).toInt := by rw [← u_83, pk_uLn (by omega)]
    have n_87 : (q_79 1).toInt = (q_63 1).toInt := by rw [← u_83, pk_uLn (by omega)]
    have n_88 : (q_79 3).toInt = (q_63 3).toInt := by rw [← u_83, pk_uLn (by omega)]
    have n_89 : (q_79 4).toInt = (q_63 4).toInt := by rw [← u_83, pk_uLn (by omega)]
    have n_90 : (q_79 5).toInt = (q_63 5).toInt := by rw [← u_83, pk_uLn (by omega)]
    refine lv_iconst (v := 0) hx hb dX12_log_97 (by decide) ?_
    refine lv_istore_n (lv' := [(3, .int 0), (2, .int (nI (522 + 3 * m_39))), (0, .ref h0), (1, .int p1)]) hx hb dX12_log_98 rfl hl (by decide) rfl (fun ls hl => ?_)
    have K_99 : ∀ (nn : Nat) (y_91 : Nat) (q_93 : Nat → Int64) (f_92 : Nat → va_E) (H : Heap) (locs : List Loc) (ls : Array Slot), 12 - y_91 < nn → Iv dC dI g A f_92 H → va_S A s.heap H locs → f_92 (gr g h0 4) = .inl (gc g 1, 906, .inr (.inl q_93)) → RowOK q_93 → f_92 h0 = .inr (12, [.int x_4, .int x_5, .ref (gr g h0 2), .ref (gr g h0 3), .ref (gr g h0 4), .ref (gr g h0 5), .ref (gr g h0 6), .ref (gr g h0 7), .ref (gr g h0 8), .ref (gr g h0 9), .int x_6, .ref (gr g h0 11), .int x_7, .int x_8, .int x_9, .int x_10, .long x_11, .int x_12, .int x_13, .ref (gr g h0 19), .ref (gr g h0 20), .ref (gr g h0 21), .ref (gr g h0 22), .int x_14, .long x_15, .long x_16, .long x_17]) → Kp g [32] f f_92 → (y_91 ≤ 12) → (∀ j : Nat, j < 522 → q_93 j = q_45 j) → ((q_93 (522 + 3 * m_39 + 1)).toInt = r_60.toInt) → ((q_93 (522 + 3 * m_39 + 2)).toInt ≠ 0 → 1 ≤ r_60.toInt) → ((q_93 5).toInt = (m_39 : Int)) → ((q_93 0).toInt = (q 0).toInt) → ((q_93 1).toInt = (q 1).toInt) → lv_has ls 4 [(3, .int (nI y_91)), (2, .int (nI (522 + 3 * m_39))), (0, .ref h0), (1, .int p1)] → W p l e (headSpec wq_c_X12_log ({ frames := 3, cells := 0, slots := 0, locals := 64 } : Room)).room s m ([.ref h0, .int p1].toArray) below meth c H locs 0 0 (MQ below (va_Qv (fun (_ : Unit) => True) (fun (_ : Unit) t => ∃ f1 : Nat → va_E, Iv dC dI g A f1 t.heap ∧ Kp g [32] f f1 ∧ ∃ (q1 : Nat → Int64), (f1 (gr g h0 4) = .inl (gc g 1, 906, .inr (.inl q1))) ∧ (RowOK q1) ∧ ((q1 0).toInt = (q 0).toInt) ∧ ((q1 1).toInt = (q 1).toInt)) A) ([.ref h0, .int p1].toArray) s 0 0 A) (F0 m 99 ls []) := by
      intro nn
      induction nn with
      | zero => intro y_91 q_93 f_92 H locs ls m_105; exact absurd m_105 (Nat.not_lt_zero _)
      | succ nn ih =>
        intro y_91 q_93 f_92 H locs ls m_105 hI hS k_94 ok_95 k_96 kp_97 t_100 t_101 t_102 t_103 t_104 t_98 t_99 hl
        have d_106 := rk_hd ok_95
        refine lv_iload_n hx hb dX12_log_99 rfl (lv_at hl 0 rfl) ?_
        refine lv_i2l (v := lN (y_91)) hx hb dX12_log_100 (nI_l (by omega)) ?_
        refine lv_aload_n hx hb dX12_log_101 rfl (lv_at hl 2 rfl) ?_
        refine k_get (ci := 12) (v := .ref (gr g h0 4)) (C := RX12) (T := TX12) (N := 27) hx hb hts (fun _ h0_ => List.mem_cons_of_mem _ (List.mem_append_right _ (List.mem_append_left _ h0_))) hown hK hI i_h0.1 k_96 rfl 4 (by decide) (hts (.fieldLink RX12 16 "DeadlineShareModel" "row" "[J") (List.mem_cons_of_mem _ (List.mem_append_left _ (List.mem_of_getElem? (i := 0) rfl)))) (fun _ h9 => h9) rfl dX12_log_102 ?_
        refine lv_iconst (v := 0) hx hb dX12_log_105 (by decide) ?_
        refine k_lald hx hb hK hI i_1.1 1 k_94 rfl (by unfold vp_in; decide) dX12_log_106 ?_
        refine k_topl (y := q_93 0) (congrArg q_93 (show Int32.toNatClampNeg 0 = 0 by decide)) ?_
        refine W.lcmp hx hb dX12_log_107 ?_
        refine lv_if_ge (tgt := 149) hx hb dX12_log_108 (by decide) (fun c_109 => ?_) (fun c_109 => ?_)
        · have c_109 := lc_le rfl (lN_toInt (n := y_91) (by omega)) ((lg_cmp_ge _ _).mp c_109)
          refine lv_aload_n hx hb dX12_log_149 rfl (lv_at hl 2 rfl) ?_
          refine k_get (ci := 12) (v := .ref (gr g h0 4)) (C := RX12) (T := TX12) (N := 27) hx hb hts (fun _ h0_ => List.mem_cons_of_mem _ (List.mem_append_right _ (List.mem_append_left _ h0_))) hown hK hI i_h0.1 k_96 rfl 4 (by decide) (hts (.fieldLink RX12 16 "DeadlineShareModel" "row" "[J") (List.mem_cons_of_mem _ (List.mem_append_left _ (List.mem_of_getElem? (i := 0) rfl)))) (fun _ h9 => h9) rfl dX12_log_150 ?_
          refine lv_iconst (v := 5) hx hb dX12_log_153 (by decide) ?_
          refine lv_dup2_11 hx hb dX12_log_154 rfl rfl ?_
          refine k_lald hx hb hK hI i_1.1 1 k_94 rfl (by unfold vp_in; decide) dX12_log_155 ?_
          refine k_topl (y := q_93 5) (congrArg q_93 (show Int32.toNatClampNeg 5 = 5 by decide)) ?_
          refine lv_lconst (v := 1) hx hb dX12_log_156 (by decide) ?_
          refine lv_ladd hx hb dX12_log_157 ?_
          refine lv_topl (fun v_112 ev_112 => ?_)
          have tv_112 := l_ad (q_93 5) 1
          rw [← ev_112, show Int64.toInt 1 = 1 from by decide] at tv_112
          refine k_last hx hb hK hI hS i_1.1 1 k_94 rfl (by unfold vp_in; decide) (cl_32 i_1) dX12_log_158 (fun f_113 H locs e_114 hI hS => ?_)
          generalize eq_115 : vp_updL q_93 (Int32.toNatClampNeg 5) v_112 = q_115 at e_114
          have k_117 : f_113 (gr g h0 4) = .inl (gc g 1, 906, .inr (.inl q_115)) := by rw [e_114]; exact va_up_self _ _ _
          have k_118 : f_113 h0 = .inr (12, [.int x_4, .int x_5, .ref (gr g h0 2), .ref (gr g h0 3), .ref (gr g h0 4), .ref (gr g h0 5), .ref (gr g h0 6), .ref (gr g h0 7), .ref (gr g h0 8), .ref (gr g h0 9), .int x_6, .ref (gr g h0 11), .int x_7, .int x_8, .int x_9, .int x_10, .long x_11, .int x_12, .int x_13, .ref (gr g h0 19), .ref (gr g h0 20), .ref (gr g h0 21), .ref (gr g h0 22), .int x_14, .long x_15, .long x_16, .long x_17]) := by rw [e_114, va_up_ne _ _ (ik_ne i_h0 i_1 (by decide))]; exact k_96
          have kp_116 := Kp.put kp_97 i_1 (by decide) e_114
          have u_119 : vp_updL q_93 5 v_112 = q_115 := by rw [← eq_115, show Int32.toNatClampNeg 5 = 5 from (show Int32.toNatClampNeg 5 = 5 by decide)]
          have ok_120 : RowOK q_115 := by rw [← u_119]; exact rk_len ok_95 (by omega) (by omega) (fun l9 h9 h8 h7 => by have e9 : l9 = m_39 := (by omega); subst e9; omega)
          have d_121 := rk_hd ok_120
          have n_122 : (q_115 0).toInt = (q_93 0).toInt := by rw [← u_119, pk_uLn (by omega)]
          have n_123 : (q_115 1).toInt = (q_93 1).toInt := by rw [← u_119, pk_uLn (by omega)]
          have n_124 : (q_115 3).toInt = (q_93 3).toInt := by rw [← u_119, pk_uLn (by omega)]
          have n_125 : (q_115 4).toInt = (q_93 4).toInt := by rw [← u_119, pk_uLn (by omega)]
          have n_126 : (q_115 5).toInt = Int64.toInt v_112 := by rw [← u_119, pk_uLs]
          exact W.vret hx hb hr (fun t ht hW => ⟨⟨(), rfl, trivial, ⟨f_113, k_ret ht hI, kp_116, q_115, k_117, ok_120, (by first | omega | decide), (by first | omega | decide)⟩⟩, hS.F ht⟩) hS.2.2 dX12_log_159
        · have c_109 := ln_le rfl (lN_toInt (n := y_91) (by omega)) (fun h9 => c_109 ((lg_cmp_ge _ _).mpr h9))
          refine lv_aload_n hx hb dX12_log_111 rfl (lv_at hl 2 rfl) ?_
          refine k_get (ci := 12) (v := .ref (gr g h0 4)) (C := RX12) (T := TX12) (N := 27) hx hb hts (fun _ h0_ => List.mem_cons_of_mem _ (List.mem_append_right _ (List.mem_append_left _ h0_))) hown hK hI i_h0.1 k_96 rfl 4 (by decide) (hts (.fieldLink RX12 16 "DeadlineShareModel" "row" "[J") (List.mem_cons_of_mem _ (List.mem_append_left _ (List.mem_of_getElem? (i := 0) rfl)))) (fun _ h9 => h9) rfl dX12_log_112 ?_
          refine lv_iload_n hx hb dX12_log_115 rfl (lv_at hl 1 rfl) ?_
          refine lv_iconst (v := 2) hx hb dX12_log_116 (by decide) ?_
          refine lv_iadd hx hb dX12_log_117 ?_
          refine k_topi (y := nI (522 + 3 * m_39 + 2)) ((nI_add (522 + 3 * m_39) 2).trans (congrArg nI (by omega))) ?_
          refine lv_dup2_11 hx hb dX12_log_118 rfl rfl ?_
          refine k_lald hx hb hK hI i_1.1 1 k_94 rfl (vp_in_nI (by omega) (by omega)) dX12_log_119 ?_
          refine k_topl (y := q_93 (522 + 3 * m_39 + 2)) (congrArg q_93 (nI_clamp (by omega))) ?_
          refine lv_aload_n hx hb dX12_log_120 rfl (lv_at hl 2 rfl) ?_
          refine lv_iload_n hx hb dX12_log_121 rfl (lv_at hl 0 rfl) ?_
          refine va_calli (va_runV (As := [.int (nI y_91)]) (rest := [.long (q_93 (522 + 3 * m_39 + 2)), .int (nI (522 + 3 * m_39 + 2)), .ref (gr g h0 4)]) ⟨hx, hb, hml, hown, hts⟩ (c_X12_isOn l dC dI g A hG f_92 h0 y_91 q_93 i_h0 k_94 ok_95 (by first | omega | decide | (simp only [k_c0, k_c1, k_cm1] <;> omega))) (cwV 1 hts (gi_V (fun w_ h0_ => ⟨List.mem_cons_of_mem _ (List.mem_append_right _ (List.mem_append_right _ (List.mem_append_right _ (List.mem_append_left _ h0_)))), (tb_c_X12_isOn w_ h0_).2⟩) (List.mem_cons_of_mem _ (List.mem_append_left _ (List.mem_of_getElem? (i := 6) rfl))) (List.mem_cons_of_mem _ (List.mem_append_left _ (List.mem_of_getElem? (i := 7) rfl))) (List.mem_cons_of_mem _ (List.mem_append_left _ (List.mem_of_getElem? (i := 8) rfl))) (List.mem_cons_of_mem _ (List.mem_append_left _ (List.mem_of_getElem? (i := 5) rfl)))) rfl rfl rfl (by decide +kernel) ⟨Nat.le_of_ble_eq_true rfl, Nat.le_of_ble_eq_true rfl⟩) ⟨fun a U g mk q => ⟨q.1, q.2.calling rfl rfl⟩, k_recv hK hI i_h0.1 k_96 (ci := 12) rfl, fun U hU hW => ⟨rfl, kIn.of hI hK hE hS hU hW⟩⟩ rfl rfl hl.1 rfl (lv_room (Nat.le_of_ble_eq_true rfl)) dX12_log_122 ⟨Nat.le_of_ble_eq_true rfl, Nat.le_of_ble_eq_true rfl⟩) hS (fun q _ h => h) (fun q h => h) (fun r_130 u t H1 locs ht hvm w_129 hB hz1 hk1 hS => ?_)
          have hI : Iv dC dI g A f_92 t.heap := hB
          rw [ht] at hI
          generalize H1 = H at hI hS ⊢
          refine W.widen (k := 0) (n := 0) (Nat.le_of_ble_eq_true rfl) (Nat.le_of_ble_eq_true rfl) ?_
          have w_129 : (r_130.toInt = 0 ∧ (q_93 (6 + 43 * y_91 + 2)).toInt ≠ 1) ∨ (r_130.toInt = 1 ∧ (q_93 (6 + 43 * y_91 + 2)).toInt = 1) := w_129
          have J_141 : ∀ (y_131 : Int64) (H : Heap) (locs : List Loc) (ls : Array Slot), Iv dC dI g A f_92 H → va_S A s.heap H locs → (y_131.toInt = 0 ∨ 1 ≤ r_60.toInt) → lv_has ls 4 [(3, .int (nI y_91)), (2, .int (nI (522 + 3 * m_39))), (0, .ref h0), (1, .int p1)] → W p l e (headSpec wq_c_X12_log ({ frames := 3, cells := 0, slots := 0, locals := 64 } : Room)).room s m ([.ref h0, .int p1].toArray) below meth c H locs 0 0 (MQ below (va_Qv (fun (_ : Unit) => True) (fun (_ : Unit) t => ∃ f1 : Nat → va_E, Iv dC dI g A f1 t.heap ∧ Kp g [32] f f1 ∧ ∃ (q1 : Nat → Int64), (f1 (gr g h0 4) = .inl (gc g 1, 906, .inr (.inl q1))) ∧ (RowOK q1) ∧ ((q1 0).toInt = (q 0).toInt) ∧ ((q1 1).toInt = (q 1).toInt)) A) ([.ref h0, .int p1].toArray) s 0 0 A) (F0 m 141 ls [.long y_131, .long (q_93 (522 + 3 * m_39 + 2)), .int (nI (522 + 3 * m_39 + 2)), .ref (gr g h0 4)]) := by
            intro y_131 H locs ls hI hS t_132 hl
            refine lv_lor hx hb dX12_log_141 ?_
            refine lv_topl (fun v_133 ev_133 => ?_)
            have tv_133 := l_or0 (q_93 (522 + 3 * m_39 + 2)) y_131
            rw [← ev_133] at tv_133
            refine k_last hx hb hK hI hS i_1.1 1 k_94 rfl (vp_in_nI (by omega) (by omega)) (cl_32 i_1) dX12_log_142 (fun f_134 H locs e_135 hI hS => ?_)
            generalize eq_136 : vp_updL q_93 (Int32.toNatClampNeg (nI (522 + 3 * m_39 + 2))) v_133 = q_136 at e_135
            have k_138 : f_134 (gr g h0 4) = .inl (gc g 1, 906, .inr (.inl q_136)) := by rw [e_135]; exact va_up_self _ _ _
            have k_139 : f_134 h0 = .inr (12, [.int x_4, .int x_5, .ref (gr g h0 2), .ref (gr g h0 3), .ref (gr g h0 4), .ref (gr g h0 5), .ref (gr g h0 6), .ref (gr g h0 7), .ref (gr g h0 8), .ref (gr g h0 9), .int x_6, .ref (gr g h0 11), .int x_7, .int x_8, .int x_9, .int x_10, .long x_11, .int x_12, .int x_13, .ref (gr g h0 19), .ref (gr g h0 20), .ref (gr g h0 21), .ref (gr g h0 22), .int x_14, .long x_15, .long x_16, .long x_17]) := by rw [e_135, va_up_ne _ _ (ik_ne i_h0 i_1 (by decide))]; exact k_96
            have kp_137 := Kp.put kp_97 i_1 (by decide) e_135
            have u_140 : vp_updL q_93 (522 + 3 * m_39 + 2) v_133 = q_136 := by rw [← eq_136, show Int32.toNatClampNeg (nI (522 + 3 * m_39 + 2)) = 522 + 3 * m_39 + 2 from (nI_clamp (by omega))]
            have ok_141 : RowOK q_136 := by rw [← u_140]; exact rk_upd ok_95 (by refine ⟨⟨by omega, by omega, by omega, by omega, by omega⟩, fun t9 ht9 => ⟨by omega, by omega, by omega, by omega, by omega, by omega⟩, fun t9 k9 ht9 hk9 => ⟨by omega, by omega, by omega⟩, by omega⟩)
            have d_142 := rk_hd ok_141
            have n_143 : (q_136 0).toInt = (q_93 0).toInt := by rw [← u_140, pk_uLn (by omega)]
            have n_144 : (q_136 1).toInt = (q_93 1).toInt := by rw [← u_140, pk_uLn (by omega)]
            have n_145 : (q_136 3).toInt = (q_93 3).toInt := by rw [← u_140, pk_uLn (by omega)]
            have n_146 : (q_136 4).toInt = (q_93 4).toInt := by rw [← u_140, pk_uLn (by omega)]
            have n_147 : (q_136 5).toInt = (q_93 5).toInt := by rw [← u_140, pk_uLn (by omega)]
            refine lv_iinc (v := nI (y_91 + 1)) (lv' := [(3, .int (nI (y_91 + 1))), (2, .int (nI (522 + 3 * m_39))), (0, .ref h0), (1, .int p1)]) hx hb dX12_log_143 hl (k := 0) rfl (nI_1 _) (by decide) rfl (fun ls hl => ?_)
            refine lv_goto (tgt := 99) hx hb dX12_log_146 (by decide) ?_
            exact ih (y_91 + 1) q_136 f_134 _ _ _ (by omega) hI hS k_138 ok_141 k_139 kp_137 (by first | omega | decide | exact Or.inl (by decide)) (fun j9 h9 => by rw [← u_140, pk_uLn (by omega)]; exact t_101 j9 h9) (by rw [← u_140, pk_uLn (by omega)]; exact t_102) (by rw [← u_140, pk_uLs]; omega) (by first | omega | decide | exact Or.inl (by decide)) (by first | omega | decide | exact Or.inl (by decide)) (by first | omega | decide | exact Or.inl (by decide)) (lv_sub hl [0, 1, 2, 3] rfl)
          refine lv_if_eq (tgt := 140) hx hb dX12_log_125 (by decide) (fun c_148 => ?_) (fun c_148 => ?_)
          · have c_148 := kc_eq rfl (by decide : Int32.toInt 0 = 0) c_148
            refine lv_lconst (v := 0) hx hb dX12_log_140 (by decide) ?_
            exact J_141 0 _ _ _ hI hS (by first | omega | decide | exact Or.inl (by decide) | (simp only [show Int64.toInt 0 = 0 from by decide] <;> omega)) (lv_sub hl [0, 1, 2, 3] rfl)
          · have c_148 := kn_eq rfl (by decide : Int32.toInt 0 = 0) c_148
            have d_149 := w_59.2.2 y_91 (by rw [← t_101 0 (by omega)]; omega) (by rw [← t_101 _ (by omega)]; omega)
            refine lv_aload_n hx hb dX12_log_128 rfl (lv_at hl 2 rfl) ?_
            refine lv_iload_n hx hb dX12_log_129 rfl (lv_at hl 0 rfl) ?_
            refine va_calll (va_runV (As := [.int (nI y_91)]) (rest := [.long (q_93 (522 + 3 * m_39 + 2)), .int (nI (522 + 3 * m_39 + 2)), .ref (gr g h0 4)]) ⟨hx, hb, hml, hown, hts⟩ (c_X12_weight l dC dI g A hG f_92 h0 y_91 q_93 i_h0 k_94 ok_95 (by first | omega | decide | (simp only [k_c0, k_c1, k_cm1] <;> omega))) (cwV 1 hts (gi_V (fun w_ h0_ => ⟨List.mem_cons_of_mem _ (List.mem_append_right _ (List.mem_append_right _ (List.mem_append_right _ (List.mem_append_right _ (List.mem_append_left _ h0_))))), (tb_c_X12_weight w_ h0_).2⟩) (List.mem_cons_of_mem _ (List.mem_append_left _ (List.mem_of_getElem? (i := 9) rfl))) (List.mem_cons_of_mem _ (List.mem_append_left _ (List.mem_of_getElem? (i := 10) rfl))) (List.mem_cons_of_mem _ (List.mem_append_left _ (List.mem_of_getElem? (i := 11) rfl))) (List.mem_cons_of_mem _ (List.mem_append_left _ (List.mem_of_getElem? (i := 5) rfl)))) rfl rfl rfl (by decide +kernel) ⟨Nat.le_of_ble_eq_true rfl, Nat.le_of_ble_eq_true rfl⟩) ⟨fun a U g mk q => ⟨q.1, q.2.calling rfl rfl⟩, k_recv hK hI i_h0.1 k_96 (ci := 12) rfl, fun U hU hW => ⟨rfl, kIn.of hI hK hE hS hU hW⟩⟩ rfl rfl hl.1 rfl (lv_room (Nat.le_of_ble_eq_true rfl)) dX12_log_130 ⟨Nat.le_of_ble_eq_true rfl, Nat.le_of_ble_eq_true rfl⟩) hS (fun q _ h => h) (fun q h => h) (fun r_151 u t H1 locs ht hvm w_150 hB hz1 hk1 hS => ?_)
            have hI : Iv dC dI g A f_92 t.heap := hB
            rw [ht] at hI
            generalize H1 = H at hI hS ⊢
            refine W.widen (k := 0) (n := 0) (Nat.le_of_ble_eq_true rfl) (Nat.le_of_ble_eq_true rfl) ?_
            have w_150 : r_151 = q_93 (6 + 43 * y_91) := w_150
            refine k_topl (y := q_93 (6 + 43 * y_91)) w_150 ?_
            have d_152 := rk_0 ok_95 (t := y_91) (by omega)
            refine lv_iconst (v := 4) hx hb dX12_log_133 (by decide) ?_
            refine lv_iload_n hx hb dX12_log_134 rfl (lv_at hl 0 rfl) ?_
            refine lv_imul hx hb dX12_log_135 ?_
            refine k_topi (y := nI (4 * y_91)) ((pk_mul 4 y_91).trans (congrArg nI (by omega))) ?_
            refine lv_lshl hx hb dX12_log_136 rfl ?_
            refine lv_topl (fun v_153 ev_153 => ?_)
            refine lv_goto (tgt := 141) hx hb dX12_log_137 (by decide) ?_
            exact J_141 v_153 _ _ _ hI hS (by first | omega | decide | exact Or.inl (by decide)) (lv_sub hl [0, 1, 2, 3] rfl)
    exact K_99 _ 0 q_79 f_77 _ _ _ (Nat.lt_succ_self _) hI hS k_81 ok_84 k_82 kp_80 (by first | omega | decide | exact Or.inl (by decide)) (fun j9 h9 => by rw [← u_83, pk_uLn (by omega), ← u_67, pk_uLn (by omega)]) (by rw [← u_83, pk_uLn (by omega), ← u_67, pk_uLs]) (by rw [← u_83, pk_uLs]; intro h9; exact absurd (by decide) h9) (by first | omega | decide | exact Or.inl (by decide)) (by first | omega | decide | exact Or.inl (by decide)) (by first | omega | decide | exact Or.inl (by decide)) (lv_sub hl [0, 1, 2, 3] rfl)
  refine lv_if_ne (tgt := 54) hx hb dX12_log_10 (by decide) (fun c_154 => ?_) (fun c_154 => ?_)
  · have c_154 := ln_eq rfl (by decide : Int64.toInt 128 = 128) (fun h9 => c_154 ((lg_cmp_eq _ _).mpr h9))
    exact J_54 q f _ _ _ hI hS hc0 hc0_ok k_3 hk0 (by first | omega | decide | exact Or.inl (by decide)) (by first | omega | decide | exact Or.inl (by decide)) (by first | omega | decide | exact Or.inl (by decide)) (lv_sub hl [0, 1] rfl)
  · have c_154 := lc_eq rfl (by decide : Int64.toInt 128 = 128) ((lg_cmp_eq _ _).mp c_154)
    refine lv_sipush (v := 522) hx hb dX12_log_13 (by decide) ?_
    refine lv_istore_n (lv' := [(2, .int 522), (0, .ref h0), (1, .int p1)]) hx hb dX12_log_16 rfl hl (by decide) rfl (fun ls hl => ?_)
    have K_17 : ∀ (nn : Nat) (y_155 : Nat) (q_157 : Nat → Int64) (f_156 : Nat → va_E) (H : Heap) (locs : List Loc) (ls : Array Slot), 903 - y_155 < nn → Iv dC dI g A f_156 H → va_S A s.heap H locs → f_156 (gr g h0 4) = .inl (gc g 1, 906, .inr (.inl q_157)) → f_156 h0 = .inr (12, [.int x_4, .int x_5, .ref (gr g h0 2), .ref (gr g h0 3), .ref (gr g h0 4), .ref (gr g h0 5), .ref (gr g h0 6), .ref (gr g h0 7), .ref (gr g h0 8), .ref (gr g h0 9), .int x_6, .ref (gr g h0 11), .int x_7, .int x_8, .int x_9, .int x_10, .long x_11, .int x_12, .int x_13, .ref (gr g h0 19), .ref (gr g h0 20), .ref (gr g h0 21), .ref (gr g h0 22), .int x_14, .long x_15, .long x_16, .long x_17]) → Kp g [32] f f_156 → (522 ≤ y_155 ∧ y_155 ≤ 903) → (∀ j : Nat, 522 ≤ j → j < y_155 → q_157 j = q (j + 3)) → (∀ j : Nat, (j < 522 ∨ y_155 ≤ j) → q_157 j = q j) → lv_has ls 4 [(2, .int (nI y_155)), (0, .ref h0), (1, .int p1)] → W p l e (headSpec wq_c_X12_log ({ frames := 3, cells := 0, slots := 0, locals := 64 } : Room)).room s m ([.ref h0, .int p1].toArray) below meth c H locs 0 0 (MQ below (va_Qv (fun (_ : Unit) => True) (fun (_ : Unit) t => ∃ f1 : Nat → va_E, Iv dC dI g A f1 t.heap ∧ Kp g [32] f f1 ∧ ∃ (q1 : Nat → Int64), (f1 (gr g h0 4) = .inl (gc g 1, 906, .inr (.inl q1))) ∧ (RowOK q1) ∧ ((q1 0).toInt = (q 0).toInt) ∧ ((q1 1).toInt = (q 1).toInt)) A) ([.ref h0, .int p1].toArray) s 0 0 A) (F0 m 17 ls []) := by
      intro nn
      induction nn with
      | zero => intro y_155 q_157 f_156 H locs ls m_164; exact absurd m_164 (Nat.not_lt_zero _)
      | succ nn ih =>
        intro y_155 q_157 f_156 H locs ls m_164 hI hS k_158 k_159 kp_160 t_161 t_162 t_163 hl
        refine lv_iload_n hx hb dX12_log_17 rfl (lv_at hl 0 rfl) ?_
        refine lv_sipush (v := 903) hx hb dX12_log_18 (by decide) ?_
        refine lv_icmp_ge (tgt := 44) hx hb dX12_log_21 (by decide) (fun c_165 => ?_) (fun c_165 => ?_)
        · have c_165 := kc_le (by decide : Int32.toInt 903 = 903) (nI_toInt (n := y_155) (by omega)) c_165
          refine lv_aload_n hx hb dX12_log_44 rfl (lv_at hl 1 rfl) ?_
          refine k_get (ci := 12) (v := .ref (gr g h0 4)) (C := RX12) (T := TX12) (N := 27) hx hb hts (fun _ h0_ => List.mem_cons_of_mem _ (List.mem_append_right _ (List.mem_append_left _ h0_))) hown hK hI i_h0.1 k_159 rfl 4 (by decide) (hts (.fieldLink RX12 16 "DeadlineShareModel" "row" "[J") (List.mem_cons_of_mem _ (List.mem_append_left _ (List.mem_of_getElem? (i := 0) rfl)))) (fun _ h9 => h9) rfl dX12_log_45 ?_
          refine lv_iconst (v := 5) hx hb dX12_log_48 (by decide) ?_
          refine lv_dup2_11 hx hb dX12_log_49 rfl rfl ?_
          refine k_lald hx hb hK hI i_1.1 1 k_158 rfl (by unfold vp_in; decide) dX12_log_50 ?_
          refine k_topl (y := q_157 5) (congrArg q_157 (show Int32.toNatClampNeg 5 = 5 by decide)) ?_
          refine lv_lconst (v := 1) hx hb dX12_log_51 (by decide) ?_
          refine lv_lsub hx hb dX12_log_52 ?_
          refine lv_topl (fun v_168 ev_168 => ?_)
          have tv_168 := l_sb (q_157 5) 1
          rw [← ev_168, show Int64.toInt 1 = 1 from by decide] at tv_168
          refine k_last hx hb hK hI hS i_1.1 1 k_158 rfl (by unfold vp_in; decide) (cl_32 i_1) dX12_log_53 (fun f_169 H locs e_170 hI hS => ?_)
          generalize eq_171 : vp_updL q_157 (Int32.toNatClampNeg 5) v_168 = q_171 at e_170
          have k_173 : f_169 (gr g h0 4) = .inl (gc g 1, 906, .inr (.inl q_171)) := by rw [e_170]; exact va_up_self _ _ _
          have k_174 : f_169 h0 = .inr (12, [.int x_4, .int x_5, .ref (gr g h0 2), .ref (gr g h0 3), .ref (gr g h0 4), .ref (gr g h0 5), .ref (gr g h0 6), .ref (gr g h0 7), .ref (gr g h0 8), .ref (gr g h0 9), .int x_6, .ref (gr g h0 11), .int x_7, .int x_8, .int x_9, .int x_10, .long x_11, .int x_12, .int x_13, .ref (gr g h0 19), .ref (gr g h0 20), .ref (gr g h0 21), .ref (gr g h0 22), .int x_14, .long x_15, .long x_16, .long x_17]) := by rw [e_170, va_up_ne _ _ (ik_ne i_h0 i_1 (by decide))]; exact k_159
          have kp_172 := Kp.put kp_160 i_1 (by decide) e_170
          have u_175 : vp_updL q_157 5 v_168 = q_171 := by rw [← eq_171, show Int32.toNatClampNeg 5 = 5 from (show Int32.toNatClampNeg 5 = 5 by decide)]
          have n_177 : (q_157 0).toInt = (q 0).toInt := by rw [t_163 0 (by omega)]
          have n_178 : (q_157 1).toInt = (q 1).toInt := by rw [t_163 1 (by omega)]
          have n_179 : (q_157 5).toInt = (q 5).toInt := by rw [t_163 5 (by omega)]
          have ok_176 : RowOK q_171 := by rw [← u_175]; exact rk_shift hc0_ok (by omega) (fun j9 h9 h8 => t_162 j9 h9 (by omega)) (fun j9 h9 => t_163 j9 (by omega)) (by omega)
          have d_180 := rk_hd ok_176
          have n_181 : (q_171 0).toInt = (q_157 0).toInt := by rw [← u_175, pk_uLn (by omega)]
          have n_182 : (q_171 1).toInt = (q_157 1).toInt := by rw [← u_175, pk_uLn (by omega)]
          have n_183 : (q_171 3).toInt = (q_157 3).toInt := by rw [← u_175, pk_uLn (by omega)]
          have n_184 : (q_171 4).toInt = (q_157 4).toInt := by rw [← u_175, pk_uLn (by omega)]
          have n_185 : (q_171 5).toInt = Int64.toInt v_168 := by rw [← u_175, pk_uLs]
          exact J_54 q_171 f_169 _ _ _ hI hS k_173 ok_176 k_174 kp_172 (by first | omega | decide | exact Or.inl (by decide)) (by first | omega | decide | exact Or.inl (by decide)) (by first | omega | decide | exact Or.inl (by decide)) (lv_sub hl [1, 2] rfl)
        · have c_165 := kn_le (by decide : Int32.toInt 903 = 903) (nI_toInt (n := y_155) (by omega)) c_165
          refine lv_aload_n hx hb dX12_log_24 rfl (lv_at hl 1 rfl) ?_
          refine k_get (ci := 12) (v := .ref (gr g h0 4)) (C := RX12) (T := TX12) (N := 27) hx hb hts (fun _ h0_ => List.mem_cons_of_mem _ (List.mem_append_right _ (List.mem_append_left _ h0_))) hown hK hI i_h0.1 k_159 rfl 4 (by decide) (hts (.fieldLink RX12 16 "DeadlineShareModel" "row" "[J") (List.mem_cons_of_mem _ (List.mem_append_left _ (List.mem_of_getElem? (i := 0) rfl)))) (fun _ h9 => h9) rfl dX12_log_25 ?_
          refine lv_iload_n hx hb dX12_log_28 rfl (lv_at hl 0 rfl) ?_
          refine lv_aload_n hx hb dX12_log_29 rfl (lv_at hl 1 rfl) ?_
          refine k_get (ci := 12) (v := .ref (gr g h0 4)) (C := RX12) (T := TX12) (N := 27) hx hb hts (fun _ h0_ => List.mem_cons_of_mem _ (List.mem_append_right _ (List.mem_append_left _ h0_))) hown hK hI i_h0.1 k_159 rfl 4 (by decide) (hts (.fieldLink RX12 16 "DeadlineShareModel" "row" "[J") (List.mem_cons_of_mem _ (List.mem_append_left _ (List.mem_of_getElem? (i := 0) rfl)))) (fun _ h9 => h9) rfl dX12_log_30 ?_
          refine lv_iload_n hx hb dX12_log_33 rfl (lv_at hl 0 rfl) ?_
          refine lv_iconst (v := 3) hx hb dX12_log_34 (by decide) ?_
          refine lv_iadd hx hb dX12_log_35 ?_
          refine k_topi (y := nI (y_155 + 3)) ((nI_add y_155 3).trans (congrArg nI (by omega))) ?_
          refine k_lald hx hb hK hI i_1.1 1 k_158 rfl (vp_in_nI (by omega) (by omega)) dX12_log_36 ?_
          refine k_topl (y := q_157 (y_155 + 3)) (congrArg q_157 (nI_clamp (by omega))) ?_
          refine k_last hx hb hK hI hS i_1.1 1 k_158 rfl (vp_in_nI (by omega) (by omega)) (cl_32 i_1) dX12_log_37 (fun f_190 H locs e_191 hI hS => ?_)
          generalize eq_192 : vp_updL q_157 (Int32.toNatClampNeg (nI y_155)) (q_157 (y_155 + 3)) = q_192 at e_191
          have k_194 : f_190 (gr g h0 4) = .inl (gc g 1, 906, .inr (.inl q_192)) := by rw [e_191]; exact va_up_self _ _ _
          have k_195 : f_190 h0 = .inr (12, [.int x_4, .int x_5, .ref (gr g h0 2), .ref (gr g h0 3), .ref (gr g h0 4), .ref (gr g h0 5), .ref (gr g h0 6), .ref (gr g h0 7), .ref (gr g h0 8), .ref (gr g h0 9), .int x_6, .ref (gr g h0 11), .int x_7, .int x_8, .int x_9, .int x_10, .long x_11, .int x_12, .int x_13, .ref (gr g h0 19), .ref (gr g h0 20), .ref (gr g h0 21), .ref (gr g h0 22), .int x_14, .long x_15, .long x_16, .long x_17]) := by rw [e_191, va_up_ne _ _ (ik_ne i_h0 i_1 (by decide))]; exact k_159
          have kp_193 := Kp.put kp_160 i_1 (by decide) e_191
          have u_196 : vp_updL q_157 y_155 (q_157 (y_155 + 3)) = q_192 := by rw [← eq_192, show Int32.toNatClampNeg (nI y_155) = y_155 from (nI_clamp (by omega))]
          refine lv_iinc (v := nI (y_155 + 1)) (lv' := [(2, .int (nI (y_155 + 1))), (0, .ref h0), (1, .int p1)]) hx hb dX12_log_38 hl (k := 0) rfl (nI_1 _) (by decide) rfl (fun ls hl => ?_)
          refine lv_goto (tgt := 17) hx hb dX12_log_41 (by decide) ?_
          exact ih (y_155 + 1) q_192 f_190 _ _ _ (by omega) hI hS k_194 k_195 kp_193 (by first | omega | decide | exact Or.inl (by decide)) (fun j9 h9 h8 => by rw [← u_196]; exact if h7 : j9 = y_155 then (by subst h7; rw [pk_uLs]; exact t_163 _ (by omega)) else (by rw [pk_uLn (by omega)]; exact t_162 j9 h9 (by omega))) (fun j9 h9 => by rw [← u_196, pk_uLn (by omega)]; exact t_163 j9 (by omega)) (lv_sub hl [0, 1, 2] rfl)
    exact K_17 _ 522 q f _ _ _ (Nat.lt_succ_self _) hI hS hc0 k_3 hk0 (by first | omega | decide | exact Or.inl (by decide)) (fun j9 h9 h8 => by omega) (fun j9 h9 => rfl) (lv_sub hl [0, 1, 2] rfl)
theorem tw_851 : q_g (.selects RX12 yX12_wake yX12_wake) := ⟨(List.mem_append_left _ (List.mem_of_getElem? (i := 49) (by decide +kernel))), good_of_word (by decide +kernel)⟩
theorem tw_852 : q_g (.instanceMethod yX12_wake) := ⟨(List.mem_append_right _ (List.mem_of_getElem? (i := 1403) (by decide +kernel))), good_of_word (by decide +kernel)⟩
theorem tw_853 : q_g (.methodLink RX12 274 yX12_wake) := ⟨(List.mem_append_right _ (List.mem_of_getElem? (i := 1401) (by decide +kernel))), good_of_word (by decide +kernel)⟩
theorem tw_854 : q_g (.constantLong RX12 124 (3)) := ⟨(List.mem_append_right _ (List.mem_of_getElem? (i := 1199) (by decide +kernel))), good_of_word (by decide +kernel)⟩
theorem tw_855 : q_g (.selects RX12 yX12_runs yX12_runs) := ⟨(List.mem_append_left _ (List.mem_of_getElem? (i := 57) (by decide +kernel))), good_of_word (by decide +kernel)⟩
theorem tw_856 : q_g (.instanceMethod yX12_runs) := ⟨(List.mem_append_right _ (List.mem_of_getElem? (i := 1439) (by decide +kernel))), good_of_word (by decide +kernel)⟩
theorem tw_857 : q_g (.methodLink RX12 283 yX12_runs) := ⟨(List.mem_append_right _ (List.mem_of_getElem? (i := 1437) (by decide +kernel))), good_of_word (by decide +kernel)⟩
theorem tw_858 : q_g (.selects RX12 yX12_log yX12_log) := ⟨(List.mem_append_left _ (List.mem_of_getElem? (i := 56) (by decide +kernel))), good_of_word (by decide +kernel)⟩
theorem tw_859 : q_g (.instanceMethod yX12_log) := ⟨(List.mem_append_right _ (List.mem_of_getElem? (i := 1434) (by decide +kernel))), good_of_word (by decide +kernel)⟩
theorem tw_860 : q_g (.methodLink RX12 280 yX12_log) := ⟨(List.mem_append_right _ (List.mem_of_getElem? (i := 1432) (by decide +kernel))), good_of_word (by decide +kernel)⟩
theorem tw_861 : q_g (.selects RX12 yX12_chosen yX12_chosen) := ⟨(List.mem_append_left _ (List.mem_of_getElem? (i := 50) (by decide +kernel))), good_of_word (by decide +kernel)⟩
theorem tw_862 : q_g (.instanceMethod yX12_chosen) := ⟨(List.mem_append_right _ (List.mem_of_getElem? (i := 1407) (by decide +kernel))), good_of_word (by decide +kernel)⟩
theorem tw_863 : q_g (.methodLink RX12 277 yX12_chosen) := ⟨(List.mem_append_right _ (List.mem_of_getElem? (i := 1405) (by decide +kernel))), good_of_word (by decide +kernel)⟩
theorem tw_864 : q_g (.code yX12_tick cX12_tick 4 (some .int)) := ⟨(List.mem_append_right _ (List.mem_of_getElem? (i := 1400) (by decide +kernel))), good_of_word (by decide +kernel)⟩
def ow_c_X12_tick : List Cond := [.fieldLink RX12 16 "DeadlineShareModel" "row" "[J", .methodLink RX12 277 yX12_chosen, .instanceMethod yX12_chosen, .selects RX12 yX12_chosen yX12_chosen, .initialized RX12, .methodLink RX12 280 yX12_log, .instanceMethod yX12_log, .selects RX12 yX12_log yX12_log, .methodLink RX12 283 yX12_runs, .instanceMethod yX12_runs, .selects RX12 yX12_runs yX12_runs, .methodLink RX12 87 yX12_at, .static yX12_at, .methodLink RX12 90 yX12_isOn, .instanceMethod yX12_isOn, .selects RX12 yX12_isOn yX12_isOn, .methodLink RX12 145 yX12_isSpent, .instanceMethod yX12_isSpent, .selects RX12 yX12_isSpent yX12_isSpent, .methodLink RX12 154 yX12_leaves, .instanceMethod yX12_leaves, .selects RX12 yX12_leaves yX12_leaves, .constantLong RX12 124 (3), .methodLink RX12 223 yX12_goOn, .instanceMethod yX12_goOn, .selects RX12 yX12_goOn yX12_goOn, .constantLong RX12 122 (2), .methodLink RX12 274 yX12_wake, .instanceMethod yX12_wake, .selects RX12 yX12_wake yX12_wake, .methodLink RX12 148 yX12_hasRoom, .instanceMethod yX12_hasRoom, .selects RX12 yX12_hasRoom yX12_hasRoom, .methodLink RX12 151 yX12_joins, .instanceMethod yX12_joins, .selects RX12 yX12_joins yX12_joins]
def wq_c_X12_tick : List Cond := .code yX12_tick cX12_tick 4 (some .int) :: (ow_c_X12_tick ++ (u_ws RX12 TX12 27 ++ (wq_c_X12_chosen ++ (wq_c_X12_log ++ (wq_c_X12_runs ++ (wq_c_X12_at ++ (wq_c_X12_isOn ++ (wq_c_X12_isSpent ++ (wq_c_X12_leaves ++ (wq_c_X12_goOn ++ (wq_c_X12_wake ++ (wq_c_X12_hasRoom ++ (wq_c_X12_joins ++ ([] : List Cond))))))))))))))
theorem tb_c_X12_tick : ∀ w ∈ wq_c_X12_tick, q_g w := by
  unfold wq_c_X12_tick ow_c_X12_tick
  exact q_cons tw_864 (q_app (q_cons tw_731 (q_cons tw_863 (q_cons tw_862 (q_cons tw_861 (q_cons tw_728 (q_cons tw_860 (q_cons tw_859 (q_cons tw_858 (q_cons tw_857 (q_cons tw_856 (q_cons tw_855 (q_cons tw_734 (q_cons tw_733 (q_cons tw_744 (q_cons tw_743 (q_cons tw_742 (q_cons tw_844 (q_cons tw_843 (q_cons tw_842 (q_cons tw_834 (q_cons tw_833 (q_cons tw_832 (q_cons tw_854 (q_cons tw_838 (q_cons tw_837 (q_cons tw_836 (q_cons tw_822 (q_cons tw_853 (q_cons tw_852 (q_cons tw_851 (q_cons tw_847 (q_cons tw_846 (q_cons tw_845 (q_cons tw_841 (q_cons tw_840 (q_cons tw_839 q_nil)))))))))))))))))))))))))))))))))))) (q_app tu_X12 (q_app tb_c_X12_chosen (q_app tb_c_X12_log (q_app tb_c_X12_runs (q_app tb_c_X12_at (q_app tb_c_X12_isOn (q_app tb_c_X12_isSpent (q_app tb_c_X12_leaves (q_app tb_c_X12_goOn (q_app tb_c_X12_wake (q_app tb_c_X12_hasRoom (q_app tb_c_X12_joins q_nil)))))))))))))
set_option maxHeartbeats 4000000 in
set_option maxRecDepth 100000 in
theorem c_X12_tick (l : Launch) (dC : Nat → ClassId) (dI : Nat → Nat → Nat) (g : kG) (A : Nat → Prop) (hG : kWf g) (f : Nat → va_E) (h0 : Nat) (p1 : Int32) (z0 : Int32) (z1 : Int32) (z10 : Int32) (z12 : Int32) (z13 : Int32) (z14 : Int32) (z15 : Int32) (z16 : Int64) (z17 : Int32) (z18 : Int32) (z23 : Int32) (z24 : Int64) (z25 : Int64) (z26 : Int64) (q : Nat → Int64) (i_h0 : ik g 12 h0) (hc0 : f h0 = .inr (12, [.int z0, .int z1, .ref (gr g h0 2), .ref (gr g h0 3), .ref (gr g h0 4), .ref (gr g h0 5), .ref (gr g h0 6), .ref (gr g h0 7), .ref (gr g h0 8), .ref (gr g h0 9), .int z10, .ref (gr g h0 11), .int z12, .int z13, .int z14, .int z15, .long z16, .int z17, .int z18, .ref (gr g h0 19), .ref (gr g h0 20), .ref (gr g h0 21), .ref (gr g h0 22), .int z23, .long z24, .long z25, .long z26])) (hc0_10 : 0 ≤ z10.toInt ∧ z10.toInt ≤ 10) (hc0_12 : 0 ≤ z12.toInt ∧ z12.toInt ≤ 200) (hc0_23 : 0 ≤ z23.toInt ∧ z23.toInt ≤ 8) (hc1 : f (gr g h0 4) = .inl (gc g 1, 906, .inr (.inl q))) (hc1_ok : RowOK q) (hT : (q 1).toInt ≤ 9998) : Met l yX12_tick wq_c_X12_tick ({ frames := 7, cells := 0, slots := 0, locals := 164 } : Room) (va_Pc [.ref h0, .int p1] (fun U => kIn dC dI g A f U)) (va_Qi (fun (r : Int32) (_ : Unit) => -1 ≤ r.toInt ∧ r.toInt < (q 0).toInt) (fun (_ : Unit) t => ∃ f1 : Nat → va_E, Iv dC dI g A f1 t.heap ∧ Kp g [12, 32] f f1 ∧ ∃ (w24 : Int64) (q1 : Nat → Int64), (f1 h0 = .inr (12, [.int z0, .int z1, .ref (gr g h0 2), .ref (gr g h0 3), .ref (gr g h0 4), .ref (gr g h0 5), .ref (gr g h0 6), .ref (gr g h0 7), .ref (gr g h0 8), .ref (gr g h0 9), .int z10, .ref (gr g h0 11), .int z12, .int z13, .int z14, .int z15, .long z16, .int z17, .int z18, .ref (gr g h0 19), .ref (gr g h0 20), .ref (gr g h0 21), .ref (gr g h0 22), .int z23, .long w24, .long z25, .long z26])) ∧ (f1 (gr g h0 4) = .inl (gc g 1, 906, .inr (.inl q1))) ∧ (RowOK q1) ∧ ((q1 0).toInt = (q 0).toInt) ∧ ((q1 1).toInt = (q 1).toInt + 1)) A) 0 0 A := by
  refine Met.ofW (cc := cX12_tick) (maxL := 4) (ret := (some .int)) (by decide) rfl ?_
  intro p e s m args below meth c s₁ B hml hv
  obtain ⟨rfl, hI, hK, hE⟩ := hv
  have hx := B.exec
  have hb := B.bytes
  have hr := B.returns
  have hts := atoms_spec (ws := wq_c_X12_tick) B.pre
  have hown : s.vm.findClass RX12 = some m.cls := findClass_of_methodNamed B.named
  have hlocks := B.notSynchronized
  have hS : va_S A s.heap s.heap [] := va_S.rf
  have hk0 : Kp g [12, 32] f f := Kp.rf
  have hl := lv_entry ([.ref h0, .int p1]) (n := 4) (Nat.le_of_ble_eq_true rfl)
  rw [lg_entry_eq]
  generalize (lg_sl ([.ref h0, .int p1]) ++ List.replicate (4 - (lg_sl ([.ref h0, .int p1])).length) Slot.unset).toArray = ls at hl ⊢
  have hl : lv_has ls 4 [(0, .ref h0), (1, .int p1)] := hl
  have i_1 := kw_12_4 hG i_h0
  have d_2 := rk_hd hc1_ok
  refine lv_iconst (v := 0) hx hb dX12_tick_0 (by decide) ?_
  refine lv_istore_n (lv' := [(2, .int 0), (0, .ref h0), (1, .int p1)]) hx hb dX12_tick_1 rfl hl (by decide) rfl (fun ls hl => ?_)
  have K_2 : ∀ (nn : Nat) (y_3 : Nat) (q_5 : Nat → Int64) (f_4 : Nat → va_E) (H : Heap) (locs : List Loc) (ls : Array Slot), 12 - y_3 < nn → Iv dC dI g A f_4 H → va_S A s.heap H locs → f_4 (gr g h0 4) = .inl (gc g 1, 906, .inr (.inl q_5)) → RowOK q_5 → f_4 h0 = .inr (12, [.int z0, .int z1, .ref (gr g h0 2), .ref (gr g h0 3), .ref (gr g h0 4), .ref (gr g h0 5), .ref (gr g h0 6), .ref (gr g h0 7), .ref (gr g h0 8), .ref (gr g h0 9), .int z10, .ref (gr g h0 11), .int z12, .int z13, .int z14, .int z15, .long z16, .int z17, .int z18, .ref (gr g h0 19), .ref (gr g h0 20), .ref (gr g h0 21), .ref (gr g h0 22), .int z23, .long z24, .long z25, .long z26]) → Kp g [12, 32] f f_4 → (y_3 ≤ 12) → ((q_5 0).toInt = (q 0).toInt) → ((q_5 1).toInt = (q 1).toInt) → lv_has ls 4 [(2, .int (nI y_3)), (0, .ref h0), (1, .int p1)] → W p l e (headSpec wq_c_X12_tick ({ frames := 7, cells := 0, slots := 0, locals := 164 } : Room)).room s m ([.ref h0, .int p1].toArray) below meth c H locs 0 0 (MQ below (va_Qi (fun (r : Int32) (_ : Unit) => -1 ≤ r.toInt ∧ r.toInt < (q 0).toInt) (fun (_ : Unit) t => ∃ f1 : Nat → va_E, Iv dC dI g A f1 t.heap ∧ Kp g [12, 32] f f1 ∧ ∃ (w24 : Int64) (q1 : Nat → Int64), (f1 h0 = .inr (12, [.int z0, .int z1, .ref (gr g h0 2), .ref (gr g h0 3), .ref (gr g h0 4), .ref (gr g h0 5), .ref (gr g h0 6), .ref (gr g h0 7), .ref (gr g h0 8), .ref (gr g h0 9), .int z10, .ref (gr g h0 11), .int z12, .int z13, .int z14, .int z15, .long z16, .int z17, .int z18, .ref (gr g h0 19), .ref (gr g h0 20), .ref (gr g h0 21), .ref (gr g h0 22), .int z23, .long w24, .long z25, .long z26])) ∧ (f1 (gr g h0 4) = .inl (gc g 1, 906, .inr (.inl q1))) ∧ (RowOK q1) ∧ ((q1 0).toInt = (q 0).toInt) ∧ ((q1 1).toInt = (q 1).toInt + 1)) A) ([.ref h0, .int p1].toArray) s 0 0 A) (F0 m 2 ls []) := by
    intro nn
    induction nn with
    | zero => intro y_3 q_5 f_4 H locs ls m_13; exact absurd m_13 (Nat.not_lt_zero _)
    | succ nn ih =>
      intro y_3 q_5 f_4 H locs ls m_13 hI hS k_6 ok_7 k_8 kp_9 t_12 t_10 t_11 hl
      have d_14 := rk_hd ok_7
      refine lv_iload_n hx hb dX12_tick_2 rfl (lv_at hl 0 rfl) ?_
      refine lv_i2l (v := lN (y_3)) hx hb dX12_tick_3 (nI_l (by omega)) ?_
      refine lv_aload_n hx hb dX12_tick_4 rfl (lv_at hl 1 rfl) ?_
      refine k_get (ci := 12) (v := .ref (gr g h0 4)) (C := RX12) (T := TX12) (N := 27) hx hb hts (fun _ h0_ => List.mem_cons_of_mem _ (List.mem_append_right _ (List.mem_append_left _ h0_))) hown hK hI i_h0.1 k_8 rfl 4 (by decide) (hts (.fieldLink RX12 16 "DeadlineShareModel" "row" "[J") (List.mem_cons_of_mem _ (List.mem_append_left _ (List.mem_of_getElem? (i := 0) rfl)))) (fun _ h9 => h9) rfl dX12_tick_5 ?_
      refine lv_iconst (v := 0) hx hb dX12_tick_8 (by decide) ?_
      refine k_lald hx hb hK hI i_1.1 1 k_6 rfl (by unfold vp_in; decide) dX12_tick_9 ?_
      refine k_topl (y := q_5 0) (congrArg q_5 (show Int32.toNatClampNeg 0 = 0 by decide)) ?_
      refine W.lcmp hx hb dX12_tick_10 ?_
      refine lv_if_ge (tgt := 90) hx hb dX12_tick_11 (by decide) (fun c_17 => ?_) (fun c_17 => ?_)
      · have c_17 := lc_le rfl (lN_toInt (n := y_3) (by omega)) ((lg_cmp_ge _ _).mp c_17)
        refine lv_iconst (v := 0) hx hb dX12_tick_90 (by decide) ?_
        refine lv_istore_n (lv' := [(2, .int 0), (0, .ref h0), (1, .int p1)]) hx hb dX12_tick_91 rfl hl (by decide) rfl (fun ls hl => ?_)
        have K_92 : ∀ (nn : Nat) (y_18 : Nat) (q_20 : Nat → Int64) (f_19 : Nat → va_E) (H : Heap) (locs : List Loc) (ls : Array Slot), 12 - y_18 < nn → Iv dC dI g A f_19 H → va_S A s.heap H locs → f_19 (gr g h0 4) = .inl (gc g 1, 906, .inr (.inl q_20)) → RowOK q_20 → f_19 h0 = .inr (12, [.int z0, .int z1, .ref (gr g h0 2), .ref (gr g h0 3), .ref (gr g h0 4), .ref (gr g h0 5), .ref (gr g h0 6), .ref (gr g h0 7), .ref (gr g h0 8), .ref (gr g h0 9), .int z10, .ref (gr g h0 11), .int z12, .int z13, .int z14, .int z15, .long z16, .int z17, .int z18, .ref (gr g h0 19), .ref (gr g h0 20), .ref (gr g h0 21), .ref (gr g h0 22), .int z23, .long z24, .long z25, .long z26]) → Kp g [12, 32] f f_19 → (y_18 ≤ 12) → ((q_20 0).toInt = (q 0).toInt) → ((q_20 1).toInt = (q 1).toInt) → lv_has ls 4 [(2, .int (nI y_18)), (0, .ref h0), (1, .int p1)] → W p l e (headSpec wq_c_X12_tick ({ frames := 7, cells := 0, slots := 0, locals := 164 } : Room)).room s m ([.ref h0, .int p1].toArray) below meth c H locs 0 0 (MQ below (va_Qi (fun (r : Int32) (_ : Unit) => -1 ≤ r.toInt ∧ r.toInt < (q 0).toInt) (fun (_ : Unit) t => ∃ f1 : Nat → va_E, Iv dC dI g A f1 t.heap ∧ Kp g [12, 32] f f1 ∧ ∃ (w24 : Int64) (q1 : Nat → Int64), (f1 h0 = .inr (12, [.int z0, .int z1, .ref (gr g h0 2), .ref (gr g h0 3), .ref (gr g h0 4), .ref (gr g h0 5), .ref (gr g h0 6), .ref (gr g h0 7), .ref (gr g h0 8), .ref (gr g h0 9), .int z10, .ref (gr g h0 11), .int z12, .int z13, .int z14, .int z15, .long z16, .int z17, .int z18, .ref (gr g h0 19), .ref (gr g h0 20), .ref (gr g h0 21), .ref (gr g h0 22), .int z23, .long w24, .long z25, .long z26])) ∧ (f1 (gr g h0 4) = .inl (gc g 1, 906, .inr (.inl q1))) ∧ (RowOK q1) ∧ ((q1 0).toInt = (q 0).toInt) ∧ ((q1 1).toInt = (q 1).toInt + 1)) A) ([.ref h0, .int p1].toArray) s 0 0 A) (F0 m 92 ls []) := by
          intro nn_92
          induction nn_92 with
          | zero => intro y_18 q_20 f_19 H locs ls m_28; exact absurd m_28 (Nat.not_lt_zero _)
          | succ nn_92 ih_92 =>
            intro y_18 q_20 f_19 H locs ls m_28 hI hS k_21 ok_22 k_23 kp_24 t_27 t_25 t_26 hl
            have d_29 := rk_hd ok_22
            refine lv_iload_n hx hb dX12_tick_92 rfl (lv_at hl 0 rfl) ?_
            refine lv_i2l (v := lN (y_18)) hx hb dX12_tick_93 (nI_l (by omega)) ?_
            refine lv_aload_n hx hb dX12_tick_94 rfl (lv_at hl 1 rfl) ?_
            refine k_get (ci := 12) (v := .ref (gr g h0 4)) (C := RX12) (T := TX12) (N := 27) hx hb hts (fun _ h0_ => List.mem_cons_of_mem _ (List.mem_append_right _ (List.mem_append_left _ h0_))) hown hK hI i_h0.1 k_23 rfl 4 (by decide) (hts (.fieldLink RX12 16 "DeadlineShareModel" "row" "[J") (List.mem_cons_of_mem _ (List.mem_append_left _ (List.mem_of_getElem? (i := 0) rfl)))) (fun _ h9 => h9) rfl dX12_tick_95 ?_
            refine lv_iconst (v := 0) hx hb dX12_tick_98 (by decide) ?_
            refine k_lald hx hb hK hI i_1.1 1 k_21 rfl (by unfold vp_in; decide) dX12_tick_99 ?_
            refine k_topl (y := q_20 0) (congrArg q_20 (show Int32.toNatClampNeg 0 = 0 by decide)) ?_
            refine W.lcmp hx hb dX12_tick_100 ?_
            refine lv_if_ge (tgt := 197) hx hb dX12_tick_101 (by decide) (fun c_32 => ?_) (fun c_32 => ?_)
            · have c_32 := lc_le rfl (lN_toInt (n := y_18) (by omega)) ((lg_cmp_ge _ _).mp c_32)
              refine lv_aload_n hx hb dX12_tick_197 rfl (lv_at hl 1 rfl) ?_
              refine lv_iload_n hx hb dX12_tick_198 rfl (lv_at hl 2 rfl) ?_
              refine va_calli (va_runV (As := [.int p1]) (rest := []) ⟨hx, hb, hml, hown, hts⟩ (c_X12_chosen l dC dI g A hG f_19 h0 p1 z0 z1 z10 z12 z13 z14 z15 z16 z17 z18 z23 z24 z25 z26 q_20 i_h0 k_23 (by first | omega | (simp only [k_c0]; omega)) (by first | omega | (simp only [k_c0]; omega)) (by first | omega | (simp only [k_c0]; omega)) k_21 ok_22) (cwV 1 hts (gi_V (fun w_ h0_ => ⟨List.mem_cons_of_mem _ (List.mem_append_right _ (List.mem_append_right _ (List.mem_append_left _ h0_))), (tb_c_X12_chosen w_ h0_).2⟩) (List.mem_cons_of_mem _ (List.mem_append_left _ (List.mem_of_getElem? (i := 1) rfl))) (List.mem_cons_of_mem _ (List.mem_append_left _ (List.mem_of_getElem? (i := 2) rfl))) (List.mem_cons_of_mem _ (List.mem_append_left _ (List.mem_of_getElem? (i := 3) rfl))) (List.mem_cons_of_mem _ (List.mem_append_left _ (List.mem_of_getElem? (i := 4) rfl)))) rfl rfl rfl (by decide +kernel) ⟨Nat.le_of_ble_eq_true rfl, Nat.le_of_ble_eq_true rfl⟩) ⟨fun a U g mk q => ⟨q.1, q.2.calling rfl rfl⟩, k_recv hK hI i_h0.1 k_23 (ci := 12) rfl, fun U hU hW => ⟨rfl, kIn.of hI hK hE hS hU hW⟩⟩ rfl rfl hl.1 rfl (lv_room (Nat.le_of_ble_eq_true rfl)) dX12_tick_199 ⟨Nat.le_of_ble_eq_true rfl, Nat.le_of_ble_eq_true rfl⟩) hS (fun q _ h => h) (fun q h => h) (fun r_35 u t H1 locs ht hvm w_34 hB hz1 hk1 hS => ?_)
              obtain ⟨f_33, hI, kc_36, w24_37, k_38⟩ := hB
              rw [ht] at hI
              have k_39 : f_33 (gr g h0 4) = .inl (gc g 1, 906, .inr (.inl q_20)) := Kp.at kc_36 i_1 (by decide) k_21
              have k_38 : f_33 h0 = .inr (12, [.int z0, .int z1, .ref (gr g h0 2), .ref (gr g h0 3), .ref (gr g h0 4), .ref (gr g h0 5), .ref (gr g h0 6), .ref (gr g h0 7), .ref (gr g h0 8), .ref (gr g h0 9), .int z10, .ref (gr g h0 11), .int z12, .int z13, .int z14, .int z15, .long z16, .int z17, .int z18, .ref (gr g h0 19), .ref (gr g h0 20), .ref (gr g h0 21), .ref (gr g h0 22), .int z23, .long w24_37, .long z25, .long z26]) := k_38
              have kp_40 := Kp.call kp_24 kc_36 (by decide)
              generalize H1 = H at hI hS ⊢
              refine W.widen (k := 0) (n := 0) (Nat.le_of_ble_eq_true rfl) (Nat.le_of_ble_eq_true rfl) ?_
              have w_34 : -1 ≤ r_35.toInt ∧ r_35.toInt < (q_20 0).toInt := w_34
              refine lv_istore_n (lv' := [(2, .int r_35), (0, .ref h0), (1, .int p1)]) hx hb dX12_tick_202 rfl hl (by decide) rfl (fun ls hl => ?_)
              refine lv_aload_n hx hb dX12_tick_203 rfl (lv_at hl 1 rfl) ?_
              refine lv_iload_n hx hb dX12_tick_204 rfl (lv_at hl 0 rfl) ?_
              refine va_callv (va_runV (As := [.int r_35]) (rest := []) ⟨hx, hb, hml, hown, hts⟩ (c_X12_log l dC dI g A hG f_33 h0 r_35 q_20 i_h0 k_39 ok_22) (cwV 1 hts (gi_V (fun w_ h0_ => ⟨List.mem_cons_of_mem _ (List.mem_append_right _ (List.mem_append_right _ (List.mem_append_right _ (List.mem_append_left _ h0_)))), (tb_c_X12_log w_ h0_).2⟩) (List.mem_cons_of_mem _ (List.mem_append_left _ (List.mem_of_getElem? (i := 5) rfl))) (List.mem_cons_of_mem _ (List.mem_append_left _ (List.mem_of_getElem? (i := 6) rfl))) (List.mem_cons_of_mem _ (List.mem_append_left _ (List.mem_of_getElem? (i := 7) rfl))) (List.mem_cons_of_mem _ (List.mem_append_left _ (List.mem_of_getElem? (i := 4) rfl)))) rfl rfl rfl (by decide +kernel) ⟨Nat.le_of_ble_eq_true rfl, Nat.le_of_ble_eq_true rfl⟩) ⟨fun a U g mk q => ⟨q.1, q.2.calling rfl rfl⟩, k_recv hK hI i_h0.1 k_38 (ci := 12) rfl, fun U hU hW => ⟨rfl, kIn.of hI hK hE hS hU hW⟩⟩ rfl rfl hl.1 rfl (lv_room (Nat.le_of_ble_eq_true rfl)) dX12_tick_205 ⟨Nat.le_of_ble_eq_true rfl, Nat.le_of_ble_eq_true rfl⟩) hS (fun q _ h => h) (fun q h => h) (fun u t H1 locs ht hvm _ hB hz1 hk1 hS => ?_)
              obtain ⟨f_41, hI, kc_43, q1_44, k_45, z_46, z_47, z_48⟩ := hB
              rw [ht] at hI
              have k_49 : f_41 h0 = .inr (12, [.int z0, .int z1, .ref (gr g h0 2), .ref (gr g h0 3), .ref (gr g h0 4), .ref (gr g h0 5), .ref (gr g h0 6), .ref (gr g h0 7), .ref (gr g h0 8), .ref (gr g h0 9), .int z10, .ref (gr g h0 11), .int z12, .int z13, .int z14, .int z15, .long z16, .int z17, .int z18, .ref (gr g h0 19), .ref (gr g h0 20), .ref (gr g h0 21), .ref (gr g h0 22), .int z23, .long w24_37, .long z25, .long z26]) := Kp.at kc_43 i_h0 (by decide) k_38
              have z_46 : RowOK q1_44 := z_46
              have d_50 := rk_hd z_46
              have z_47 : (q1_44 0).toInt = (q_20 0).toInt := z_47
              have z_48 : (q1_44 1).toInt = (q_20 1).toInt := z_48
              have kp_51 := Kp.call kp_40 kc_43 (by decide)
              generalize H1 = H at hI hS ⊢
              refine W.widen (k := 0) (n := 0) (Nat.le_of_ble_eq_true rfl) (Nat.le_of_ble_eq_true rfl) ?_
              refine lv_aload_n hx hb dX12_tick_208 rfl (lv_at hl 1 rfl) ?_
              refine k_get (ci := 12) (v := .ref (gr g h0 4)) (C := RX12) (T := TX12) (N := 27) hx hb hts (fun _ h0_ => List.mem_cons_of_mem _ (List.mem_append_right _ (List.mem_append_left _ h0_))) hown hK hI i_h0.1 k_49 rfl 4 (by decide) (hts (.fieldLink RX12 16 "DeadlineShareModel" "row" "[J") (List.mem_cons_of_mem _ (List.mem_append_left _ (List.mem_of_getElem? (i := 0) rfl)))) (fun _ h9 => h9) rfl dX12_tick_209 ?_
              refine lv_iconst (v := 4) hx hb dX12_tick_212 (by decide) ?_
              refine lv_iload_n hx hb dX12_tick_213 rfl (lv_at hl 0 rfl) ?_
              refine lv_i2l (v := r_35.toInt64) hx hb dX12_tick_214 rfl ?_
              have t_54 := Int32.toInt_toInt64 r_35
              refine k_last hx hb hK hI hS i_1.1 1 k_45 rfl (by unfold vp_in; decide) (cl_32 i_1) dX12_tick_215 (fun f_55 H locs e_56 hI hS => ?_)
              generalize eq_57 : vp_updL q1_44 (Int32.toNatClampNeg 4) r_35.toInt64 = q_57 at e_56
              have k_59 : f_55 h0 = .inr (12, [.int z0, .int z1, .ref (gr g h0 2), .ref (gr g h0 3), .ref (gr g h0 4), .ref (gr g h0 5), .ref (gr g h0 6), .ref (gr g h0 7), .ref (gr g h0 8), .ref (gr g h0 9), .int z10, .ref (gr g h0 11), .int z12, .int z13, .int z14, .int z15, .long z16, .int z17, .int z18, .ref (gr g h0 19), .ref (gr g h0 20), .ref (gr g h0 21), .ref (gr g h0 22), .int z23, .long w24_37, .long z25, .long z26]) := by rw [e_56, va_up_ne _ _ (ik_ne i_h0 i_1 (by decide))]; exact k_49
              have k_60 : f_55 (gr g h0 4) = .inl (gc g 1, 906, .inr (.inl q_57)) := by rw [e_56]; exact va_up_self _ _ _
              have kp_58 := Kp.put kp_51 i_1 (by decide) e_56
              have u_61 : vp_updL q1_44 4 r_35.toInt64 = q_57 := by rw [← eq_57, show Int32.toNatClampNeg 4 = 4 from (show Int32.toNatClampNeg 4 = 4 by decide)]
              have ok_62 : RowOK q_57 := by rw [← u_61]; exact rk_upd z_46 (by refine ⟨⟨by omega, by omega, by omega, by omega, by omega⟩, fun t9 ht9 => ⟨by omega, by omega, by omega, by omega, by omega, by omega⟩, fun t9 k9 ht9 hk9 => ⟨by omega, by omega, by omega⟩, by omega⟩)
              have d_63 := rk_hd ok_62
              have n_64 : (q_57 0).toInt = (q1_44 0).toInt := by rw [← u_61, pk_uLn (by omega)]
              have n_65 : (q_57 1).toInt = (q1_44 1).toInt := by rw [← u_61, pk_uLn (by omega)]
              have n_66 : (q_57 3).toInt = (q1_44 3).toInt := by rw [← u_61, pk_uLn (by omega)]
              have n_67 : (q_57 4).toInt = Int64.toInt r_35.toInt64 := by rw [← u_61, pk_uLs]
              have n_68 : (q_57 5).toInt = (q1_44 5).toInt := by rw [← u_61, pk_uLn (by omega)]
              refine lv_iload_n hx hb dX12_tick_216 rfl (lv_at hl 0 rfl) ?_
              refine lv_iconst (v := (-1)) hx hb dX12_tick_217 (by decide) ?_
              refine lv_icmp_eq (tgt := 337) hx hb dX12_tick_218 (by decide) (fun c_69 => ?_) (fun c_69 => ?_)
              · have c_69 := kc_eq rfl (by decide : Int32.toInt (-1) = (-1)) c_69
                refine lv_aload_n hx hb dX12_tick_337 rfl (lv_at hl 1 rfl) ?_
                refine k_get (ci := 12) (v := .ref (gr g h0 4)) (C := RX12) (T := TX12) (N := 27) hx hb hts (fun _ h0_ => List.mem_cons_of_mem _ (List.mem_append_right _ (List.mem_append_left _ h0_))) hown hK hI i_h0.1 k_59 rfl 4 (by decide) (hts (.fieldLink RX12 16 "DeadlineShareModel" "row" "[J") (List.mem_cons_of_mem _ (List.mem_append_left _ (List.mem_of_getElem? (i := 0) rfl)))) (fun _ h9 => h9) rfl dX12_tick_338 ?_
                refine lv_iconst (v := 1) hx hb dX12_tick_341 (by decide) ?_
                refine lv_dup2_11 hx hb dX12_tick_342 rfl rfl ?_
                refine k_lald hx hb hK hI i_1.1 1 k_60 rfl (by unfold vp_in; decide) dX12_tick_343 ?_
                refine k_topl (y := q_57 1) (congrArg q_57 (show Int32.toNatClampNeg 1 = 1 by decide)) ?_
                refine lv_lconst (v := 1) hx hb dX12_tick_344 (by decide) ?_
                refine lv_ladd hx hb dX12_tick_345 ?_
                refine lv_topl (fun v_72 ev_72 => ?_)
                have tv_72 := l_ad (q_57 1) 1
                rw [← ev_72, show Int64.toInt 1 = 1 from by decide] at tv_72
                refine k_last hx hb hK hI hS i_1.1 1 k_60 rfl (by unfold vp_in; decide) (cl_32 i_1) dX12_tick_346 (fun f_73 H locs e_74 hI hS => ?_)
                generalize eq_75 : vp_updL q_57 (Int32.toNatClampNeg 1) v_72 = q_75 at e_74
                have k_77 : f_73 h0 = .inr (12, [.int z0, .int z1, .ref (gr g h0 2), .ref (gr g h0 3), .ref (gr g h0 4), .ref (gr g h0 5), .ref (gr g h0 6), .ref (gr g h0 7), .ref (gr g h0 8), .ref (gr g h0 9), .int z10, .ref (gr g h0 11), .int z12, .int z13, .int z14, .int z15, .long z16, .int z17, .int z18, .ref (gr g h0 19), .ref (gr g h0 20), .ref (gr g h0 21), .ref (gr g h0 22), .int z23, .long w24_37, .long z25, .long z26]) := by rw [e_74, va_up_ne _ _ (ik_ne i_h0 i_1 (by decide))]; exact k_59
                have k_78 : f_73 (gr g h0 4) = .inl (gc g 1, 906, .inr (.inl q_75)) := by rw [e_74]; exact va_up_self _ _ _
                have kp_76 := Kp.put kp_58 i_1 (by decide) e_74
                have u_79 : vp_updL q_57 1 v_72 = q_75 := by rw [← eq_75, show Int32.toNatClampNeg 1 = 1 from (show Int32.toNatClampNeg 1 = 1 by decide)]
                have ok_80 : RowOK q_75 := by rw [← u_79]; exact rk_upd ok_62 (by refine ⟨⟨by omega, by omega, by omega, by omega, by omega⟩, fun t9 ht9 => ⟨by omega, by omega, by omega, by omega, by omega, by omega⟩, fun t9 k9 ht9 hk9 => ⟨by omega, by omega, by omega⟩, by omega⟩)
                have d_81 := rk_hd ok_80
                have n_82 : (q_75 0).toInt = (q_57 0).toInt := by rw [← u_79, pk_uLn (by omega)]
                have n_83 : (q_75 1).toInt = Int64.toInt v_72 := by rw [← u_79, pk_uLs]
                have n_84 : (q_75 3).toInt = (q_57 3).toInt := by rw [← u_79, pk_uLn (by omega)]
                have n_85 : (q_75 4).toInt = (q_57 4).toInt := by rw [← u_79, pk_uLn (by omega)]
                have n_86 : (q_75 5).toInt = (q_57 5).toInt := by rw [← u_79, pk_uLn (by omega)]
                refine lv_iload_n hx hb dX12_tick_347 rfl (lv_at hl 0 rfl) ?_
                have w_87 : -1 ≤ r_35.toInt ∧ r_35.toInt < (q 0).toInt := by omega
                exact W.iret (v := r_35) hx hb hr (fun t ht hW => ⟨⟨r_35, (), rfl, w_87, ⟨f_73, k_ret ht hI, kp_76, w24_37, q_75, k_77, k_78, ok_80, (by first | omega | decide), (by first | omega | decide)⟩⟩, hS.F ht⟩) hS.2.2 dX12_tick_348
              · have c_69 := kn_eq rfl (by decide : Int32.toInt (-1) = (-1)) c_69
                refine lv_aload_n hx hb dX12_tick_221 rfl (lv_at hl 1 rfl) ?_
                obtain ⟨m_88, em_88, tm_88⟩ := k_nat (x := r_35) (by omega)
                refine lv_iload_n hx hb dX12_tick_222 rfl (lv_at hl 0 rfl) ?_
                refine k_topi (y := nI m_88) em_88 ?_
                refine va_callv (va_runV (As := [.int (nI m_88)]) (rest := []) ⟨hx, hb, hml, hown, hts⟩ (c_X12_runs l dC dI g A hG f_55 h0 m_88 q_57 i_h0 k_60 ok_62 (by first | omega | decide | (simp only [k_c0, k_c1, k_cm1] <;> omega))) (cwV 1 hts (gi_V (fun w_ h0_ => ⟨List.mem_cons_of_mem _ (List.mem_append_right _ (List.mem_append_right _ (List.mem_append_right _ (List.mem_append_right _ (List.mem_append_left _ h0_))))), (tb_c_X12_runs w_ h0_).2⟩) (List.mem_cons_of_mem _ (List.mem_append_left _ (List.mem_of_getElem? (i := 8) rfl))) (List.mem_cons_of_mem _ (List.mem_append_left _ (List.mem_of_getElem? (i := 9) rfl))) (List.mem_cons_of_mem _ (List.mem_append_left _ (List.mem_of_getElem? (i := 10) rfl))) (List.mem_cons_of_mem _ (List.mem_append_left _ (List.mem_of_getElem? (i := 4) rfl)))) rfl rfl rfl (by decide +kernel) ⟨Nat.le_of_ble_eq_true rfl, Nat.le_of_ble_eq_true rfl⟩) ⟨fun a U g mk q => ⟨q.1, q.2.calling rfl rfl⟩, k_recv hK hI i_h0.1 k_59 (ci := 12) rfl, fun U hU hW => ⟨rfl, kIn.of hI hK hE hS hU hW⟩⟩ rfl rfl hl.1 rfl (lv_room (Nat.le_of_ble_eq_true rfl)) dX12_tick_223 ⟨Nat.le_of_ble_eq_true rfl, Nat.le_of_ble_eq_true rfl⟩) hS (fun q _ h => h) (fun q h => h) (fun u t H1 locs ht hvm _ hB hz1 hk1 hS => ?_)
                obtain ⟨f_89, hI, kc_91, q1_92, k_93, z_94, z_95, z_96⟩ := hB
                rw [ht] at hI
                have k_97 : f_89 h0 = .inr (12, [.int z0, .int z1, .ref (gr g h0 2), .ref (gr g h0 3), .ref (gr g h0 4), .ref (gr g h0 5), .ref (gr g h0 6), .ref (gr g h0 7), .ref (gr g h0 8), .ref (gr g h0 9), .int z10, .ref (gr g h0 11), .int z12, .int z13, .int z14, .int z15, .long z16, .int z17, .int z18, .ref (gr g h0 19), .ref (gr g h0 20), .ref (gr g h0 21), .ref (gr g h0 22), .int z23, .long w24_37, .long z25, .long z26]) := Kp.at kc_91 i_h0 (by decide) k_59
                have z_94 : RowOK q1_92 := z_94
                have d_98 := rk_hd z_94
                have z_95 : (q1_92 0).toInt = (q_57 0).toInt := z_95
                have z_96 : (q1_92 1).toInt = (q_57 1).toInt := z_96
                have kp_99 := Kp.call kp_58 kc_91 (by decide)
                generalize H1 = H at hI hS ⊢
                refine W.widen (k := 0) (n := 0) (Nat.le_of_ble_eq_true rfl) (Nat.le_of_ble_eq_true rfl) ?_
                refine lv_aload_n hx hb dX12_tick_226 rfl (lv_at hl 1 rfl) ?_
                refine k_get (ci := 12) (v := .ref (gr g h0 4)) (C := RX12) (T := TX12) (N := 27) hx hb hts (fun _ h0_ => List.mem_cons_of_mem _ (List.mem_append_right _ (List.mem_append_left _ h0_))) hown hK hI i_h0.1 k_97 rfl 4 (by decide) (hts (.fieldLink RX12 16 "DeadlineShareModel" "row" "[J") (List.mem_cons_of_mem _ (List.mem_append_left _ (List.mem_of_getElem? (i := 0) rfl)))) (fun _ h9 => h9) rfl dX12_tick_227 ?_
                refine lv_iconst (v := 3) hx hb dX12_tick_230 (by decide) ?_
                refine lv_iload_n hx hb dX12_tick_231 rfl (lv_at hl 0 rfl) ?_
                refine k_topi (y := nI m_88) em_88 ?_
                refine lv_i2l (v := lN (m_88)) hx hb dX12_tick_232 (nI_l (by omega)) ?_
                refine k_last hx hb hK hI hS i_1.1 1 k_93 rfl (by unfold vp_in; decide) (cl_32 i_1) dX12_tick_233 (fun f_102 H locs e_103 hI hS => ?_)
                generalize eq_104 : vp_updL q1_92 (Int32.toNatClampNeg 3) (lN (m_88)) = q_104 at e_103
                have k_106 : f_102 h0 = .inr (12, [.int z0, .int z1, .ref (gr g h0 2), .ref (gr g h0 3), .ref (gr g h0 4), .ref (gr g h0 5), .ref (gr g h0 6), .ref (gr g h0 7), .ref (gr g h0 8), .ref (gr g h0 9), .int z10, .ref (gr g h0 11), .int z12, .int z13, .int z14, .int z15, .long z16, .int z17, .int z18, .ref (gr g h0 19), .ref (gr g h0 20), .ref (gr g h0 21), .ref (gr g h0 22), .int z23, .long w24_37, .long z25, .long z26]) := by rw [e_103, va_up_ne _ _ (ik_ne i_h0 i_1 (by decide))]; exact k_97
                have k_107 : f_102 (gr g h0 4) = .inl (gc g 1, 906, .inr (.inl q_104)) := by rw [e_103]; exact va_up_self _ _ _
                have kp_105 := Kp.put kp_99 i_1 (by decide) e_103
                have u_108 : vp_updL q1_92 3 (lN (m_88)) = q_104 := by rw [← eq_104, show Int32.toNatClampNeg 3 = 3 from (show Int32.toNatClampNeg 3 = 3 by decide)]
                have g_109 := lN_toInt (n := m_88) (by omega)
                have ok_110 : RowOK q_104 := by rw [← u_108]; exact rk_upd z_94 (by refine ⟨⟨by omega, by omega, by omega, by omega, by omega⟩, fun t9 ht9 => ⟨by omega, by omega, by omega, by omega, by omega, by omega⟩, fun t9 k9 ht9 hk9 => ⟨by omega, by omega, by omega⟩, by omega⟩)
                have d_111 := rk_hd ok_110
                have n_112 : (q_104 0).toInt = (q1_92 0).toInt := by rw [← u_108, pk_uLn (by omega)]
                have n_113 : (q_104 1).toInt = (q1_92 1).toInt := by rw [← u_108, pk_uLn (by omega)]
                have n_114 : (q_104 3).toInt = Int64.toInt (lN (m_88)) := by rw [← u_108, pk_uLs]
                have n_115 : (q_104 4).toInt = (q1_92 4).toInt := by rw [← u_108, pk_uLn (by omega)]
                have n_116 : (q_104 5).toInt = (q1_92 5).toInt := by rw [← u_108, pk_uLn (by omega)]
                refine lv_iload_n hx hb dX12_tick_234 rfl (lv_at hl 0 rfl) ?_
                refine k_topi (y := nI m_88) em_88 ?_
                refine va_calli (va_runS (As := [.int (nI m_88)]) (rest := []) ⟨hx, hb, hml, hown, hts⟩ (c_X12_at l dC dI g A hG f_102 m_88) (va_cwS 1 hts (gi_S (fun w_ h0_ => ⟨List.mem_cons_of_mem _ (List.mem_append_right _ (List.mem_append_right _ (List.mem_append_right _ (List.mem_append_right _ (List.mem_append_right _ (List.mem_append_left _ h0_)))))), (tb_c_X12_at w_ h0_).2⟩) (List.mem_cons_of_mem _ (List.mem_append_left _ (List.mem_of_getElem? (i := 11) rfl))) (List.mem_cons_of_mem _ (List.mem_append_left _ (List.mem_of_getElem? (i := 12) rfl))) (List.mem_cons_of_mem _ (List.mem_append_left _ (List.mem_of_getElem? (i := 4) rfl)))) rfl rfl rfl (by decide +kernel) ⟨Nat.le_of_ble_eq_true rfl, Nat.le_of_ble_eq_true rfl⟩) ⟨fun a U g mk q => ⟨q.1, q.2.calling rfl rfl⟩, fun U hU hW => ⟨rfl, kIn.of hI hK hE hS hU hW⟩⟩ rfl rfl hl.1 rfl (lv_room (Nat.le_of_ble_eq_true rfl)) dX12_tick_235 ⟨Nat.le_of_ble_eq_true rfl, Nat.le_of_ble_eq_true rfl⟩) hS (fun q _ h => h) (fun q h => h) (fun r_118 u t H1 locs ht hvm w_117 hB hz1 hk1 hS => ?_)
                have hI : Iv dC dI g A f_102 t.heap := hB
                rw [ht] at hI
                generalize H1 = H at hI hS ⊢
                refine W.widen (k := 0) (n := 0) (Nat.le_of_ble_eq_true rfl) (Nat.le_of_ble_eq_true rfl) ?_
                have w_117 : r_118 = nI (6 + 43 * m_88) := w_117
                refine k_topi (y := nI (6 + 43 * m_88)) w_117 ?_
                refine lv_istore_n (lv' := [(3, .int (nI (6 + 43 * m_88))), (2, .int r_35), (0, .ref h0), (1, .int p1)]) hx hb dX12_tick_238 rfl hl (by decide) rfl (fun ls hl => ?_)
                refine lv_aload_n hx hb dX12_tick_239 rfl (lv_at hl 2 rfl) ?_
                refine k_get (ci := 12) (v := .ref (gr g h0 4)) (C := RX12) (T := TX12) (N := 27) hx hb hts (fun _ h0_ => List.mem_cons_of_mem _ (List.mem_append_right _ (List.mem_append_left _ h0_))) hown hK hI i_h0.1 k_106 rfl 4 (by decide) (hts (.fieldLink RX12 16 "DeadlineShareModel" "row" "[J") (List.mem_cons_of_mem _ (List.mem_append_left _ (List.mem_of_getElem? (i := 0) rfl)))) (fun _ h9 => h9) rfl dX12_tick_240 ?_
                refine lv_iload_n hx hb dX12_tick_243 rfl (lv_at hl 0 rfl) ?_
                refine lv_bipush (v := 13) hx hb dX12_tick_244 (by decide) ?_
                refine lv_iadd hx hb dX12_tick_246 ?_
                refine k_topi (y := nI (6 + 43 * m_88 + 13)) ((nI_add (6 + 43 * m_88) 13).trans (congrArg nI (by omega))) ?_
                refine k_lald hx hb hK hI i_1.1 1 k_107 rfl (vp_in_nI (by omega) (by omega)) dX12_tick_247 ?_
                refine k_topl (y := q_104 (6 + 43 * m_88 + 13)) (congrArg q_104 (nI_clamp (by omega))) ?_
                have d_121 := rk_13 ok_110 (t := m_88) (by omega)
                refine lv_lconst (v := 0) hx hb dX12_tick_248 (by decide) ?_
                refine W.lcmp hx hb dX12_tick_249 ?_
                have J_305 : ∀ (q_123 : Nat → Int64) (f_122 : Nat → va_E) (H : Heap) (locs : List Loc) (ls : Array Slot), Iv dC dI g A f_122 H → va_S A s.heap H locs → f_122 (gr g h0 4) = .inl (gc g 1, 906, .inr (.inl q_123)) → RowOK q_123 → f_122 h0 = .inr (12, [.int z0, .int z1, .ref (gr g h0 2), .ref (gr g h0 3), .ref (gr g h0 4), .ref (gr g h0 5), .ref (gr g h0 6), .ref (gr g h0 7), .ref (gr g h0 8), .ref (gr g h0 9), .int z10, .ref (gr g h0 11), .int z12, .int z13, .int z14, .int z15, .long z16, .int z17, .int z18, .ref (gr g h0 19), .ref (gr g h0 20), .ref (gr g h0 21), .ref (gr g h0 22), .int z23, .long w24_37, .long z25, .long z26]) → Kp g [12, 32] f f_122 → ((q_123 0).toInt = (q 0).toInt) → ((q_123 1).toInt = (q 1).toInt) → lv_has ls 4 [(3, .int (nI (6 + 43 * m_88))), (2, .int r_35), (0, .ref h0), (1, .int p1)] → W p l e (headSpec wq_c_X12_tick ({ frames := 7, cells := 0, slots := 0, locals := 164 } : Room)).room s m ([.ref h0, .int p1].toArray) below meth c H locs 0 0 (MQ below (va_Qi (fun (r : Int32) (_ : Unit) => -1 ≤ r.toInt ∧ r.toInt < (q 0).toInt) (fun (_ : Unit) t => ∃ f1 : Nat → va_E, Iv dC dI g A f1 t.heap ∧ Kp g [12, 32] f f1 ∧ ∃ (w24 : Int64) (q1 : Nat → Int64), (f1 h0 = .inr (12, [.int z0, .int z1, .ref (gr g h0 2), .ref (gr g h0 3), .ref (gr g h0 4), .ref (gr g h0 5), .ref (gr g h0 6), .ref (gr g h0 7), .ref (gr g h0 8), .ref (gr g h0 9), .int z10, .ref (gr g h0 11), .int z12, .int z13, .int z14, .int z15, .long z16, .int z17, .int z18, .ref (gr g h0 19), .ref (gr g h0 20), .ref (gr g h0 21), .ref (gr g h0 22), .int z23, .long w24, .long z25, .long z26])) ∧ (f1 (gr g h0 4) = .inl (gc g 1, 906, .inr (.inl q1))) ∧ (RowOK q1) ∧ ((q1 0).toInt = (q 0).toInt) ∧ ((q1 1).toInt = (q 1).toInt + 1)) A) ([.ref h0, .int p1].toArray) s 0 0 A) (F0 m 305 ls []) := by
                  intro q_123 f_122 H locs ls hI hS k_124 ok_125 k_126 kp_127 t_128 t_129 hl
                  have d_130 := rk_hd ok_125
                  refine lv_aload_n hx hb dX12_tick_305 rfl (lv_at hl 2 rfl) ?_
                  refine lv_iload_n hx hb dX12_tick_306 rfl (lv_at hl 1 rfl) ?_
                  refine k_topi (y := nI m_88) em_88 ?_
                  refine va_calli (va_runV (As := [.int (nI m_88)]) (rest := []) ⟨hx, hb, hml, hown, hts⟩ (c_X12_isOn l dC dI g A hG f_122 h0 m_88 q_123 i_h0 k_124 ok_125 (by first | omega | decide | (simp only [k_c0, k_c1, k_cm1] <;> omega))) (cwV 1 hts (gi_V (fun w_ h0_ => ⟨List.mem_cons_of_mem _ (List.mem_append_right _ (List.mem_append_right _ (List.mem_append_right _ (List.mem_append_right _ (List.mem_append_right _ (List.mem_append_right _ (List.mem_append_left _ h0_))))))), (tb_c_X12_isOn w_ h0_).2⟩) (List.mem_cons_of_mem _ (List.mem_append_left _ (List.mem_of_getElem? (i := 13) rfl))) (List.mem_cons_of_mem _ (List.mem_append_left _ (List.mem_of_getElem? (i := 14) rfl))) (List.mem_cons_of_mem _ (List.mem_append_left _ (List.mem_of_getElem? (i := 15) rfl))) (List.mem_cons_of_mem _ (List.mem_append_left _ (List.mem_of_getElem? (i := 4) rfl)))) rfl rfl rfl (by decide +kernel) ⟨Nat.le_of_ble_eq_true rfl, Nat.le_of_ble_eq_true rfl⟩) ⟨fun a U g mk q => ⟨q.1, q.2.calling rfl rfl⟩, k_recv hK hI i_h0.1 k_126 (ci := 12) rfl, fun U hU hW => ⟨rfl, kIn.of hI hK hE hS hU hW⟩⟩ rfl rfl hl.1 rfl (lv_room (Nat.le_of_ble_eq_true rfl)) dX12_tick_307 ⟨Nat.le_of_ble_eq_true rfl, Nat.le_of_ble_eq_true rfl⟩) hS (fun q _ h => h) (fun q h => h) (fun r_132 u t H1 locs ht hvm w_131 hB hz1 hk1 hS => ?_)
                  have hI : Iv dC dI g A f_122 t.heap := hB
                  rw [ht] at hI
                  generalize H1 = H at hI hS ⊢
                  refine W.widen (k := 0) (n := 0) (Nat.le_of_ble_eq_true rfl) (Nat.le_of_ble_eq_true rfl) ?_
                  have w_131 : (r_132.toInt = 0 ∧ (q_123 (6 + 43 * m_88 + 2)).toInt ≠ 1) ∨ (r_132.toInt = 1 ∧ (q_123 (6 + 43 * m_88 + 2)).toInt = 1) := w_131
                  refine lv_if_eq (tgt := 337) hx hb dX12_tick_310 (by decide) (fun c_133 => ?_) (fun c_133 => ?_)
                  · have c_133 := kc_eq rfl (by decide : Int32.toInt 0 = 0) c_133
                    refine lv_aload_n hx hb dX12_tick_337 rfl (lv_at hl 2 rfl) ?_
                    refine k_get (ci := 12) (v := .ref (gr g h0 4)) (C := RX12) (T := TX12) (N := 27) hx hb hts (fun _ h0_ => List.mem_cons_of_mem _ (List.mem_append_right _ (List.mem_append_left _ h0_))) hown hK hI i_h0.1 k_126 rfl 4 (by decide) (hts (.fieldLink RX12 16 "DeadlineShareModel" "row" "[J") (List.mem_cons_of_mem _ (List.mem_append_left _ (List.mem_of_getElem? (i := 0) rfl)))) (fun _ h9 => h9) rfl dX12_tick_338 ?_
                    refine lv_iconst (v := 1) hx hb dX12_tick_341 (by decide) ?_
                    refine lv_dup2_11 hx hb dX12_tick_342 rfl rfl ?_
                    refine k_lald hx hb hK hI i_1.1 1 k_124 rfl (by unfold vp_in; decide) dX12_tick_343 ?_
                    refine k_topl (y := q_123 1) (congrArg q_123 (show Int32.toNatClampNeg 1 = 1 by decide)) ?_
                    refine lv_lconst (v := 1) hx hb dX12_tick_344 (by decide) ?_
                    refine lv_ladd hx hb dX12_tick_345 ?_
                    refine lv_topl (fun v_136 ev_136 => ?_)
                    have tv_136 := l_ad (q_123 1) 1
                    rw [← ev_136, show Int64.toInt 1 = 1 from by decide] at tv_136
                    refine k_last hx hb hK hI hS i_1.1 1 k_124 rfl (by unfold vp_in; decide) (cl_32 i_1) dX12_tick_346 (fun f_137 H locs e_138 hI hS => ?_)
                    generalize eq_139 : vp_updL q_123 (Int32.toNatClampNeg 1) v_136 = q_139 at e_138
                    have k_141 : f_137 (gr g h0 4) = .inl (gc g 1, 906, .inr (.inl q_139)) := by rw [e_138]; exact va_up_self _ _ _
                    have k_142 : f_137 h0 = .inr (12, [.int z0, .int z1, .ref (gr g h0 2), .ref (gr g h0 3), .ref (gr g h0 4), .ref (gr g h0 5), .ref (gr g h0 6), .ref (gr g h0 7), .ref (gr g h0 8), .ref (gr g h0 9), .int z10, .ref (gr g h0 11), .int z12, .int z13, .int z14, .int z15, .long z16, .int z17, .int z18, .ref (gr g h0 19), .ref (gr g h0 20), .ref (gr g h0 21), .ref (gr g h0 22), .int z23, .long w24_37, .long z25, .long z26]) := by rw [e_138, va_up_ne _ _ (ik_ne i_h0 i_1 (by decide))]; exact k_126
                    have kp_140 := Kp.put kp_127 i_1 (by decide) e_138
                    have u_143 : vp_updL q_123 1 v_136 = q_139 := by rw [← eq_139, show Int32.toNatClampNeg 1 = 1 from (show Int32.toNatClampNeg 1 = 1 by decide)]
                    have ok_144 : RowOK q_139 := by rw [← u_143]; exact rk_upd ok_125 (by refine ⟨⟨by omega, by omega, by omega, by omega, by omega⟩, fun t9 ht9 => ⟨by omega, by omega, by omega, by omega, by omega, by omega⟩, fun t9 k9 ht9 hk9 => ⟨by omega, by omega, by omega⟩, by omega⟩)
                    have d_145 := rk_hd ok_144
                    have n_146 : (q_139 0).toInt = (q_123 0).toInt := by rw [← u_143, pk_uLn (by omega)]
                    have n_147 : (q_139 1).toInt = Int64.toInt v_136 := by rw [← u_143, pk_uLs]
                    have n_148 : (q_139 3).toInt = (q_123 3).toInt := by rw [← u_143, pk_uLn (by omega)]
                    have n_149 : (q_139 4).toInt = (q_123 4).toInt := by rw [← u_143, pk_uLn (by omega)]
                    have n_150 : (q_139 5).toInt = (q_123 5).toInt := by rw [← u_143, pk_uLn (by omega)]
                    refine lv_iload_n hx hb dX12_tick_347 rfl (lv_at hl 1 rfl) ?_
                    refine k_topi (y := nI m_88) em_88 ?_
                    have g_151 := nI_toInt (n := m_88) (by omega)
                    have w_152 : -1 ≤ (nI m_88).toInt ∧ (nI m_88).toInt < (q 0).toInt := by omega
                    exact W.iret (v := (nI m_88)) hx hb hr (fun t ht hW => ⟨⟨nI m_88, (), rfl, w_152, ⟨f_137, k_ret ht hI, kp_140, w24_37, q_139, k_142, k_141, ok_144, (by first | omega | decide), (by first | omega | decide)⟩⟩, hS.F ht⟩) hS.2.2 dX12_tick_348
                  · have c_133 := kn_eq rfl (by decide : Int32.toInt 0 = 0) c_133
                    refine lv_aload_n hx hb dX12_tick_313 rfl (lv_at hl 2 rfl) ?_
                    refine lv_iload_n hx hb dX12_tick_314 rfl (lv_at hl 1 rfl) ?_
                    refine k_topi (y := nI m_88) em_88 ?_
                    refine va_calli (va_runV (As := [.int (nI m_88)]) (rest := []) ⟨hx, hb, hml, hown, hts⟩ (c_X12_isSpent l dC dI g A hG f_122 h0 m_88 q_123 i_h0 k_124 ok_125 (by first | omega | decide | (simp only [k_c0, k_c1, k_cm1] <;> omega))) (cwV 1 hts (gi_V (fun w_ h0_ => ⟨List.mem_cons_of_mem _ (List.mem_append_right _ (List.mem_append_right _ (List.mem_append_right _ (List.mem_append_right _ (List.mem_append_right _ (List.mem_append_right _ (List.mem_append_right _ (List.mem_append_left _ h0_)))))))), (tb_c_X12_isSpent w_ h0_).2⟩) (List.mem_cons_of_mem _ (List.mem_append_left _ (List.mem_of_getElem? (i := 16) rfl))) (List.mem_cons_of_mem _ (List.mem_append_left _ (List.mem_of_getElem? (i := 17) rfl))) (List.mem_cons_of_mem _ (List.mem_append_left _ (List.mem_of_getElem? (i := 18) rfl))) (List.mem_cons_of_mem _ (List.mem_append_left _ (List.mem_of_getElem? (i := 4) rfl)))) rfl rfl rfl (by decide +kernel) ⟨Nat.le_of_ble_eq_true rfl, Nat.le_of_ble_eq_true rfl⟩) ⟨fun a U g mk q => ⟨q.1, q.2.calling rfl rfl⟩, k_recv hK hI i_h0.1 k_126 (ci := 12) rfl, fun U hU hW => ⟨rfl, kIn.of hI hK hE hS hU hW⟩⟩ rfl rfl hl.1 rfl (lv_room (Nat.le_of_ble_eq_true rfl)) dX12_tick_315 ⟨Nat.le_of_ble_eq_true rfl, Nat.le_of_ble_eq_true rfl⟩) hS (fun q _ h => h) (fun q h => h) (fun r_154 u t H1 locs ht hvm w_153 hB hz1 hk1 hS => ?_)
                    have hI : Iv dC dI g A f_122 t.heap := hB
                    rw [ht] at hI
                    generalize H1 = H at hI hS ⊢
                    refine W.widen (k := 0) (n := 0) (Nat.le_of_ble_eq_true rfl) (Nat.le_of_ble_eq_true rfl) ?_
                    refine lv_if_eq (tgt := 337) hx hb dX12_tick_318 (by decide) (fun c_155 => ?_) (fun c_155 => ?_)
                    · have c_155 := kc_eq rfl (by decide : Int32.toInt 0 = 0) c_155
                      refine lv_aload_n hx hb dX12_tick_337 rfl (lv_at hl 2 rfl) ?_
                      refine k_get (ci := 12) (v := .ref (gr g h0 4)) (C := RX12) (T := TX12) (N := 27) hx hb hts (fun _ h0_ => List.mem_cons_of_mem _ (List.mem_append_right _ (List.mem_append_left _ h0_))) hown hK hI i_h0.1 k_126 rfl 4 (by decide) (hts (.fieldLink RX12 16 "DeadlineShareModel" "row" "[J") (List.mem_cons_of_mem _ (List.mem_append_left _ (List.mem_of_getElem? (i := 0) rfl)))) (fun _ h9 => h9) rfl dX12_tick_338 ?_
                      refine lv_iconst (v := 1) hx hb dX12_tick_341 (by decide) ?_
                      refine lv_dup2_11 hx hb dX12_tick_342 rfl rfl ?_
                      refine k_lald hx hb hK hI i_1.1 1 k_124 rfl (by unfold vp_in; decide) dX12_tick_343 ?_
                      refine k_topl (y := q_123 1) (congrArg q_123 (show Int32.toNatClampNeg 1 = 1 by decide)) ?_
                      refine lv_lconst (v := 1) hx hb dX12_tick_344 (by decide) ?_
                      refine lv_ladd hx hb dX12_tick_345 ?_
                      refine lv_topl (fun v_158 ev_158 => ?_)
                      have tv_158 := l_ad (q_123 1) 1
                      rw [← ev_158, show Int64.toInt 1 = 1 from by decide] at tv_158
                      refine k_last hx hb hK hI hS i_1.1 1 k_124 rfl (by unfold vp_in; decide) (cl_32 i_1) dX12_tick_346 (fun f_159 H locs e_160 hI hS => ?_)
                      generalize eq_161 : vp_updL q_123 (Int32.toNatClampNeg 1) v_158 = q_161 at e_160
                      have k_163 : f_159 (gr g h0 4) = .inl (gc g 1, 906, .inr (.inl q_161)) := by rw [e_160]; exact va_up_self _ _ _
                      have k_164 : f_159 h0 = .inr (12, [.int z0, .int z1, .ref (gr g h0 2), .ref (gr g h0 3), .ref (gr g h0 4), .ref (gr g h0 5), .ref (gr g h0 6), .ref (gr g h0 7), .ref (gr g h0 8), .ref (gr g h0 9), .int z10, .ref (gr g h0 11), .int z12, .int z13, .int z14, .int z15, .long z16, .int z17, .int z18, .ref (gr g h0 19), .ref (gr g h0 20), .ref (gr g h0 21), .ref (gr g h0 22), .int z23, .long w24_37, .long z25, .long z26]) := by rw [e_160, va_up_ne _ _ (ik_ne i_h0 i_1 (by decide))]; exact k_126
                      have kp_162 := Kp.put kp_127 i_1 (by decide) e_160
                      have u_165 : vp_updL q_123 1 v_158 = q_161 := by rw [← eq_161, show Int32.toNatClampNeg 1 = 1 from (show Int32.toNatClampNeg 1 = 1 by decide)]
                      have ok_166 : RowOK q_161 := by rw [← u_165]; exact rk_upd ok_125 (by refine ⟨⟨by omega, by omega, by omega, by omega, by omega⟩, fun t9 ht9 => ⟨by omega, by omega, by omega, by omega, by omega, by omega⟩, fun t9 k9 ht9 hk9 => ⟨by omega, by omega, by omega⟩, by omega⟩)
                      have d_167 := rk_hd ok_166
                      have n_168 : (q_161 0).toInt = (q_123 0).toInt := by rw [← u_165, pk_uLn (by omega)]
                      have n_169 : (q_161 1).toInt = Int64.toInt v_158 := by rw [← u_165, pk_uLs]
                      have n_170 : (q_161 3).toInt = (q_123 3).toInt := by rw [← u_165, pk_uLn (by omega)]
                      have n_171 : (q_161 4).toInt = (q_123 4).toInt := by rw [← u_165, pk_uLn (by omega)]
                      have n_172 : (q_161 5).toInt = (q_123 5).toInt := by rw [← u_165, pk_uLn (by omega)]
                      refine lv_iload_n hx hb dX12_tick_347 rfl (lv_at hl 1 rfl) ?_
                      refine k_topi (y := nI m_88) em_88 ?_
                      have g_173 := nI_toInt (n := m_88) (by omega)
                      have w_174 : -1 ≤ (nI m_88).toInt ∧ (nI m_88).toInt < (q 0).toInt := by omega
                      exact W.iret (v := (nI m_88)) hx hb hr (fun t ht hW => ⟨⟨nI m_88, (), rfl, w_174, ⟨f_159, k_ret ht hI, kp_162, w24_37, q_161, k_164, k_163, ok_166, (by first | omega | decide), (by first | omega | decide)⟩⟩, hS.F ht⟩) hS.2.2 dX12_tick_348
                    · have c_155 := kn_eq rfl (by decide : Int32.toInt 0 = 0) c_155
                      refine lv_aload_n hx hb dX12_tick_321 rfl (lv_at hl 2 rfl) ?_
                      refine lv_iload_n hx hb dX12_tick_322 rfl (lv_at hl 1 rfl) ?_
                      refine k_topi (y := nI m_88) em_88 ?_
                      refine va_callv (va_runV (As := [.int (nI m_88)]) (rest := []) ⟨hx, hb, hml, hown, hts⟩ (c_X12_leaves l dC dI g A hG f_122 h0 m_88 q_123 i_h0 k_124 ok_125 (by first | omega | decide | (simp only [k_c0, k_c1, k_cm1] <;> omega))) (cwV 1 hts (gi_V (fun w_ h0_ => ⟨List.mem_cons_of_mem _ (List.mem_append_right _ (List.mem_append_right _ (List.mem_append_right _ (List.mem_append_right _ (List.mem_append_right _ (List.mem_append_right _ (List.mem_append_right _ (List.mem_append_right _ (List.mem_append_left _ h0_))))))))), (tb_c_X12_leaves w_ h0_).2⟩) (List.mem_cons_of_mem _ (List.mem_append_left _ (List.mem_of_getElem? (i := 19) rfl))) (List.mem_cons_of_mem _ (List.mem_append_left _ (List.mem_of_getElem? (i := 20) rfl))) (List.mem_cons_of_mem _ (List.mem_append_left _ (List.mem_of_getElem? (i := 21) rfl))) (List.mem_cons_of_mem _ (List.mem_append_left _ (List.mem_of_getElem? (i := 4) rfl)))) rfl rfl rfl (by decide +kernel) ⟨Nat.le_of_ble_eq_true rfl, Nat.le_of_ble_eq_true rfl⟩) ⟨fun a U g mk q => ⟨q.1, q.2.calling rfl rfl⟩, k_recv hK hI i_h0.1 k_126 (ci := 12) rfl, fun U hU hW => ⟨rfl, kIn.of hI hK hE hS hU hW⟩⟩ rfl rfl hl.1 rfl (lv_room (Nat.le_of_ble_eq_true rfl)) dX12_tick_323 ⟨Nat.le_of_ble_eq_true rfl, Nat.le_of_ble_eq_true rfl⟩) hS (fun q _ h => h) (fun q h => h) (fun u t H1 locs ht hvm _ hB hz1 hk1 hS => ?_)
                      obtain ⟨f_175, hI, kc_177, q1_178, k_179, z_180, z_181, z_182⟩ := hB
                      rw [ht] at hI
                      have k_183 : f_175 h0 = .inr (12, [.int z0, .int z1, .ref (gr g h0 2), .ref (gr g h0 3), .ref (gr g h0 4), .ref (gr g h0 5), .ref (gr g h0 6), .ref (gr g h0 7), .ref (gr g h0 8), .ref (gr g h0 9), .int z10, .ref (gr g h0 11), .int z12, .int z13, .int z14, .int z15, .long z16, .int z17, .int z18, .ref (gr g h0 19), .ref (gr g h0 20), .ref (gr g h0 21), .ref (gr g h0 22), .int z23, .long w24_37, .long z25, .long z26]) := Kp.at kc_177 i_h0 (by decide) k_126
                      have z_180 : RowOK q1_178 := z_180
                      have d_184 := rk_hd z_180
                      have z_181 : (q1_178 0).toInt = (q_123 0).toInt := z_181
                      have z_182 : (q1_178 1).toInt = (q_123 1).toInt := z_182
                      have kp_185 := Kp.call kp_127 kc_177 (by decide)
                      generalize H1 = H at hI hS ⊢
                      refine W.widen (k := 0) (n := 0) (Nat.le_of_ble_eq_true rfl) (Nat.le_of_ble_eq_true rfl) ?_
                      refine lv_aload_n hx hb dX12_tick_326 rfl (lv_at hl 2 rfl) ?_
                      refine k_get (ci := 12) (v := .ref (gr g h0 4)) (C := RX12) (T := TX12) (N := 27) hx hb hts (fun _ h0_ => List.mem_cons_of_mem _ (List.mem_append_right _ (List.mem_append_left _ h0_))) hown hK hI i_h0.1 k_183 rfl 4 (by decide) (hts (.fieldLink RX12 16 "DeadlineShareModel" "row" "[J") (List.mem_cons_of_mem _ (List.mem_append_left _ (List.mem_of_getElem? (i := 0) rfl)))) (fun _ h9 => h9) rfl dX12_tick_327 ?_
                      refine lv_iload_n hx hb dX12_tick_330 rfl (lv_at hl 0 rfl) ?_
                      refine lv_iconst (v := 2) hx hb dX12_tick_331 (by decide) ?_
                      refine lv_iadd hx hb dX12_tick_332 ?_
                      refine k_topi (y := nI (6 + 43 * m_88 + 2)) ((nI_add (6 + 43 * m_88) 2).trans (congrArg nI (by omega))) ?_
                      refine lv_ldc2 hx hb hown (hts (.constantLong RX12 124 (3)) (List.mem_cons_of_mem _ (List.mem_append_left _ (List.mem_of_getElem? (i := 22) rfl)))) dX12_tick_333 ?_
                      refine k_last hx hb hK hI hS i_1.1 1 k_179 rfl (vp_in_nI (by omega) (by omega)) (cl_32 i_1) dX12_tick_336 (fun f_188 H locs e_189 hI hS => ?_)
                      generalize eq_190 : vp_updL q1_178 (Int32.toNatClampNeg (nI (6 + 43 * m_88 + 2))) 3 = q_190 at e_189
                      have k_192 : f_188 h0 = .inr (12, [.int z0, .int z1, .ref (gr g h0 2), .ref (gr g h0 3), .ref (gr g h0 4), .ref (gr g h0 5), .ref (gr g h0 6), .ref (gr g h0 7), .ref (gr g h0 8), .ref (gr g h0 9), .int z10, .ref (gr g h0 11), .int z12, .int z13, .int z14, .int z15, .long z16, .int z17, .int z18, .ref (gr g h0 19), .ref (gr g h0 20), .ref (gr g h0 21), .ref (gr g h0 22), .int z23, .long w24_37, .long z25, .long z26]) := by rw [e_189, va_up_ne _ _ (ik_ne i_h0 i_1 (by decide))]; exact k_183
                      have k_193 : f_188 (gr g h0 4) = .inl (gc g 1, 906, .inr (.inl q_190)) := by rw [e_189]; exact va_up_self _ _ _
                      have kp_191 := Kp.put kp_185 i_1 (by decide) e_189
                      have u_194 : vp_updL q1_178 (6 + 43 * m_88 + 2) 3 = q_190 := by rw [← eq_190, show Int32.toNatClampNeg (nI (6 + 43 * m_88 + 2)) = 6 + 43 * m_88 + 2 from (nI_clamp (by omega))]
                      have ok_195 : RowOK q_190 := by rw [← u_194]; exact rk_upd z_180 (by rw [show Int64.toInt 3 = 3 from by decide]; refine ⟨⟨by omega, by omega, by omega, by omega, by omega⟩, fun t9 ht9 => ⟨by omega, by omega, by omega, by omega, by omega, by omega⟩, fun t9 k9 ht9 hk9 => ⟨by omega, by omega, by omega⟩, by omega⟩)
                      have d_196 := rk_hd ok_195
                      have n_197 : (q_190 0).toInt = (q1_178 0).toInt := by rw [← u_194, pk_uLn (by omega)]
                      have n_198 : (q_190 1).toInt = (q1_178 1).toInt := by rw [← u_194, pk_uLn (by omega)]
                      have n_199 : (q_190 3).toInt = (q1_178 3).toInt := by rw [← u_194, pk_uLn (by omega)]
                      have n_200 : (q_190 4).toInt = (q1_178 4).toInt := by rw [← u_194, pk_uLn (by omega)]
                      have n_201 : (q_190 5).toInt = (q1_178 5).toInt := by rw [← u_194, pk_uLn (by omega)]
                      refine lv_aload_n hx hb dX12_tick_337 rfl (lv_at hl 2 rfl) ?_
                      refine k_get (ci := 12) (v := .ref (gr g h0 4)) (C := RX12) (T := TX12) (N := 27) hx hb hts (fun _ h0_ => List.mem_cons_of_mem _ (List.mem_append_right _ (List.mem_append_left _ h0_))) hown hK hI i_h0.1 k_192 rfl 4 (by decide) (hts (.fieldLink RX12 16 "DeadlineShareModel" "row" "[J") (List.mem_cons_of_mem _ (List.mem_append_left _ (List.mem_of_getElem? (i := 0) rfl)))) (fun _ h9 => h9) rfl dX12_tick_338 ?_
                      refine lv_iconst (v := 1) hx hb dX12_tick_341 (by decide) ?_
                      refine lv_dup2_11 hx hb dX12_tick_342 rfl rfl ?_
                      refine k_lald hx hb hK hI i_1.1 1 k_193 rfl (by unfold vp_in; decide) dX12_tick_343 ?_
                      refine k_topl (y := q_190 1) (congrArg q_190 (show Int32.toNatClampNeg 1 = 1 by decide)) ?_
                      refine lv_lconst (v := 1) hx hb dX12_tick_344 (by decide) ?_
                      refine lv_ladd hx hb dX12_tick_345 ?_
                      refine lv_topl (fun v_204 ev_204 => ?_)
                      have tv_204 := l_ad (q_190 1) 1
                      rw [← ev_204, show Int64.toInt 1 = 1 from by decide] at tv_204
                      refine k_last hx hb hK hI hS i_1.1 1 k_193 rfl (by unfold vp_in; decide) (cl_32 i_1) dX12_tick_346 (fun f_205 H locs e_206 hI hS => ?_)
                      generalize eq_207 : vp_updL q_190 (Int32.toNatClampNeg 1) v_204 = q_207 at e_206
                      have k_209 : f_205 h0 = .inr (12, [.int z0, .int z1, .ref (gr g h0 2), .ref (gr g h0 3), .ref (gr g h0 4), .ref (gr g h0 5), .ref (gr g h0 6), .ref (gr g h0 7), .ref (gr g h0 8), .ref (gr g h0 9), .int z10, .ref (gr g h0 11), .int z12, .int z13, .int z14, .int z15, .long z16, .int z17, .int z18, .ref (gr g h0 19), .ref (gr g h0 20), .ref (gr g h0 21), .ref (gr g h0 22), .int z23, .long w24_37, .long z25, .long z26]) := by rw [e_206, va_up_ne _ _ (ik_ne i_h0 i_1 (by decide))]; exact k_192
                      have k_210 : f_205 (gr g h0 4) = .inl (gc g 1, 906, .inr (.inl q_207)) := by rw [e_206]; exact va_up_self _ _ _
                      have kp_208 := Kp.put kp_191 i_1 (by decide) e_206
                      have u_211 : vp_updL q_190 1 v_204 = q_207 := by rw [← eq_207, show Int32.toNatClampNeg 1 = 1 from (show Int32.toNatClampNeg 1 = 1 by decide)]
                      have ok_212 : RowOK q_207 := by rw [← u_211]; exact rk_upd ok_195 (by refine ⟨⟨by omega, by omega, by omega, by omega, by omega⟩, fun t9 ht9 => ⟨by omega, by omega, by omega, by omega, by omega, by omega⟩, fun t9 k9 ht9 hk9 => ⟨by omega, by omega, by omega⟩, by omega⟩)
                      have d_213 := rk_hd ok_212
                      have n_214 : (q_207 0).toInt = (q_190 0).toInt := by rw [← u_211, pk_uLn (by omega)]
                      have n_215 : (q_207 1).toInt = Int64.toInt v_204 := by rw [← u_211, pk_uLs]
                      have n_216 : (q_207 3).toInt = (q_190 3).toInt := by rw [← u_211, pk_uLn (by omega)]
                      have n_217 : (q_207 4).toInt = (q_190 4).toInt := by rw [← u_211, pk_uLn (by omega)]
                      have n_218 : (q_207 5).toInt = (q_190 5).toInt := by rw [← u_211, pk_uLn (by omega)]
                      refine lv_iload_n hx hb dX12_tick_347 rfl (lv_at hl 1 rfl) ?_
                      refine k_topi (y := nI m_88) em_88 ?_
                      have g_219 := nI_toInt (n := m_88) (by omega)
                      have w_220 : -1 ≤ (nI m_88).toInt ∧ (nI m_88).toInt < (q 0).toInt := by omega
                      exact W.iret (v := (nI m_88)) hx hb hr (fun t ht hW => ⟨⟨nI m_88, (), rfl, w_220, ⟨f_205, k_ret ht hI, kp_208, w24_37, q_207, k_209, k_210, ok_212, (by first | omega | decide), (by first | omega | decide)⟩⟩, hS.F ht⟩) hS.2.2 dX12_tick_348
                refine lv_if_le (tgt := 305) hx hb dX12_tick_250 (by decide) (fun c_221 => ?_) (fun c_221 => ?_)
                · have c_221 := lc_le rfl (by decide : Int64.toInt 0 = 0) ((lg_cmp_le _ _).mp c_221)
                  exact J_305 q_104 f_102 _ _ _ hI hS k_107 ok_110 k_106 kp_105 (by first | omega | decide | exact Or.inl (by decide)) (by first | omega | decide | exact Or.inl (by decide)) (lv_sub hl [0, 1, 2, 3] rfl)
                · have c_221 := ln_le rfl (by decide : Int64.toInt 0 = 0) (fun h9 => c_221 ((lg_cmp_le _ _).mpr h9))
                  refine lv_aload_n hx hb dX12_tick_253 rfl (lv_at hl 2 rfl) ?_
                  refine k_get (ci := 12) (v := .ref (gr g h0 4)) (C := RX12) (T := TX12) (N := 27) hx hb hts (fun _ h0_ => List.mem_cons_of_mem _ (List.mem_append_right _ (List.mem_append_left _ h0_))) hown hK hI i_h0.1 k_106 rfl 4 (by decide) (hts (.fieldLink RX12 16 "DeadlineShareModel" "row" "[J") (List.mem_cons_of_mem _ (List.mem_append_left _ (List.mem_of_getElem? (i := 0) rfl)))) (fun _ h9 => h9) rfl dX12_tick_254 ?_
                  refine lv_iload_n hx hb dX12_tick_257 rfl (lv_at hl 0 rfl) ?_
                  refine lv_bipush (v := 15) hx hb dX12_tick_258 (by decide) ?_
                  refine lv_iadd hx hb dX12_tick_260 ?_
                  refine k_topi (y := nI (6 + 43 * m_88 + 15)) ((nI_add (6 + 43 * m_88) 15).trans (congrArg nI (by omega))) ?_
                  refine lv_dup2_11 hx hb dX12_tick_261 rfl rfl ?_
                  refine k_lald hx hb hK hI i_1.1 1 k_107 rfl (vp_in_nI (by omega) (by omega)) dX12_tick_262 ?_
                  refine k_topl (y := q_104 (6 + 43 * m_88 + 15)) (congrArg q_104 (nI_clamp (by omega))) ?_
                  refine lv_lconst (v := 1) hx hb dX12_tick_263 (by decide) ?_
                  refine lv_lsub hx hb dX12_tick_264 ?_
                  refine lv_topl (fun v_224 ev_224 => ?_)
                  have tv_224 := l_sb (q_104 (6 + 43 * m_88 + 15)) 1
                  rw [← ev_224, show Int64.toInt 1 = 1 from by decide] at tv_224
                  refine k_last hx hb hK hI hS i_1.1 1 k_107 rfl (vp_in_nI (by omega) (by omega)) (cl_32 i_1) dX12_tick_265 (fun f_225 H locs e_226 hI hS => ?_)
                  generalize eq_227 : vp_updL q_104 (Int32.toNatClampNeg (nI (6 + 43 * m_88 + 15))) v_224 = q_227 at e_226
                  have k_229 : f_225 h0 = .inr (12, [.int z0, .int z1, .ref (gr g h0 2), .ref (gr g h0 3), .ref (gr g h0 4), .ref (gr g h0 5), .ref (gr g h0 6), .ref (gr g h0 7), .ref (gr g h0 8), .ref (gr g h0 9), .int z10, .ref (gr g h0 11), .int z12, .int z13, .int z14, .int z15, .long z16, .int z17, .int z18, .ref (gr g h0 19), .ref (gr g h0 20), .ref (gr g h0 21), .ref (gr g h0 22), .int z23, .long w24_37, .long z25, .long z26]) := by rw [e_226, va_up_ne _ _ (ik_ne i_h0 i_1 (by decide))]; exact k_106
                  have k_230 : f_225 (gr g h0 4) = .inl (gc g 1, 906, .inr (.inl q_227)) := by rw [e_226]; exact va_up_self _ _ _
                  have kp_228 := Kp.put kp_105 i_1 (by decide) e_226
                  have u_231 : vp_updL q_104 (6 + 43 * m_88 + 15) v_224 = q_227 := by rw [← eq_227, show Int32.toNatClampNeg (nI (6 + 43 * m_88 + 15)) = 6 + 43 * m_88 + 15 from (nI_clamp (by omega))]
                  have ok_232 : RowOK q_227 := by rw [← u_231]; exact rk_upd ok_110 (by refine ⟨⟨by omega, by omega, by omega, by omega, by omega⟩, fun t9 ht9 => ⟨by omega, by omega, by omega, by omega, by omega, by omega⟩, fun t9 k9 ht9 hk9 => ⟨by omega, by omega, by omega⟩, by omega⟩)
                  have d_233 := rk_hd ok_232
                  have n_234 : (q_227 0).toInt = (q_104 0).toInt := by rw [← u_231, pk_uLn (by omega)]
                  have n_235 : (q_227 1).toInt = (q_104 1).toInt := by rw [← u_231, pk_uLn (by omega)]
                  have n_236 : (q_227 3).toInt = (q_104 3).toInt := by rw [← u_231, pk_uLn (by omega)]
                  have n_237 : (q_227 4).toInt = (q_104 4).toInt := by rw [← u_231, pk_uLn (by omega)]
                  have n_238 : (q_227 5).toInt = (q_104 5).toInt := by rw [← u_231, pk_uLn (by omega)]
                  refine lv_aload_n hx hb dX12_tick_266 rfl (lv_at hl 2 rfl) ?_
                  refine k_get (ci := 12) (v := .ref (gr g h0 4)) (C := RX12) (T := TX12) (N := 27) hx hb hts (fun _ h0_ => List.mem_cons_of_mem _ (List.mem_append_right _ (List.mem_append_left _ h0_))) hown hK hI i_h0.1 k_229 rfl 4 (by decide) (hts (.fieldLink RX12 16 "DeadlineShareModel" "row" "[J") (List.mem_cons_of_mem _ (List.mem_append_left _ (List.mem_of_getElem? (i := 0) rfl)))) (fun _ h9 => h9) rfl dX12_tick_267 ?_
                  refine lv_iload_n hx hb dX12_tick_270 rfl (lv_at hl 0 rfl) ?_
                  refine lv_bipush (v := 15) hx hb dX12_tick_271 (by decide) ?_
                  refine lv_iadd hx hb dX12_tick_273 ?_
                  refine k_topi (y := nI (6 + 43 * m_88 + 15)) ((nI_add (6 + 43 * m_88) 15).trans (congrArg nI (by omega))) ?_
                  refine k_lald hx hb hK hI i_1.1 1 k_230 rfl (vp_in_nI (by omega) (by omega)) dX12_tick_274 ?_
                  refine k_topl (y := q_227 (6 + 43 * m_88 + 15)) (congrArg q_227 (nI_clamp (by omega))) ?_
                  refine lv_lconst (v := 0) hx hb dX12_tick_275 (by decide) ?_
                  refine W.lcmp hx hb dX12_tick_276 ?_
                  refine lv_if_ne (tgt := 305) hx hb dX12_tick_277 (by decide) (fun c_241 => ?_) (fun c_241 => ?_)
                  · have c_241 := ln_eq rfl (by decide : Int64.toInt 0 = 0) (fun h9 => c_241 ((lg_cmp_eq _ _).mpr h9))
                    exact J_305 q_227 f_225 _ _ _ hI hS k_230 ok_232 k_229 kp_228 (by first | omega | decide | exact Or.inl (by decide)) (by first | omega | decide | exact Or.inl (by decide)) (lv_sub hl [0, 1, 2, 3] rfl)
                  · have c_241 := lc_eq rfl (by decide : Int64.toInt 0 = 0) ((lg_cmp_eq _ _).mp c_241)
                    refine lv_aload_n hx hb dX12_tick_280 rfl (lv_at hl 2 rfl) ?_
                    refine lv_iload_n hx hb dX12_tick_281 rfl (lv_at hl 1 rfl) ?_
                    refine k_topi (y := nI m_88) em_88 ?_
                    refine lv_aload_n hx hb dX12_tick_282 rfl (lv_at hl 2 rfl) ?_
                    refine k_get (ci := 12) (v := .ref (gr g h0 4)) (C := RX12) (T := TX12) (N := 27) hx hb hts (fun _ h0_ => List.mem_cons_of_mem _ (List.mem_append_right _ (List.mem_append_left _ h0_))) hown hK hI i_h0.1 k_229 rfl 4 (by decide) (hts (.fieldLink RX12 16 "DeadlineShareModel" "row" "[J") (List.mem_cons_of_mem _ (List.mem_append_left _ (List.mem_of_getElem? (i := 0) rfl)))) (fun _ h9 => h9) rfl dX12_tick_283 ?_
                    refine lv_iload_n hx hb dX12_tick_286 rfl (lv_at hl 0 rfl) ?_
                    refine lv_bipush (v := 14) hx hb dX12_tick_287 (by decide) ?_
                    refine lv_iadd hx hb dX12_tick_289 ?_
                    refine k_topi (y := nI (6 + 43 * m_88 + 14)) ((nI_add (6 + 43 * m_88) 14).trans (congrArg nI (by omega))) ?_
                    refine k_lald hx hb hK hI i_1.1 1 k_230 rfl (vp_in_nI (by omega) (by omega)) dX12_tick_290 ?_
                    refine k_topl (y := q_227 (6 + 43 * m_88 + 14)) (congrArg q_227 (nI_clamp (by omega))) ?_
                    have d_244 := rk_14 ok_232 (t := m_88) (by omega)
                    refine lv_l2i (v := (q_227 (6 + 43 * m_88 + 14)).toInt32) hx hb dX12_tick_291 rfl ?_
                    refine lv_topi (fun v_245 ev_245 => ?_)
                    have tv_245 := k_l2i (q_227 (6 + 43 * m_88 + 14))
                    rw [← ev_245] at tv_245
                    refine lv_iconst (v := 1) hx hb dX12_tick_292 (by decide) ?_
                    refine lv_iadd hx hb dX12_tick_293 ?_
                    obtain ⟨m_246, em_246, tm_246⟩ := k_nat (x := v_245) (by omega)
                    refine k_topi (y := nI (m_246 + 1)) (by rw [em_246]; exact nI_1 m_246) ?_
                    refine lv_aload_n hx hb dX12_tick_294 rfl (lv_at hl 2 rfl) ?_
                    refine k_get (ci := 12) (v := .ref (gr g h0 4)) (C := RX12) (T := TX12) (N := 27) hx hb hts (fun _ h0_ => List.mem_cons_of_mem _ (List.mem_append_right _ (List.mem_append_left _ h0_))) hown hK hI i_h0.1 k_229 rfl 4 (by decide) (hts (.fieldLink RX12 16 "DeadlineShareModel" "row" "[J") (List.mem_cons_of_mem _ (List.mem_append_left _ (List.mem_of_getElem? (i := 0) rfl)))) (fun _ h9 => h9) rfl dX12_tick_295 ?_
                    refine lv_iconst (v := 1) hx hb dX12_tick_298 (by decide) ?_
                    refine k_lald hx hb hK hI i_1.1 1 k_230 rfl (by unfold vp_in; decide) dX12_tick_299 ?_
                    refine k_topl (y := q_227 1) (congrArg q_227 (show Int32.toNatClampNeg 1 = 1 by decide)) ?_
                    refine lv_lconst (v := 1) hx hb dX12_tick_300 (by decide) ?_
                    refine lv_ladd hx hb dX12_tick_301 ?_
                    refine lv_topl (fun v_249 ev_249 => ?_)
                    have tv_249 := l_ad (q_227 1) 1
                    rw [← ev_249, show Int64.toInt 1 = 1 from by decide] at tv_249
                    refine va_callv (va_runV (As := [.int (nI m_88), .int (nI (m_246 + 1)), .long v_249]) (rest := []) ⟨hx, hb, hml, hown, hts⟩ (c_X12_goOn l dC dI g A hG f_225 h0 m_88 (m_246 + 1) v_249 q_227 i_h0 k_230 ok_232 (by first | omega | decide | (simp only [k_c0, k_c1, k_cm1] <;> omega)) (by first | omega | decide | (simp only [k_c0, k_c1, k_cm1] <;> omega))) (cwV 3 hts (gi_V (fun w_ h0_ => ⟨List.mem_cons_of_mem _ (List.mem_append_right _ (List.mem_append_right _ (List.mem_append_right _ (List.mem_append_right _ (List.mem_append_right _ (List.mem_append_right _ (List.mem_append_right _ (List.mem_append_right _ (List.mem_append_right _ (List.mem_append_left _ h0_)))))))))), (tb_c_X12_goOn w_ h0_).2⟩) (List.mem_cons_of_mem _ (List.mem_append_left _ (List.mem_of_getElem? (i := 23) rfl))) (List.mem_cons_of_mem _ (List.mem_append_left _ (List.mem_of_getElem? (i := 24) rfl))) (List.mem_cons_of_mem _ (List.mem_append_left _ (List.mem_of_getElem? (i := 25) rfl))) (List.mem_cons_of_mem _ (List.mem_append_left _ (List.mem_of_getElem? (i := 4) rfl)))) rfl rfl rfl (by decide +kernel) ⟨Nat.le_of_ble_eq_true rfl, Nat.le_of_ble_eq_true rfl⟩) ⟨fun a U g mk q => ⟨q.1, q.2.calling rfl rfl⟩, k_recv hK hI i_h0.1 k_229 (ci := 12) rfl, fun U hU hW => ⟨rfl, kIn.of hI hK hE hS hU hW⟩⟩ rfl rfl hl.1 rfl (lv_room (Nat.le_of_ble_eq_true rfl)) dX12_tick_302 ⟨Nat.le_of_ble_eq_true rfl, Nat.le_of_ble_eq_true rfl⟩) hS (fun q _ h => h) (fun q h => h) (fun u t H1 locs ht hvm _ hB hz1 hk1 hS => ?_)
                    obtain ⟨f_250, hI, kc_252, q1_253, k_254, z_255, z_256, z_257⟩ := hB
                    rw [ht] at hI
                    have k_258 : f_250 h0 = .inr (12, [.int z0, .int z1, .ref (gr g h0 2), .ref (gr g h0 3), .ref (gr g h0 4), .ref (gr g h0 5), .ref (gr g h0 6), .ref (gr g h0 7), .ref (gr g h0 8), .ref (gr g h0 9), .int z10, .ref (gr g h0 11), .int z12, .int z13, .int z14, .int z15, .long z16, .int z17, .int z18, .ref (gr g h0 19), .ref (gr g h0 20), .ref (gr g h0 21), .ref (gr g h0 22), .int z23, .long w24_37, .long z25, .long z26]) := Kp.at kc_252 i_h0 (by decide) k_229
                    have z_255 : RowOK q1_253 := z_255
                    have d_259 := rk_hd z_255
                    have z_256 : (q1_253 0).toInt = (q_227 0).toInt := z_256
                    have z_257 : (q1_253 1).toInt = (q_227 1).toInt := z_257
                    have kp_260 := Kp.call kp_228 kc_252 (by decide)
                    generalize H1 = H at hI hS ⊢
                    refine W.widen (k := 0) (n := 0) (Nat.le_of_ble_eq_true rfl) (Nat.le_of_ble_eq_true rfl) ?_
                    exact J_305 q1_253 f_250 _ _ _ hI hS k_254 z_255 k_258 kp_260 (by first | omega | decide | exact Or.inl (by decide)) (by first | omega | decide | exact Or.inl (by decide)) (lv_sub hl [0, 1, 2, 3] rfl)
            · have c_32 := ln_le rfl (lN_toInt (n := y_18) (by omega)) (fun h9 => c_32 ((lg_cmp_ge _ _).mpr h9))
              refine lv_aload_n hx hb dX12_tick_104 rfl (lv_at hl 1 rfl) ?_
              refine k_get (ci := 12) (v := .ref (gr g h0 4)) (C := RX12) (T := TX12) (N := 27) hx hb hts (fun _ h0_ => List.mem_cons_of_mem _ (List.mem_append_right _ (List.mem_append_left _ h0_))) hown hK hI i_h0.1 k_23 rfl 4 (by decide) (hts (.fieldLink RX12 16 "DeadlineShareModel" "row" "[J") (List.mem_cons_of_mem _ (List.mem_append_left _ (List.mem_of_getElem? (i := 0) rfl)))) (fun _ h9 => h9) rfl dX12_tick_105 ?_
              refine lv_iload_n hx hb dX12_tick_108 rfl (lv_at hl 0 rfl) ?_
              refine va_calli (va_runS (As := [.int (nI y_18)]) (rest := [.ref (gr g h0 4)]) ⟨hx, hb, hml, hown, hts⟩ (c_X12_at l dC dI g A hG f_19 y_18) (va_cwS 1 hts (gi_S (fun w_ h0_ => ⟨List.mem_cons_of_mem _ (List.mem_append_right _ (List.mem_append_right _ (List.mem_append_right _ (List.mem_append_right _ (List.mem_append_right _ (List.mem_append_left _ h0_)))))), (tb_c_X12_at w_ h0_).2⟩) (List.mem_cons_of_mem _ (List.mem_append_left _ (List.mem_of_getElem? (i := 11) rfl))) (List.mem_cons_of_mem _ (List.mem_append_left _ (List.mem_of_getElem? (i := 12) rfl))) (List.mem_cons_of_mem _ (List.mem_append_left _ (List.mem_of_getElem? (i := 4) rfl)))) rfl rfl rfl (by decide +kernel) ⟨Nat.le_of_ble_eq_true rfl, Nat.le_of_ble_eq_true rfl⟩) ⟨fun a U g mk q => ⟨q.1, q.2.calling rfl rfl⟩, fun U hU hW => ⟨rfl, kIn.of hI hK hE hS hU hW⟩⟩ rfl rfl hl.1 rfl (lv_room (Nat.le_of_ble_eq_true rfl)) dX12_tick_109 ⟨Nat.le_of_ble_eq_true rfl, Nat.le_of_ble_eq_true rfl⟩) hS (fun q _ h => h) (fun q h => h) (fun r_264 u t H1 locs ht hvm w_263 hB hz1 hk1 hS => ?_)
              have hI : Iv dC dI g A f_19 t.heap := hB
              rw [ht] at hI
              generalize H1 = H at hI hS ⊢
              refine W.widen (k := 0) (n := 0) (Nat.le_of_ble_eq_true rfl) (Nat.le_of_ble_eq_true rfl) ?_
              have w_263 : r_264 = nI (6 + 43 * y_18) := w_263
              refine k_topi (y := nI (6 + 43 * y_18)) w_263 ?_
              refine lv_iconst (v := 2) hx hb dX12_tick_112 (by decide) ?_
              refine lv_iadd hx hb dX12_tick_113 ?_
              refine k_topi (y := nI (6 + 43 * y_18 + 2)) ((nI_add (6 + 43 * y_18) 2).trans (congrArg nI (by omega))) ?_
              refine k_lald hx hb hK hI i_1.1 1 k_21 rfl (vp_in_nI (by omega) (by omega)) dX12_tick_114 ?_
              refine k_topl (y := q_20 (6 + 43 * y_18 + 2)) (congrArg q_20 (nI_clamp (by omega))) ?_
              refine lv_ldc2 hx hb hown (hts (.constantLong RX12 124 (3)) (List.mem_cons_of_mem _ (List.mem_append_left _ (List.mem_of_getElem? (i := 22) rfl)))) dX12_tick_115 ?_
              refine W.lcmp hx hb dX12_tick_118 ?_
              have J_191 : ∀ (q_266 : Nat → Int64) (f_265 : Nat → va_E) (H : Heap) (locs : List Loc) (ls : Array Slot), Iv dC dI g A f_265 H → va_S A s.heap H locs → f_265 (gr g h0 4) = .inl (gc g 1, 906, .inr (.inl q_266)) → RowOK q_266 → f_265 h0 = .inr (12, [.int z0, .int z1, .ref (gr g h0 2), .ref (gr g h0 3), .ref (gr g h0 4), .ref (gr g h0 5), .ref (gr g h0 6), .ref (gr g h0 7), .ref (gr g h0 8), .ref (gr g h0 9), .int z10, .ref (gr g h0 11), .int z12, .int z13, .int z14, .int z15, .long z16, .int z17, .int z18, .ref (gr g h0 19), .ref (gr g h0 20), .ref (gr g h0 21), .ref (gr g h0 22), .int z23, .long z24, .long z25, .long z26]) → Kp g [12, 32] f f_265 → ((q_266 0).toInt = (q 0).toInt) → ((q_266 1).toInt = (q 1).toInt) → lv_has ls 4 [(2, .int (nI y_18)), (0, .ref h0), (1, .int p1)] → W p l e (headSpec wq_c_X12_tick ({ frames := 7, cells := 0, slots := 0, locals := 164 } : Room)).room s m ([.ref h0, .int p1].toArray) below meth c H locs 0 0 (MQ below (va_Qi (fun (r : Int32) (_ : Unit) => -1 ≤ r.toInt ∧ r.toInt < (q 0).toInt) (fun (_ : Unit) t => ∃ f1 : Nat → va_E, Iv dC dI g A f1 t.heap ∧ Kp g [12, 32] f f1 ∧ ∃ (w24 : Int64) (q1 : Nat → Int64), (f1 h0 = .inr (12, [.int z0, .int z1, .ref (gr g h0 2), .ref (gr g h0 3), .ref (gr g h0 4), .ref (gr g h0 5), .ref (gr g h0 6), .ref (gr g h0 7), .ref (gr g h0 8), .ref (gr g h0 9), .int z10, .ref (gr g h0 11), .int z12, .int z13, .int z14, .int z15, .long z16, .int z17, .int z18, .ref (gr g h0 19), .ref (gr g h0 20), .ref (gr g h0 21), .ref (gr g h0 22), .int z23, .long w24, .long z25, .long z26])) ∧ (f1 (gr g h0 4) = .inl (gc g 1, 906, .inr (.inl q1))) ∧ (RowOK q1) ∧ ((q1 0).toInt = (q 0).toInt) ∧ ((q1 1).toInt = (q 1).toInt + 1)) A) ([.ref h0, .int p1].toArray) s 0 0 A) (F0 m 191 ls []) := by
                intro q_266 f_265 H locs ls hI hS k_267 ok_268 k_269 kp_270 t_271 t_272 hl
                have d_273 := rk_hd ok_268
                refine lv_iinc (v := nI (y_18 + 1)) (lv' := [(2, .int (nI (y_18 + 1))), (0, .ref h0), (1, .int p1)]) hx hb dX12_tick_191 hl (k := 0) rfl (nI_1 _) (by decide) rfl (fun ls hl => ?_)
                refine lv_goto (tgt := 92) hx hb dX12_tick_194 (by decide) ?_
                exact ih_92 (y_18 + 1) q_266 f_265 _ _ _ (by omega) hI hS k_267 ok_268 k_269 kp_270 (by first | omega | decide | exact Or.inl (by decide)) (by first | omega | decide | exact Or.inl (by decide)) (by first | omega | decide | exact Or.inl (by decide)) (lv_sub hl [0, 1, 2] rfl)
              have J_146 : ∀ (H : Heap) (locs : List Loc) (ls : Array Slot), Iv dC dI g A f_19 H → va_S A s.heap H locs → lv_has ls 4 [(2, .int (nI y_18)), (0, .ref h0), (1, .int p1)] → W p l e (headSpec wq_c_X12_tick ({ frames := 7, cells := 0, slots := 0, locals := 164 } : Room)).room s m ([.ref h0, .int p1].toArray) below meth c H locs 0 0 (MQ below (va_Qi (fun (r : Int32) (_ : Unit) => -1 ≤ r.toInt ∧ r.toInt < (q 0).toInt) (fun (_ : Unit) t => ∃ f1 : Nat → va_E, Iv dC dI g A f1 t.heap ∧ Kp g [12, 32] f f1 ∧ ∃ (w24 : Int64) (q1 : Nat → Int64), (f1 h0 = .inr (12, [.int z0, .int z1, .ref (gr g h0 2), .ref (gr g h0 3), .ref (gr g h0 4), .ref (gr g h0 5), .ref (gr g h0 6), .ref (gr g h0 7), .ref (gr g h0 8), .ref (gr g h0 9), .int z10, .ref (gr g h0 11), .int z12, .int z13, .int z14, .int z15, .long z16, .int z17, .int z18, .ref (gr g h0 19), .ref (gr g h0 20), .ref (gr g h0 21), .ref (gr g h0 22), .int z23, .long w24, .long z25, .long z26])) ∧ (f1 (gr g h0 4) = .inl (gc g 1, 906, .inr (.inl q1))) ∧ (RowOK q1) ∧ ((q1 0).toInt = (q 0).toInt) ∧ ((q1 1).toInt = (q 1).toInt + 1)) A) ([.ref h0, .int p1].toArray) s 0 0 A) (F0 m 146 ls []) := by
                intro H locs ls hI hS  hl
                refine lv_aload_n hx hb dX12_tick_146 rfl (lv_at hl 1 rfl) ?_
                refine k_get (ci := 12) (v := .ref (gr g h0 4)) (C := RX12) (T := TX12) (N := 27) hx hb hts (fun _ h0_ => List.mem_cons_of_mem _ (List.mem_append_right _ (List.mem_append_left _ h0_))) hown hK hI i_h0.1 k_23 rfl 4 (by decide) (hts (.fieldLink RX12 16 "DeadlineShareModel" "row" "[J") (List.mem_cons_of_mem _ (List.mem_append_left _ (List.mem_of_getElem? (i := 0) rfl)))) (fun _ h9 => h9) rfl dX12_tick_147 ?_
                refine lv_iload_n hx hb dX12_tick_150 rfl (lv_at hl 0 rfl) ?_
                refine va_calli (va_runS (As := [.int (nI y_18)]) (rest := [.ref (gr g h0 4)]) ⟨hx, hb, hml, hown, hts⟩ (c_X12_at l dC dI g A hG f_19 y_18) (va_cwS 1 hts (gi_S (fun w_ h0_ => ⟨List.mem_cons_of_mem _ (List.mem_append_right _ (List.mem_append_right _ (List.mem_append_right _ (List.mem_append_right _ (List.mem_append_right _ (List.mem_append_left _ h0_)))))), (tb_c_X12_at w_ h0_).2⟩) (List.mem_cons_of_mem _ (List.mem_append_left _ (List.mem_of_getElem? (i := 11) rfl))) (List.mem_cons_of_mem _ (List.mem_append_left _ (List.mem_of_getElem? (i := 12) rfl))) (List.mem_cons_of_mem _ (List.mem_append_left _ (List.mem_of_getElem? (i := 4) rfl)))) rfl rfl rfl (by decide +kernel) ⟨Nat.le_of_ble_eq_true rfl, Nat.le_of_ble_eq_true rfl⟩) ⟨fun a U g mk q => ⟨q.1, q.2.calling rfl rfl⟩, fun U hU hW => ⟨rfl, kIn.of hI hK hE hS hU hW⟩⟩ rfl rfl hl.1 rfl (lv_room (Nat.le_of_ble_eq_true rfl)) dX12_tick_151 ⟨Nat.le_of_ble_eq_true rfl, Nat.le_of_ble_eq_true rfl⟩) hS (fun q _ h => h) (fun q h => h) (fun r_277 u t H1 locs ht hvm w_276 hB hz1 hk1 hS => ?_)
                have hI : Iv dC dI g A f_19 t.heap := hB
                rw [ht] at hI
                generalize H1 = H at hI hS ⊢
                refine W.widen (k := 0) (n := 0) (Nat.le_of_ble_eq_true rfl) (Nat.le_of_ble_eq_true rfl) ?_
                have w_276 : r_277 = nI (6 + 43 * y_18) := w_276
                refine k_topi (y := nI (6 + 43 * y_18)) w_276 ?_
                refine lv_iconst (v := 2) hx hb dX12_tick_154 (by decide) ?_
                refine lv_iadd hx hb dX12_tick_155 ?_
                refine k_topi (y := nI (6 + 43 * y_18 + 2)) ((nI_add (6 + 43 * y_18) 2).trans (congrArg nI (by omega))) ?_
                refine k_lald hx hb hK hI i_1.1 1 k_21 rfl (vp_in_nI (by omega) (by omega)) dX12_tick_156 ?_
                refine k_topl (y := q_20 (6 + 43 * y_18 + 2)) (congrArg q_20 (nI_clamp (by omega))) ?_
                refine lv_ldc2 hx hb hown (hts (.constantLong RX12 122 (2)) (List.mem_cons_of_mem _ (List.mem_append_left _ (List.mem_of_getElem? (i := 26) rfl)))) dX12_tick_157 ?_
                refine W.lcmp hx hb dX12_tick_160 ?_
                refine lv_if_ne (tgt := 191) hx hb dX12_tick_161 (by decide) (fun c_278 => ?_) (fun c_278 => ?_)
                · have c_278 := ln_eq rfl (by decide : Int64.toInt 2 = 2) (fun h9 => c_278 ((lg_cmp_eq _ _).mpr h9))
                  exact J_191 q_20 f_19 _ _ _ hI hS k_21 ok_22 k_23 kp_24 (by first | omega | decide | exact Or.inl (by decide)) (by first | omega | decide | exact Or.inl (by decide)) (lv_sub hl [0, 1, 2] rfl)
                · have c_278 := lc_eq rfl (by decide : Int64.toInt 2 = 2) ((lg_cmp_eq _ _).mp c_278)
                  refine lv_aload_n hx hb dX12_tick_164 rfl (lv_at hl 1 rfl) ?_
                  refine k_get (ci := 12) (v := .ref (gr g h0 4)) (C := RX12) (T := TX12) (N := 27) hx hb hts (fun _ h0_ => List.mem_cons_of_mem _ (List.mem_append_right _ (List.mem_append_left _ h0_))) hown hK hI i_h0.1 k_23 rfl 4 (by decide) (hts (.fieldLink RX12 16 "DeadlineShareModel" "row" "[J") (List.mem_cons_of_mem _ (List.mem_append_left _ (List.mem_of_getElem? (i := 0) rfl)))) (fun _ h9 => h9) rfl dX12_tick_165 ?_
                  refine lv_iload_n hx hb dX12_tick_168 rfl (lv_at hl 0 rfl) ?_
                  refine va_calli (va_runS (As := [.int (nI y_18)]) (rest := [.ref (gr g h0 4)]) ⟨hx, hb, hml, hown, hts⟩ (c_X12_at l dC dI g A hG f_19 y_18) (va_cwS 1 hts (gi_S (fun w_ h0_ => ⟨List.mem_cons_of_mem _ (List.mem_append_right _ (List.mem_append_right _ (List.mem_append_right _ (List.mem_append_right _ (List.mem_append_right _ (List.mem_append_left _ h0_)))))), (tb_c_X12_at w_ h0_).2⟩) (List.mem_cons_of_mem _ (List.mem_append_left _ (List.mem_of_getElem? (i := 11) rfl))) (List.mem_cons_of_mem _ (List.mem_append_left _ (List.mem_of_getElem? (i := 12) rfl))) (List.mem_cons_of_mem _ (List.mem_append_left _ (List.mem_of_getElem? (i := 4) rfl)))) rfl rfl rfl (by decide +kernel) ⟨Nat.le_of_ble_eq_true rfl, Nat.le_of_ble_eq_true rfl⟩) ⟨fun a U g mk q => ⟨q.1, q.2.calling rfl rfl⟩, fun U hU hW => ⟨rfl, kIn.of hI hK hE hS hU hW⟩⟩ rfl rfl hl.1 rfl (lv_room (Nat.le_of_ble_eq_true rfl)) dX12_tick_169 ⟨Nat.le_of_ble_eq_true rfl, Nat.le_of_ble_eq_true rfl⟩) hS (fun q _ h => h) (fun q h => h) (fun r_282 u t H1 locs ht hvm w_281 hB hz1 hk1 hS => ?_)
                  have hI : Iv dC dI g A f_19 t.heap := hB
                  rw [ht] at hI
                  generalize H1 = H at hI hS ⊢
                  refine W.widen (k := 0) (n := 0) (Nat.le_of_ble_eq_true rfl) (Nat.le_of_ble_eq_true rfl) ?_
                  have w_281 : r_282 = nI (6 + 43 * y_18) := w_281
                  refine k_topi (y := nI (6 + 43 * y_18)) w_281 ?_
                  refine lv_bipush (v := 9) hx hb dX12_tick_172 (by decide) ?_
                  refine lv_iadd hx hb dX12_tick_174 ?_
                  refine k_topi (y := nI (6 + 43 * y_18 + 9)) ((nI_add (6 + 43 * y_18) 9).trans (congrArg nI (by omega))) ?_
                  refine k_lald hx hb hK hI i_1.1 1 k_21 rfl (vp_in_nI (by omega) (by omega)) dX12_tick_175 ?_
                  refine k_topl (y := q_20 (6 + 43 * y_18 + 9)) (congrArg q_20 (nI_clamp (by omega))) ?_
                  refine lv_aload_n hx hb dX12_tick_176 rfl (lv_at hl 1 rfl) ?_
                  refine k_get (ci := 12) (v := .ref (gr g h0 4)) (C := RX12) (T := TX12) (N := 27) hx hb hts (fun _ h0_ => List.mem_cons_of_mem _ (List.mem_append_right _ (List.mem_append_left _ h0_))) hown hK hI i_h0.1 k_23 rfl 4 (by decide) (hts (.fieldLink RX12 16 "DeadlineShareModel" "row" "[J") (List.mem_cons_of_mem _ (List.mem_append_left _ (List.mem_of_getElem? (i := 0) rfl)))) (fun _ h9 => h9) rfl dX12_tick_177 ?_
                  refine lv_iconst (v := 1) hx hb dX12_tick_180 (by decide) ?_
                  refine k_lald hx hb hK hI i_1.1 1 k_21 rfl (by unfold vp_in; decide) dX12_tick_181 ?_
                  refine k_topl (y := q_20 1) (congrArg q_20 (show Int32.toNatClampNeg 1 = 1 by decide)) ?_
                  refine W.lcmp hx hb dX12_tick_182 ?_
                  refine lv_if_gt (tgt := 191) hx hb dX12_tick_183 (by decide) (fun c_285 => ?_) (fun c_285 => ?_)
                  · have c_285 := lc_lt rfl rfl ((lg_cmp_gt _ _).mp c_285)
                    exact J_191 q_20 f_19 _ _ _ hI hS k_21 ok_22 k_23 kp_24 (by first | omega | decide | exact Or.inl (by decide)) (by first | omega | decide | exact Or.inl (by decide)) (lv_sub hl [0, 1, 2] rfl)
                  · have c_285 := ln_lt rfl rfl (fun h9 => c_285 ((lg_cmp_gt _ _).mpr h9))
                    refine lv_aload_n hx hb dX12_tick_186 rfl (lv_at hl 1 rfl) ?_
                    refine lv_iload_n hx hb dX12_tick_187 rfl (lv_at hl 0 rfl) ?_
                    refine va_callv (va_runV (As := [.int (nI y_18)]) (rest := []) ⟨hx, hb, hml, hown, hts⟩ (c_X12_wake l dC dI g A hG f_19 h0 y_18 q_20 i_h0 k_21 ok_22 (by first | omega | decide | (simp only [k_c0, k_c1, k_cm1] <;> omega))) (cwV 1 hts (gi_V (fun w_ h0_ => ⟨List.mem_cons_of_mem _ (List.mem_append_right _ (List.mem_append_right _ (List.mem_append_right _ (List.mem_append_right _ (List.mem_append_right _ (List.mem_append_right _ (List.mem_append_right _ (List.mem_append_right _ (List.mem_append_right _ (List.mem_append_right _ (List.mem_append_left _ h0_))))))))))), (tb_c_X12_wake w_ h0_).2⟩) (List.mem_cons_of_mem _ (List.mem_append_left _ (List.mem_of_getElem? (i := 27) rfl))) (List.mem_cons_of_mem _ (List.mem_append_left _ (List.mem_of_getElem? (i := 28) rfl))) (List.mem_cons_of_mem _ (List.mem_append_left _ (List.mem_of_getElem? (i := 29) rfl))) (List.mem_cons_of_mem _ (List.mem_append_left _ (List.mem_of_getElem? (i := 4) rfl)))) rfl rfl rfl (by decide +kernel) ⟨Nat.le_of_ble_eq_true rfl, Nat.le_of_ble_eq_true rfl⟩) ⟨fun a U g mk q => ⟨q.1, q.2.calling rfl rfl⟩, k_recv hK hI i_h0.1 k_23 (ci := 12) rfl, fun U hU hW => ⟨rfl, kIn.of hI hK hE hS hU hW⟩⟩ rfl rfl hl.1 rfl (lv_room (Nat.le_of_ble_eq_true rfl)) dX12_tick_188 ⟨Nat.le_of_ble_eq_true rfl, Nat.le_of_ble_eq_true rfl⟩) hS (fun q _ h => h) (fun q h => h) (fun u t H1 locs ht hvm _ hB hz1 hk1 hS => ?_)
                    obtain ⟨f_286, hI, kc_288, q1_289, k_290, z_291, z_292, z_293⟩ := hB
                    rw [ht] at hI
                    have k_294 : f_286 h0 = .inr (12, [.int z0, .int z1, .ref (gr g h0 2), .ref (gr g h0 3), .ref (gr g h0 4), .ref (gr g h0 5), .ref (gr g h0 6), .ref (gr g h0 7), .ref (gr g h0 8), .ref (gr g h0 9), .int z10, .ref (gr g h0 11), .int z12, .int z13, .int z14, .int z15, .long z16, .int z17, .int z18, .ref (gr g h0 19), .ref (gr g h0 20), .ref (gr g h0 21), .ref (gr g h0 22), .int z23, .long z24, .long z25, .long z26]) := Kp.at kc_288 i_h0 (by decide) k_23
                    have z_291 : RowOK q1_289 := z_291
                    have d_295 := rk_hd z_291
                    have z_292 : (q1_289 0).toInt = (q_20 0).toInt := z_292
                    have z_293 : (q1_289 1).toInt = (q_20 1).toInt := z_293
                    have kp_296 := Kp.call kp_24 kc_288 (by decide)
                    generalize H1 = H at hI hS ⊢
                    refine W.widen (k := 0) (n := 0) (Nat.le_of_ble_eq_true rfl) (Nat.le_of_ble_eq_true rfl) ?_
                    exact J_191 q1_289 f_286 _ _ _ hI hS k_290 z_291 k_294 kp_296 (by first | omega | decide | exact Or.inl (by decide)) (by first | omega | decide | exact Or.inl (by decide)) (lv_sub hl [0, 1, 2] rfl)
              refine lv_if_ne (tgt := 146) hx hb dX12_tick_119 (by decide) (fun c_297 => ?_) (fun c_297 => ?_)
              · have c_297 := ln_eq rfl (by decide : Int64.toInt 3 = 3) (fun h9 => c_297 ((lg_cmp_eq _ _).mpr h9))
                exact J_146  _ _ _ hI hS  (lv_sub hl [0, 1, 2] rfl)
              · have c_297 := lc_eq rfl (by decide : Int64.toInt 3 = 3) ((lg_cmp_eq _ _).mp c_297)
                refine lv_aload_n hx hb dX12_tick_122 rfl (lv_at hl 1 rfl) ?_
                refine lv_iload_n hx hb dX12_tick_123 rfl (lv_at hl 0 rfl) ?_
                refine va_calli (va_runV (As := [.int (nI y_18)]) (rest := []) ⟨hx, hb, hml, hown, hts⟩ (c_X12_isSpent l dC dI g A hG f_19 h0 y_18 q_20 i_h0 k_21 ok_22 (by first | omega | decide | (simp only [k_c0, k_c1, k_cm1] <;> omega))) (cwV 1 hts (gi_V (fun w_ h0_ => ⟨List.mem_cons_of_mem _ (List.mem_append_right _ (List.mem_append_right _ (List.mem_append_right _ (List.mem_append_right _ (List.mem_append_right _ (List.mem_append_right _ (List.mem_append_right _ (List.mem_append_left _ h0_)))))))), (tb_c_X12_isSpent w_ h0_).2⟩) (List.mem_cons_of_mem _ (List.mem_append_left _ (List.mem_of_getElem? (i := 16) rfl))) (List.mem_cons_of_mem _ (List.mem_append_left _ (List.mem_of_getElem? (i := 17) rfl))) (List.mem_cons_of_mem _ (List.mem_append_left _ (List.mem_of_getElem? (i := 18) rfl))) (List.mem_cons_of_mem _ (List.mem_append_left _ (List.mem_of_getElem? (i := 4) rfl)))) rfl rfl rfl (by decide +kernel) ⟨Nat.le_of_ble_eq_true rfl, Nat.le_of_ble_eq_true rfl⟩) ⟨fun a U g mk q => ⟨q.1, q.2.calling rfl rfl⟩, k_recv hK hI i_h0.1 k_23 (ci := 12) rfl, fun U hU hW => ⟨rfl, kIn.of hI hK hE hS hU hW⟩⟩ rfl rfl hl.1 rfl (lv_room (Nat.le_of_ble_eq_true rfl)) dX12_tick_124 ⟨Nat.le_of_ble_eq_true rfl, Nat.le_of_ble_eq_true rfl⟩) hS (fun q _ h => h) (fun q h => h) (fun r_299 u t H1 locs ht hvm w_298 hB hz1 hk1 hS => ?_)
                have hI : Iv dC dI g A f_19 t.heap := hB
                rw [ht] at hI
                generalize H1 = H at hI hS ⊢
                refine W.widen (k := 0) (n := 0) (Nat.le_of_ble_eq_true rfl) (Nat.le_of_ble_eq_true rfl) ?_
                refine lv_if_ne (tgt := 146) hx hb dX12_tick_127 (by decide) (fun c_300 => ?_) (fun c_300 => ?_)
                · have c_300 := kn_eq rfl (by decide : Int32.toInt 0 = 0) c_300
                  exact J_146  _ _ _ hI hS  (lv_sub hl [0, 1, 2] rfl)
                · have c_300 := kc_eq rfl (by decide : Int32.toInt 0 = 0) c_300
                  refine lv_aload_n hx hb dX12_tick_130 rfl (lv_at hl 1 rfl) ?_
                  refine lv_iload_n hx hb dX12_tick_131 rfl (lv_at hl 0 rfl) ?_
                  refine va_calli (va_runV (As := [.int (nI y_18)]) (rest := []) ⟨hx, hb, hml, hown, hts⟩ (c_X12_hasRoom l dC dI g A hG f_19 h0 y_18 q_20 i_h0 k_21 ok_22 (by first | omega | decide | (simp only [k_c0, k_c1, k_cm1] <;> omega))) (cwV 1 hts (gi_V (fun w_ h0_ => ⟨List.mem_cons_of_mem _ (List.mem_append_right _ (List.mem_append_right _ (List.mem_append_right _ (List.mem_append_right _ (List.mem_append_right _ (List.mem_append_right _ (List.mem_append_right _ (List.mem_append_right _ (List.mem_append_right _ (List.mem_append_right _ (List.mem_append_right _ (List.mem_append_left _ h0_)))))))))))), (tb_c_X12_hasRoom w_ h0_).2⟩) (List.mem_cons_of_mem _ (List.mem_append_left _ (List.mem_of_getElem? (i := 30) rfl))) (List.mem_cons_of_mem _ (List.mem_append_left _ (List.mem_of_getElem? (i := 31) rfl))) (List.mem_cons_of_mem _ (List.mem_append_left _ (List.mem_of_getElem? (i := 32) rfl))) (List.mem_cons_of_mem _ (List.mem_append_left _ (List.mem_of_getElem? (i := 4) rfl)))) rfl rfl rfl (by decide +kernel) ⟨Nat.le_of_ble_eq_true rfl, Nat.le_of_ble_eq_true rfl⟩) ⟨fun a U g mk q => ⟨q.1, q.2.calling rfl rfl⟩, k_recv hK hI i_h0.1 k_23 (ci := 12) rfl, fun U hU hW => ⟨rfl, kIn.of hI hK hE hS hU hW⟩⟩ rfl rfl hl.1 rfl (lv_room (Nat.le_of_ble_eq_true rfl)) dX12_tick_132 ⟨Nat.le_of_ble_eq_true rfl, Nat.le_of_ble_eq_true rfl⟩) hS (fun q _ h => h) (fun q h => h) (fun r_302 u t H1 locs ht hvm w_301 hB hz1 hk1 hS => ?_)
                  have hI : Iv dC dI g A f_19 t.heap := hB
                  rw [ht] at hI
                  generalize H1 = H at hI hS ⊢
                  refine W.widen (k := 0) (n := 0) (Nat.le_of_ble_eq_true rfl) (Nat.le_of_ble_eq_true rfl) ?_
                  refine lv_if_eq (tgt := 146) hx hb dX12_tick_135 (by decide) (fun c_303 => ?_) (fun c_303 => ?_)
                  · have c_303 := kc_eq rfl (by decide : Int32.toInt 0 = 0) c_303
                    exact J_146  _ _ _ hI hS  (lv_sub hl [0, 1, 2] rfl)
                  · have c_303 := kn_eq rfl (by decide : Int32.toInt 0 = 0) c_303
                    refine lv_aload_n hx hb dX12_tick_138 rfl (lv_at hl 1 rfl) ?_
                    refine lv_iload_n hx hb dX12_tick_139 rfl (lv_at hl 0 rfl) ?_
                    refine va_callv (va_runV (As := [.int (nI y_18)]) (rest := []) ⟨hx, hb, hml, hown, hts⟩ (c_X12_joins l dC dI g A hG f_19 h0 y_18 q_20 i_h0 k_21 ok_22 (by first | omega | decide | (simp only [k_c0, k_c1, k_cm1] <;> omega))) (cwV 1 hts (gi_V (fun w_ h0_ => ⟨List.mem_cons_of_mem _ (List.mem_append_right _ (List.mem_append_right _ (List.mem_append_right _ (List.mem_append_right _ (List.mem_append_right _ (List.mem_append_right _ (List.mem_append_right _ (List.mem_append_right _ (List.mem_append_right _ (List.mem_append_right _ (List.mem_append_right _ (List.mem_append_right _ (List.mem_append_left _ h0_))))))))))))), (tb_c_X12_joins w_ h0_).2⟩) (List.mem_cons_of_mem _ (List.mem_append_left _ (List.mem_of_getElem? (i := 33) rfl))) (List.mem_cons_of_mem _ (List.mem_append_left _ (List.mem_of_getElem? (i := 34) rfl))) (List.mem_cons_of_mem _ (List.mem_append_left _ (List.mem_of_getElem? (i := 35) rfl))) (List.mem_cons_of_mem _ (List.mem_append_left _ (List.mem_of_getElem? (i := 4) rfl)))) rfl rfl rfl (by decide +kernel) ⟨Nat.le_of_ble_eq_true rfl, Nat.le_of_ble_eq_true rfl⟩) ⟨fun a U g mk q => ⟨q.1, q.2.calling rfl rfl⟩, k_recv hK hI i_h0.1 k_23 (ci := 12) rfl, fun U hU hW => ⟨rfl, kIn.of hI hK hE hS hU hW⟩⟩ rfl rfl hl.1 rfl (lv_room (Nat.le_of_ble_eq_true rfl)) dX12_tick_140 ⟨Nat.le_of_ble_eq_true rfl, Nat.le_of_ble_eq_true rfl⟩) hS (fun q _ h => h) (fun q h => h) (fun u t H1 locs ht hvm _ hB hz1 hk1 hS => ?_)
                    obtain ⟨f_304, hI, kc_306, q1_307, k_308, z_309, z_310, z_311⟩ := hB
                    rw [ht] at hI
                    have k_312 : f_304 h0 = .inr (12, [.int z0, .int z1, .ref (gr g h0 2), .ref (gr g h0 3), .ref (gr g h0 4), .ref (gr g h0 5), .ref (gr g h0 6), .ref (gr g h0 7), .ref (gr g h0 8), .ref (gr g h0 9), .int z10, .ref (gr g h0 11), .int z12, .int z13, .int z14, .int z15, .long z16, .int z17, .int z18, .ref (gr g h0 19), .ref (gr g h0 20), .ref (gr g h0 21), .ref (gr g h0 22), .int z23, .long z24, .long z25, .long z26]) := Kp.at kc_306 i_h0 (by decide) k_23
                    have z_309 : RowOK q1_307 := z_309
                    have d_313 := rk_hd z_309
                    have z_310 : (q1_307 0).toInt = (q_20 0).toInt := z_310
                    have z_311 : (q1_307 1).toInt = (q_20 1).toInt := z_311
                    have kp_314 := Kp.call kp_24 kc_306 (by decide)
                    generalize H1 = H at hI hS ⊢
                    refine W.widen (k := 0) (n := 0) (Nat.le_of_ble_eq_true rfl) (Nat.le_of_ble_eq_true rfl) ?_
                    refine lv_goto (tgt := 191) hx hb dX12_tick_143 (by decide) ?_
                    exact J_191 q1_307 f_304 _ _ _ hI hS k_308 z_309 k_312 kp_314 (by first | omega | decide | exact Or.inl (by decide)) (by first | omega | decide | exact Or.inl (by decide)) (lv_sub hl [0, 1, 2] rfl)
        exact K_92 _ 0 q_5 f_4 _ _ _ (Nat.lt_succ_self _) hI hS k_6 ok_7 k_8 kp_9 (by first | omega | decide | exact Or.inl (by decide)) (by first | omega | decide | exact Or.inl (by decide)) (by first | omega | decide | exact Or.inl (by decide)) (lv_sub hl [0, 1, 2] rfl)
      · have c_17 := ln_le rfl (lN_toInt (n := y_3) (by omega)) (fun h9 => c_17 ((lg_cmp_ge _ _).mpr h9))
        refine lv_iload_n hx hb dX12_tick_14 rfl (lv_at hl 0 rfl) ?_
        refine va_calli (va_runS (As := [.int (nI y_3)]) (rest := []) ⟨hx, hb, hml, hown, hts⟩ (c_X12_at l dC dI g A hG f_4 y_3) (va_cwS 1 hts (gi_S (fun w_ h0_ => ⟨List.mem_cons_of_mem _ (List.mem_append_right _ (List.mem_append_right _ (List.mem_append_right _ (List.mem_append_right _ (List.mem_append_right _ (List.mem_append_left _ h0_)))))), (tb_c_X12_at w_ h0_).2⟩) (List.mem_cons_of_mem _ (List.mem_append_left _ (List.mem_of_getElem? (i := 11) rfl))) (List.mem_cons_of_mem _ (List.mem_append_left _ (List.mem_of_getElem? (i := 12) rfl))) (List.mem_cons_of_mem _ (List.mem_append_left _ (List.mem_of_getElem? (i := 4) rfl)))) rfl rfl rfl (by decide +kernel) ⟨Nat.le_of_ble_eq_true rfl, Nat.le_of_ble_eq_true rfl⟩) ⟨fun a U g mk q => ⟨q.1, q.2.calling rfl rfl⟩, fun U hU hW => ⟨rfl, kIn.of hI hK hE hS hU hW⟩⟩ rfl rfl hl.1 rfl (lv_room (Nat.le_of_ble_eq_true rfl)) dX12_tick_15 ⟨Nat.le_of_ble_eq_true rfl, Nat.le_of_ble_eq_true rfl⟩) hS (fun q _ h => h) (fun q h => h) (fun r_316 u t H1 locs ht hvm w_315 hB hz1 hk1 hS => ?_)
        have hI : Iv dC dI g A f_4 t.heap := hB
        rw [ht] at hI
        generalize H1 = H at hI hS ⊢
        refine W.widen (k := 0) (n := 0) (Nat.le_of_ble_eq_true rfl) (Nat.le_of_ble_eq_true rfl) ?_
        have w_315 : r_316 = nI (6 + 43 * y_3) := w_315
        refine k_topi (y := nI (6 + 43 * y_3)) w_315 ?_
        refine lv_istore_n (lv' := [(3, .int (nI (6 + 43 * y_3))), (2, .int (nI y_3)), (0, .ref h0), (1, .int p1)]) hx hb dX12_tick_18 rfl hl (by decide) rfl (fun ls hl => ?_)
        refine lv_aload_n hx hb dX12_tick_19 rfl (lv_at hl 2 rfl) ?_
        refine k_get (ci := 12) (v := .ref (gr g h0 4)) (C := RX12) (T := TX12) (N := 27) hx hb hts (fun _ h0_ => List.mem_cons_of_mem _ (List.mem_append_right _ (List.mem_append_left _ h0_))) hown hK hI i_h0.1 k_8 rfl 4 (by decide) (hts (.fieldLink RX12 16 "DeadlineShareModel" "row" "[J") (List.mem_cons_of_mem _ (List.mem_append_left _ (List.mem_of_getElem? (i := 0) rfl)))) (fun _ h9 => h9) rfl dX12_tick_20 ?_
        refine lv_iload_n hx hb dX12_tick_23 rfl (lv_at hl 0 rfl) ?_
        refine lv_bipush (v := 40) hx hb dX12_tick_24 (by decide) ?_
        refine lv_iadd hx hb dX12_tick_26 ?_
        refine k_topi (y := nI (6 + 43 * y_3 + 40)) ((nI_add (6 + 43 * y_3) 40).trans (congrArg nI (by omega))) ?_
        refine lv_aload_n hx hb dX12_tick_27 rfl (lv_at hl 2 rfl) ?_
        refine k_get (ci := 12) (v := .ref (gr g h0 4)) (C := RX12) (T := TX12) (N := 27) hx hb hts (fun _ h0_ => List.mem_cons_of_mem _ (List.mem_append_right _ (List.mem_append_left _ h0_))) hown hK hI i_h0.1 k_8 rfl 4 (by decide) (hts (.fieldLink RX12 16 "DeadlineShareModel" "row" "[J") (List.mem_cons_of_mem _ (List.mem_append_left _ (List.mem_of_getElem? (i := 0) rfl)))) (fun _ h9 => h9) rfl dX12_tick_28 ?_
        refine lv_iload_n hx hb dX12_tick_31 rfl (lv_at hl 0 rfl) ?_
        refine lv_bipush (v := 41) hx hb dX12_tick_32 (by decide) ?_
        refine lv_iadd hx hb dX12_tick_34 ?_
        refine k_topi (y := nI (6 + 43 * y_3 + 41)) ((nI_add (6 + 43 * y_3) 41).trans (congrArg nI (by omega))) ?_
        refine k_lald hx hb hK hI i_1.1 1 k_6 rfl (vp_in_nI (by omega) (by omega)) dX12_tick_35 ?_
        refine k_topl (y := q_5 (6 + 43 * y_3 + 41)) (congrArg q_5 (nI_clamp (by omega))) ?_
        have d_321 := rk_41 ok_7 (t := y_3) (by omega)
        refine lv_lconst (v := 0) hx hb dX12_tick_36 (by decide) ?_
        refine W.lcmp hx hb dX12_tick_37 ?_
        have J_83 : ∀ (y_322 : Int64) (H : Heap) (locs : List Loc) (ls : Array Slot), Iv dC dI g A f_4 H → va_S A s.heap H locs → lv_has ls 4 [(3, .int (nI (6 + 43 * y_3))), (2, .int (nI y_3)), (0, .ref h0), (1, .int p1)] → W p l e (headSpec wq_c_X12_tick ({ frames := 7, cells := 0, slots := 0, locals := 164 } : Room)).room s m ([.ref h0, .int p1].toArray) below meth c H locs 0 0 (MQ below (va_Qi (fun (r : Int32) (_ : Unit) => -1 ≤ r.toInt ∧ r.toInt < (q 0).toInt) (fun (_ : Unit) t => ∃ f1 : Nat → va_E, Iv dC dI g A f1 t.heap ∧ Kp g [12, 32] f f1 ∧ ∃ (w24 : Int64) (q1 : Nat → Int64), (f1 h0 = .inr (12, [.int z0, .int z1, .ref (gr g h0 2), .ref (gr g h0 3), .ref (gr g h0 4), .ref (gr g h0 5), .ref (gr g h0 6), .ref (gr g h0 7), .ref (gr g h0 8), .ref (gr g h0 9), .int z10, .ref (gr g h0 11), .int z12, .int z13, .int z14, .int z15, .long z16, .int z17, .int z18, .ref (gr g h0 19), .ref (gr g h0 20), .ref (gr g h0 21), .ref (gr g h0 22), .int z23, .long w24, .long z25, .long z26])) ∧ (f1 (gr g h0 4) = .inl (gc g 1, 906, .inr (.inl q1))) ∧ (RowOK q1) ∧ ((q1 0).toInt = (q 0).toInt) ∧ ((q1 1).toInt = (q 1).toInt + 1)) A) ([.ref h0, .int p1].toArray) s 0 0 A) (F0 m 83 ls [.long y_322, .int (nI (6 + 43 * y_3 + 40)), .ref (gr g h0 4)]) := by
          intro y_322 H locs ls hI hS  hl
          refine k_last hx hb hK hI hS i_1.1 1 k_6 rfl (vp_in_nI (by omega) (by omega)) (cl_32 i_1) dX12_tick_83 (fun f_323 H locs e_324 hI hS => ?_)
          generalize eq_325 : vp_updL q_5 (Int32.toNatClampNeg (nI (6 + 43 * y_3 + 40))) y_322 = q_325 at e_324
          have k_327 : f_323 (gr g h0 4) = .inl (gc g 1, 906, .inr (.inl q_325)) := by rw [e_324]; exact va_up_self _ _ _
          have k_328 : f_323 h0 = .inr (12, [.int z0, .int z1, .ref (gr g h0 2), .ref (gr g h0 3), .ref (gr g h0 4), .ref (gr g h0 5), .ref (gr g h0 6), .ref (gr g h0 7), .ref (gr g h0 8), .ref (gr g h0 9), .int z10, .ref (gr g h0 11), .int z12, .int z13, .int z14, .int z15, .long z16, .int z17, .int z18, .ref (gr g h0 19), .ref (gr g h0 20), .ref (gr g h0 21), .ref (gr g h0 22), .int z23, .long z24, .long z25, .long z26]) := by rw [e_324, va_up_ne _ _ (ik_ne i_h0 i_1 (by decide))]; exact k_8
          have kp_326 := Kp.put kp_9 i_1 (by decide) e_324
          have u_329 : vp_updL q_5 (6 + 43 * y_3 + 40) y_322 = q_325 := by rw [← eq_325, show Int32.toNatClampNeg (nI (6 + 43 * y_3 + 40)) = 6 + 43 * y_3 + 40 from (nI_clamp (by omega))]
          have ok_330 : RowOK q_325 := by rw [← u_329]; exact rk_upd ok_7 (by refine ⟨⟨by omega, by omega, by omega, by omega, by omega⟩, fun t9 ht9 => ⟨by omega, by omega, by omega, by omega, by omega, by omega⟩, fun t9 k9 ht9 hk9 => ⟨by omega, by omega, by omega⟩, by omega⟩)
          have d_331 := rk_hd ok_330
          have n_332 : (q_325 0).toInt = (q_5 0).toInt := by rw [← u_329, pk_uLn (by omega)]
          have n_333 : (q_325 1).toInt = (q_5 1).toInt := by rw [← u_329, pk_uLn (by omega)]
          have n_334 : (q_325 3).toInt = (q_5 3).toInt := by rw [← u_329, pk_uLn (by omega)]
          have n_335 : (q_325 4).toInt = (q_5 4).toInt := by rw [← u_329, pk_uLn (by omega)]
          have n_336 : (q_325 5).toInt = (q_5 5).toInt := by rw [← u_329, pk_uLn (by omega)]
          refine lv_iinc (v := nI (y_3 + 1)) (lv' := [(2, .int (nI (y_3 + 1))), (3, .int (nI (6 + 43 * y_3))), (0, .ref h0), (1, .int p1)]) hx hb dX12_tick_84 hl (k := 1) rfl (nI_1 _) (by decide) rfl (fun ls hl => ?_)
          refine lv_goto (tgt := 2) hx hb dX12_tick_87 (by decide) ?_
          exact ih (y_3 + 1) q_325 f_323 _ _ _ (by omega) hI hS k_327 ok_330 k_328 kp_326 (by first | omega | decide | exact Or.inl (by decide)) (by first | omega | decide | exact Or.inl (by decide)) (by first | omega | decide | exact Or.inl (by decide)) (lv_sub hl [0, 2, 3] rfl)
        have J_74 : ∀ (H : Heap) (locs : List Loc) (ls : Array Slot), Iv dC dI g A f_4 H → va_S A s.heap H locs → lv_has ls 4 [(3, .int (nI (6 + 43 * y_3))), (2, .int (nI y_3)), (0, .ref h0), (1, .int p1)] → W p l e (headSpec wq_c_X12_tick ({ frames := 7, cells := 0, slots := 0, locals := 164 } : Room)).room s m ([.ref h0, .int p1].toArray) below meth c H locs 0 0 (MQ below (va_Qi (fun (r : Int32) (_ : Unit) => -1 ≤ r.toInt ∧ r.toInt < (q 0).toInt) (fun (_ : Unit) t => ∃ f1 : Nat → va_E, Iv dC dI g A f1 t.heap ∧ Kp g [12, 32] f f1 ∧ ∃ (w24 : Int64) (q1 : Nat → Int64), (f1 h0 = .inr (12, [.int z0, .int z1, .ref (gr g h0 2), .ref (gr g h0 3), .ref (gr g h0 4), .ref (gr g h0 5), .ref (gr g h0 6), .ref (gr g h0 7), .ref (gr g h0 8), .ref (gr g h0 9), .int z10, .ref (gr g h0 11), .int z12, .int z13, .int z14, .int z15, .long z16, .int z17, .int z18, .ref (gr g h0 19), .ref (gr g h0 20), .ref (gr g h0 21), .ref (gr g h0 22), .int z23, .long w24, .long z25, .long z26])) ∧ (f1 (gr g h0 4) = .inl (gc g 1, 906, .inr (.inl q1))) ∧ (RowOK q1) ∧ ((q1 0).toInt = (q 0).toInt) ∧ ((q1 1).toInt = (q 1).toInt + 1)) A) ([.ref h0, .int p1].toArray) s 0 0 A) (F0 m 74 ls [.int (nI (6 + 43 * y_3 + 40)), .ref (gr g h0 4)]) := by
          intro H locs ls hI hS  hl
          refine lv_aload_n hx hb dX12_tick_74 rfl (lv_at hl 2 rfl) ?_
          refine k_get (ci := 12) (v := .ref (gr g h0 4)) (C := RX12) (T := TX12) (N := 27) hx hb hts (fun _ h0_ => List.mem_cons_of_mem _ (List.mem_append_right _ (List.mem_append_left _ h0_))) hown hK hI i_h0.1 k_8 rfl 4 (by decide) (hts (.fieldLink RX12 16 "DeadlineShareModel" "row" "[J") (List.mem_cons_of_mem _ (List.mem_append_left _ (List.mem_of_getElem? (i := 0) rfl)))) (fun _ h9 => h9) rfl dX12_tick_75 ?_
          refine lv_iload_n hx hb dX12_tick_78 rfl (lv_at hl 0 rfl) ?_
          refine lv_bipush (v := 40) hx hb dX12_tick_79 (by decide) ?_
          refine lv_iadd hx hb dX12_tick_81 ?_
          refine k_topi (y := nI (6 + 43 * y_3 + 40)) ((nI_add (6 + 43 * y_3) 40).trans (congrArg nI (by omega))) ?_
          refine k_lald hx hb hK hI i_1.1 1 k_6 rfl (vp_in_nI (by omega) (by omega)) dX12_tick_82 ?_
          refine k_topl (y := q_5 (6 + 43 * y_3 + 40)) (congrArg q_5 (nI_clamp (by omega))) ?_
          exact J_83 (q_5 (6 + 43 * y_3 + 40)) _ _ _ hI hS  (lv_sub hl [0, 1, 2, 3] rfl)
        refine lv_if_le (tgt := 74) hx hb dX12_tick_38 (by decide) (fun c_339 => ?_) (fun c_339 => ?_)
        · have c_339 := lc_le rfl (by decide : Int64.toInt 0 = 0) ((lg_cmp_le _ _).mp c_339)
          exact J_74  _ _ _ hI hS  (lv_sub hl [0, 1, 2, 3] rfl)
        · have c_339 := ln_le rfl (by decide : Int64.toInt 0 = 0) (fun h9 => c_339 ((lg_cmp_le _ _).mpr h9))
          refine lv_aload_n hx hb dX12_tick_41 rfl (lv_at hl 2 rfl) ?_
          refine k_get (ci := 12) (v := .ref (gr g h0 4)) (C := RX12) (T := TX12) (N := 27) hx hb hts (fun _ h0_ => List.mem_cons_of_mem _ (List.mem_append_right _ (List.mem_append_left _ h0_))) hown hK hI i_h0.1 k_8 rfl 4 (by decide) (hts (.fieldLink RX12 16 "DeadlineShareModel" "row" "[J") (List.mem_cons_of_mem _ (List.mem_append_left _ (List.mem_of_getElem? (i := 0) rfl)))) (fun _ h9 => h9) rfl dX12_tick_42 ?_
          refine lv_iconst (v := 1) hx hb dX12_tick_45 (by decide) ?_
          refine k_lald hx hb hK hI i_1.1 1 k_6 rfl (by unfold vp_in; decide) dX12_tick_46 ?_
          refine k_topl (y := q_5 1) (congrArg q_5 (show Int32.toNatClampNeg 1 = 1 by decide)) ?_
          refine lv_aload_n hx hb dX12_tick_47 rfl (lv_at hl 2 rfl) ?_
          refine k_get (ci := 12) (v := .ref (gr g h0 4)) (C := RX12) (T := TX12) (N := 27) hx hb hts (fun _ h0_ => List.mem_cons_of_mem _ (List.mem_append_right _ (List.mem_append_left _ h0_))) hown hK hI i_h0.1 k_8 rfl 4 (by decide) (hts (.fieldLink RX12 16 "DeadlineShareModel" "row" "[J") (List.mem_cons_of_mem _ (List.mem_append_left _ (List.mem_of_getElem? (i := 0) rfl)))) (fun _ h9 => h9) rfl dX12_tick_48 ?_
          refine lv_iload_n hx hb dX12_tick_51 rfl (lv_at hl 0 rfl) ?_
          refine lv_bipush (v := 42) hx hb dX12_tick_52 (by decide) ?_
          refine lv_iadd hx hb dX12_tick_54 ?_
          refine k_topi (y := nI (6 + 43 * y_3 + 42)) ((nI_add (6 + 43 * y_3) 42).trans (congrArg nI (by omega))) ?_
          refine k_lald hx hb hK hI i_1.1 1 k_6 rfl (vp_in_nI (by omega) (by omega)) dX12_tick_55 ?_
          refine k_topl (y := q_5 (6 + 43 * y_3 + 42)) (congrArg q_5 (nI_clamp (by omega))) ?_
          have d_344 := rk_41 ok_7 (t := y_3) (by omega)
          refine lv_lrem hx hb dX12_tick_56 (k_ne0L (by omega)) ?_
          refine lv_topl (fun v_345 ev_345 => ?_)
          refine lv_lconst (v := 0) hx hb dX12_tick_57 (by decide) ?_
          refine W.lcmp hx hb dX12_tick_58 ?_
          refine lv_if_ne (tgt := 74) hx hb dX12_tick_59 (by decide) (fun c_346 => ?_) (fun c_346 => ?_)
          · have c_346 := ln_eq rfl (by decide : Int64.toInt 0 = 0) (fun h9 => c_346 ((lg_cmp_eq _ _).mpr h9))
            exact J_74  _ _ _ hI hS  (lv_sub hl [0, 1, 2, 3] rfl)
          · have c_346 := lc_eq rfl (by decide : Int64.toInt 0 = 0) ((lg_cmp_eq _ _).mp c_346)
            refine lv_aload_n hx hb dX12_tick_62 rfl (lv_at hl 2 rfl) ?_
            refine k_get (ci := 12) (v := .ref (gr g h0 4)) (C := RX12) (T := TX12) (N := 27) hx hb hts (fun _ h0_ => List.mem_cons_of_mem _ (List.mem_append_right _ (List.mem_append_left _ h0_))) hown hK hI i_h0.1 k_8 rfl 4 (by decide) (hts (.fieldLink RX12 16 "DeadlineShareModel" "row" "[J") (List.mem_cons_of_mem _ (List.mem_append_left _ (List.mem_of_getElem? (i := 0) rfl)))) (fun _ h9 => h9) rfl dX12_tick_63 ?_
            refine lv_iload_n hx hb dX12_tick_66 rfl (lv_at hl 0 rfl) ?_
            refine lv_bipush (v := 41) hx hb dX12_tick_67 (by decide) ?_
            refine lv_iadd hx hb dX12_tick_69 ?_
            refine k_topi (y := nI (6 + 43 * y_3 + 41)) ((nI_add (6 + 43 * y_3) 41).trans (congrArg nI (by omega))) ?_
            refine k_lald hx hb hK hI i_1.1 1 k_6 rfl (vp_in_nI (by omega) (by omega)) dX12_tick_70 ?_
            refine k_topl (y := q_5 (6 + 43 * y_3 + 41)) (congrArg q_5 (nI_clamp (by omega))) ?_
            have d_349 := rk_41 ok_7 (t := y_3) (by omega)
            refine lv_goto (tgt := 83) hx hb dX12_tick_71 (by decide) ?_
            exact J_83 (q_5 (6 + 43 * y_3 + 41)) _ _ _ hI hS  (lv_sub hl [0, 1, 2, 3] rfl)
  exact K_2 _ 0 q f _ _ _ (Nat.lt_succ_self _) hI hS hc1 hc1_ok hc0 hk0 (by first | omega | decide | exact Or.inl (by decide)) (by first | omega | decide | exact Or.inl (by decide)) (by first | omega | decide | exact Or.inl (by decide)) (lv_sub hl [0, 1, 2] rfl)
theorem tw_865 : q_g (.constantLong RX12 195 (96)) := ⟨(List.mem_append_right _ (List.mem_of_getElem? (i := 1353) (by decide +kernel))), good_of_word (by decide +kernel)⟩
theorem tw_866 : q_g (.constantLong RX12 193 (32)) := ⟨(List.mem_append_right _ (List.mem_of_getElem? (i := 1352) (by decide +kernel))), good_of_word (by decide +kernel)⟩
theorem tw_867 : q_g (.static yX12_isSmall) := ⟨(List.mem_append_right _ (List.mem_of_getElem? (i := 1347) (by decide +kernel))), good_of_word (by decide +kernel)⟩
theorem tw_868 : q_g (.methodLink RX12 184 yX12_isSmall) := ⟨(List.mem_append_right _ (List.mem_of_getElem? (i := 1346) (by decide +kernel))), good_of_word (by decide +kernel)⟩
theorem tw_869 : q_g (.constantLong RX12 199 (48)) := ⟨(List.mem_append_right _ (List.mem_of_getElem? (i := 1355) (by decide +kernel))), good_of_word (by decide +kernel)⟩
theorem tw_870 : q_g (.constantLong RX12 197 (10)) := ⟨(List.mem_append_right _ (List.mem_of_getElem? (i := 1354) (by decide +kernel))), good_of_word (by decide +kernel)⟩
theorem tw_871 : q_g (.constantLong RX12 126 (1000000)) := ⟨(List.mem_append_right _ (List.mem_of_getElem? (i := 1200) (by decide +kernel))), good_of_word (by decide +kernel)⟩
theorem tw_872 : q_g (.static yX12_isDigit) := ⟨(List.mem_append_right _ (List.mem_of_getElem? (i := 1350) (by decide +kernel))), good_of_word (by decide +kernel)⟩
theorem tw_873 : q_g (.methodLink RX12 187 yX12_isDigit) := ⟨(List.mem_append_right _ (List.mem_of_getElem? (i := 1349) (by decide +kernel))), good_of_word (by decide +kernel)⟩
theorem tw_874 : q_g (.fieldLink RX12 190 "DeadlineShareModel" "sort" "I") := ⟨(List.mem_append_right _ (List.mem_of_getElem? (i := 1112) (by decide +kernel))), good_of_word (by decide +kernel)⟩
theorem tw_875 : q_g (.fieldLink RX12 180 "DeadlineShareModel" "worth" "J") := ⟨(List.mem_append_right _ (List.mem_of_getElem? (i := 1113) (by decide +kernel))), good_of_word (by decide +kernel)⟩
theorem tw_876 : q_g (.fieldLink RX12 177 "DeadlineShareModel" "from" "I") := ⟨(List.mem_append_right _ (List.mem_of_getElem? (i := 1110) (by decide +kernel))), good_of_word (by decide +kernel)⟩
theorem tw_877 : q_g (.fieldLink RX12 174 "DeadlineShareModel" "to" "I") := ⟨(List.mem_append_right _ (List.mem_of_getElem? (i := 1111) (by decide +kernel))), good_of_word (by decide +kernel)⟩
theorem tw_878 : q_g (.code yX12_next cX12_next 1 none) := ⟨(List.mem_append_right _ (List.mem_of_getElem? (i := 1345) (by decide +kernel))), good_of_word (by decide +kernel)⟩
def ow_c_X12_next : List Cond := [.fieldLink RX12 174 "DeadlineShareModel" "to" "I", .fieldLink RX12 177 "DeadlineShareModel" "from" "I", .fieldLink RX12 128 "DeadlineShareModel" "taped" "I", .fieldLink RX12 180 "DeadlineShareModel" "worth" "J", .fieldLink RX12 190 "DeadlineShareModel" "sort" "I", .fieldLink RX12 36 "DeadlineShareModel" "tape" "[I", .methodLink RX12 187 yX12_isDigit, .static yX12_isDigit, .initialized RX12, .constantLong RX12 126 (1000000), .constantLong RX12 197 (10), .constantLong RX12 199 (48), .methodLink RX12 184 yX12_isSmall, .static yX12_isSmall, .constantLong RX12 65 (-1), .constantLong RX12 193 (32), .constantLong RX12 195 (96)]
def wq_c_X12_next : List Cond := .code yX12_next cX12_next 1 none :: (ow_c_X12_next ++ (u_ws RX12 TX12 27 ++ (wq_c_X12_isDigit ++ (wq_c_X12_isSmall ++ ([] : List Cond)))))
theorem tb_c_X12_next : ∀ w ∈ wq_c_X12_next, q_g w := by
  unfold wq_c_X12_next ow_c_X12_next
  exact q_cons tw_878 (q_app (q_cons tw_877 (q_cons tw_876 (q_cons tw_809 (q_cons tw_875 (q_cons tw_874 (q_cons tw_810 (q_cons tw_873 (q_cons tw_872 (q_cons tw_728 (q_cons tw_871 (q_cons tw_870 (q_cons tw_869 (q_cons tw_868 (q_cons tw_867 (q_cons tw_773 (q_cons tw_866 (q_cons tw_865 q_nil))))))))))))))))) (q_app tu_X12 (q_app tb_c_X12_isDigit (q_app tb_c_X12_isSmall q_nil))))
set_option maxHeartbeats 4000000 in
set_option maxRecDepth 100000 in
theorem c_X12_next (l : Launch) (dC : Nat → ClassId) (dI : Nat → Nat → Nat) (g : kG) (A : Nat → Prop) (hG : kWf g) (f : Nat → va_E) (h0 : Nat) (z0 : Int32) (z1 : Int32) (z10 : Int32) (z12 : Int32) (z13 : Int32) (z14 : Int32) (z15 : Int32) (z16 : Int64) (z17 : Int32) (z18 : Int32) (z23 : Int32) (z24 : Int64) (z25 : Int64) (z26 : Int64) (i_h0 : ik g 12 h0) (hc0 : f h0 = .inr (12, [.int z0, .int z1, .ref (gr g h0 2), .ref (gr g h0 3), .ref (gr g h0 4), .ref (gr g h0 5), .ref (gr g h0 6), .ref (gr g h0 7), .ref (gr g h0 8), .ref (gr g h0 9), .int z10, .ref (gr g h0 11), .int z12, .int z13, .int z14, .int z15, .long z16, .int z17, .int z18, .ref (gr g h0 19), .ref (gr g h0 20), .ref (gr g h0 21), .ref (gr g h0 22), .int z23, .long z24, .long z25, .long z26])) (hc0_10 : 0 ≤ z10.toInt ∧ z10.toInt ≤ 10) (hc0_12 : 0 ≤ z12.toInt ∧ z12.toInt ≤ 200) (hc0_23 : 0 ≤ z23.toInt ∧ z23.toInt ≤ 8) (ht9 : 0 ≤ z14.toInt ∧ z14.toInt ≤ z12.toInt) : Met l yX12_next wq_c_X12_next ({ frames := 1, cells := 0, slots := 0, locals := 20 } : Room) (va_Pc [.ref h0] (fun U => kIn dC dI g A f U)) (va_Qv (fun (_ : Unit) => True) (fun (_ : Unit) t => ∃ f1 : Nat → va_E, Iv dC dI g A f1 t.heap ∧ Kp g [12] f f1 ∧ ∃ (w13 : Int32) (w14 : Int32) (w15 : Int32) (w16 : Int64), (f1 h0 = .inr (12, [.int z0, .int z1, .ref (gr g h0 2), .ref (gr g h0 3), .ref (gr g h0 4), .ref (gr g h0 5), .ref (gr g h0 6), .ref (gr g h0 7), .ref (gr g h0 8), .ref (gr g h0 9), .int z10, .ref (gr g h0 11), .int z12, .int w13, .int w14, .int w15, .long w16, .int z17, .int z18, .ref (gr g h0 19), .ref (gr g h0 20), .ref (gr g h0 21), .ref (gr g h0 22), .int z23, .long z24, .long z25, .long z26])) ∧ (0 ≤ w14.toInt ∧ w14.toInt ≤ z12.toInt)) A) 0 0 A := by
  refine Met.ofW (cc := cX12_next) (maxL := 1) (ret := none) (by decide) rfl ?_
  intro p e s m args below meth c s₁ B hml hv
  obtain ⟨rfl, hI, hK, hE⟩ := hv
  have hx := B.exec
  have hb := B.bytes
  have hr := B.returns
  have hts := atoms_spec (ws := wq_c_X12_next) B.pre
  have hown : s.vm.findClass RX12 = some m.cls := findClass_of_methodNamed B.named
  have hlocks := B.notSynchronized
  have hS : va_S A s.heap s.heap [] := va_S.rf
  have hk0 : Kp g [12] f f := Kp.rf
  have hl := lv_entry ([.ref h0]) (n := 1) (Nat.le_of_ble_eq_true rfl)
  rw [lg_entry_eq]
  generalize (lg_sl ([.ref h0]) ++ List.replicate (1 - (lg_sl ([.ref h0])).length) Slot.unset).toArray = ls at hl ⊢
  have hl : lv_has ls 1 [(0, .ref h0)] := hl
  refine lv_aload_n hx hb dX12_next_0 rfl (lv_at hl 0 rfl) ?_
  refine lv_aload_n hx hb dX12_next_1 rfl (lv_at hl 0 rfl) ?_
  refine k_get (ci := 12) (v := .int z14) (C := RX12) (T := TX12) (N := 27) hx hb hts (fun _ h0_ => List.mem_cons_of_mem _ (List.mem_append_right _ (List.mem_append_left _ h0_))) hown hK hI i_h0.1 hc0 rfl 14 (by decide) (hts (.fieldLink RX12 174 "DeadlineShareModel" "to" "I") (List.mem_cons_of_mem _ (List.mem_append_left _ (List.mem_of_getElem? (i := 0) rfl)))) (fun _ h9 => h9) rfl dX12_next_2 ?_
  refine k_put (ci := 12) (v := .int z14) (ty := .int) (C := RX12) (T := TX12) (N := 27) hx hb hts (fun _ h0_ => List.mem_cons_of_mem _ (List.mem_append_right _ (List.mem_append_left _ h0_))) tyX12 tyX12_ok nmX12 hown hK hI hS i_h0.1 hc0 rfl 13 (by decide) (hts (.fieldLink RX12 177 "DeadlineShareModel" "from" "I") (List.mem_cons_of_mem _ (List.mem_append_left _ (List.mem_of_getElem? (i := 1) rfl)))) (fun _ h9 => h9) rfl (by decide +kernel) rfl rfl (Nat.le_of_ble_eq_true rfl) rfl (cl_12 i_h0 (by omega) (by omega) (by omega)) dX12_next_5 (fun f_1 H locs e_2 hI hS => ?_)
  have k_4 : f_1 h0 = .inr (12, [.int z0, .int z1, .ref (gr g h0 2), .ref (gr g h0 3), .ref (gr g h0 4), .ref (gr g h0 5), .ref (gr g h0 6), .ref (gr g h0 7), .ref (gr g h0 8), .ref (gr g h0 9), .int z10, .ref (gr g h0 11), .int z12, .int z14, .int z14, .int z15, .long z16, .int z17, .int z18, .ref (gr g h0 19), .ref (gr g h0 20), .ref (gr g h0 21), .ref (gr g h0 22), .int z23, .long z24, .long z25, .long z26]) := by rw [e_2]; exact va_up_self _ _ _
  have kp_3 := Kp.put hk0 i_h0 (by decide) e_2
  have K_8 : ∀ (nn : Nat) (y_6 : Int32) (f_5 : Nat → va_E) (H : Heap) (locs : List Loc) (ls : Array Slot), (z12.toInt - y_6.toInt).toNat < nn → Iv dC dI g A f_5 H → va_S A s.heap H locs → f_5 h0 = .inr (12, [.int z0, .int z1, .ref (gr g h0 2), .ref (gr g h0 3), .ref (gr g h0 4), .ref (gr g h0 5), .ref (gr g h0 6), .ref (gr g h0 7), .ref (gr g h0 8), .ref (gr g h0 9), .int z10, .ref (gr g h0 11), .int z12, .int y_6, .int z14, .int z15, .long z16, .int z17, .int z18, .ref (gr g h0 19), .ref (gr g h0 20), .ref (gr g h0 21), .ref (gr g h0 22), .int z23, .long z24, .long z25, .long z26]) → Kp g [12] f f_5 → (0 ≤ y_6.toInt ∧ y_6.toInt ≤ z12.toInt) → lv_has ls 1 [(0, .ref h0)] → W p l e (headSpec wq_c_X12_next ({ frames := 1, cells := 0, slots := 0, locals := 20 } : Room)).room s m ([.ref h0].toArray) below meth c H locs 0 0 (MQ below (va_Qv (fun (_ : Unit) => True) (fun (_ : Unit) t => ∃ f1 : Nat → va_E, Iv dC dI g A f1 t.heap ∧ Kp g [12] f f1 ∧ ∃ (w13 : Int32) (w14 : Int32) (w15 : Int32) (w16 : Int64), (f1 h0 = .inr (12, [.int z0, .int z1, .ref (gr g h0 2), .ref (gr g h0 3), .ref (gr g h0 4), .ref (gr g h0 5), .ref (gr g h0 6), .ref (gr g h0 7), .ref (gr g h0 8), .ref (gr g h0 9), .int z10, .ref (gr g h0 11), .int z12, .int w13, .int w14, .int w15, .long w16, .int z17, .int z18, .ref (gr g h0 19), .ref (gr g h0 20), .ref (gr g h0 21), .ref (gr g h0 22), .int z23, .long z24, .long z25, .long z26])) ∧ (0 ≤ w14.toInt ∧ w14.toInt ≤ z12.toInt)) A) ([.ref h0].toArray) s 0 0 A) (F0 m 8 ls []) := by
    intro nn
    induction nn with
    | zero => intro y_6 f_5 H locs ls m_10; exact absurd m_10 (Nat.not_lt_zero _)
    | succ nn ih =>
      intro y_6 f_5 H locs ls m_10 hI hS k_7 kp_8 t_9 hl
      have g_11 := Int32.toInt_lt y_6
      have g_12 := Int32.le_toInt y_6
      have g_13 := Int32.toInt_lt z12
      have g_14 := Int32.le_toInt z12
      refine lv_aload_n hx hb dX12_next_8 rfl (lv_at hl 0 rfl) ?_
      refine k_get (ci := 12) (v := .int y_6) (C := RX12) (T := TX12) (N := 27) hx hb hts (fun _ h0_ => List.mem_cons_of_mem _ (List.mem_append_right _ (List.mem_append_left _ h0_))) hown hK hI i_h0.1 k_7 rfl 13 (by decide) (hts (.fieldLink RX12 177 "DeadlineShareModel" "from" "I") (List.mem_cons_of_mem _ (List.mem_append_left _ (List.mem_of_getElem? (i := 1) rfl)))) (fun _ h9 => h9) rfl dX12_next_9 ?_
      refine lv_aload_n hx hb dX12_next_12 rfl (lv_at hl 0 rfl) ?_
      refine k_get (ci := 12) (v := .int z12) (C := RX12) (T := TX12) (N := 27) hx hb hts (fun _ h0_ => List.mem_cons_of_mem _ (List.mem_append_right _ (List.mem_append_left _ h0_))) hown hK hI i_h0.1 k_7 rfl 12 (by decide) (hts (.fieldLink RX12 128 "DeadlineShareModel" "taped" "I") (List.mem_cons_of_mem _ (List.mem_append_left _ (List.mem_of_getElem? (i := 2) rfl)))) (fun _ h9 => h9) rfl dX12_next_13 ?_
      have J_46 : ∀ (H : Heap) (locs : List Loc) (ls : Array Slot), Iv dC dI g A f_5 H → va_S A s.heap H locs → lv_has ls 1 [(0, .ref h0)] → W p l e (headSpec wq_c_X12_next ({ frames := 1, cells := 0, slots := 0, locals := 20 } : Room)).room s m ([.ref h0].toArray) below meth c H locs 0 0 (MQ below (va_Qv (fun (_ : Unit) => True) (fun (_ : Unit) t => ∃ f1 : Nat → va_E, Iv dC dI g A f1 t.heap ∧ Kp g [12] f f1 ∧ ∃ (w13 : Int32) (w14 : Int32) (w15 : Int32) (w16 : Int64), (f1 h0 = .inr (12, [.int z0, .int z1, .ref (gr g h0 2), .ref (gr g h0 3), .ref (gr g h0 4), .ref (gr g h0 5), .ref (gr g h0 6), .ref (gr g h0 7), .ref (gr g h0 8), .ref (gr g h0 9), .int z10, .ref (gr g h0 11), .int z12, .int w13, .int w14, .int w15, .long w16, .int z17, .int z18, .ref (gr g h0 19), .ref (gr g h0 20), .ref (gr g h0 21), .ref (gr g h0 22), .int z23, .long z24, .long z25, .long z26])) ∧ (0 ≤ w14.toInt ∧ w14.toInt ≤ z12.toInt)) A) ([.ref h0].toArray) s 0 0 A) (F0 m 46 ls []) := by
        intro H locs ls hI hS  hl
        refine lv_aload_n hx hb dX12_next_46 rfl (lv_at hl 0 rfl) ?_
        refine lv_aload_n hx hb dX12_next_47 rfl (lv_at hl 0 rfl) ?_
        refine k_get (ci := 12) (v := .int y_6) (C := RX12) (T := TX12) (N := 27) hx hb hts (fun _ h0_ => List.mem_cons_of_mem _ (List.mem_append_right _ (List.mem_append_left _ h0_))) hown hK hI i_h0.1 k_7 rfl 13 (by decide) (hts (.fieldLink RX12 177 "DeadlineShareModel" "from" "I") (List.mem_cons_of_mem _ (List.mem_append_left _ (List.mem_of_getElem? (i := 1) rfl)))) (fun _ h9 => h9) rfl dX12_next_48 ?_
        refine k_put (ci := 12) (v := .int y_6) (ty := .int) (C := RX12) (T := TX12) (N := 27) hx hb hts (fun _ h0_ => List.mem_cons_of_mem _ (List.mem_append_right _ (List.mem_append_left _ h0_))) tyX12 tyX12_ok nmX12 hown hK hI hS i_h0.1 k_7 rfl 14 (by decide) (hts (.fieldLink RX12 174 "DeadlineShareModel" "to" "I") (List.mem_cons_of_mem _ (List.mem_append_left _ (List.mem_of_getElem? (i := 0) rfl)))) (fun _ h9 => h9) rfl (by decide +kernel) rfl rfl (Nat.le_of_ble_eq_true rfl) rfl (cl_12 i_h0 (by omega) (by omega) (by omega)) dX12_next_51 (fun f_15 H locs e_16 hI hS => ?_)
        have k_18 : f_15 h0 = .inr (12, [.int z0, .int z1, .ref (gr g h0 2), .ref (gr g h0 3), .ref (gr g h0 4), .ref (gr g h0 5), .ref (gr g h0 6), .ref (gr g h0 7), .ref (gr g h0 8), .ref (gr g h0 9), .int z10, .ref (gr g h0 11), .int z12, .int y_6, .int y_6, .int z15, .long z16, .int z17, .int z18, .ref (gr g h0 19), .ref (gr g h0 20), .ref (gr g h0 21), .ref (gr g h0 22), .int z23, .long z24, .long z25, .long z26]) := by rw [e_16]; exact va_up_self _ _ _
        have kp_17 := Kp.put kp_8 i_h0 (by decide) e_16
        refine lv_aload_n hx hb dX12_next_54 rfl (lv_at hl 0 rfl) ?_
        refine lv_lconst (v := 0) hx hb dX12_next_55 (by decide) ?_
        refine k_put (ci := 12) (v := .long 0) (ty := .long) (C := RX12) (T := TX12) (N := 27) hx hb hts (fun _ h0_ => List.mem_cons_of_mem _ (List.mem_append_right _ (List.mem_append_left _ h0_))) tyX12 tyX12_ok nmX12 hown hK hI hS i_h0.1 k_18 rfl 16 (by decide) (hts (.fieldLink RX12 180 "DeadlineShareModel" "worth" "J") (List.mem_cons_of_mem _ (List.mem_append_left _ (List.mem_of_getElem? (i := 3) rfl)))) (fun _ h9 => h9) rfl (by decide +kernel) rfl rfl (Nat.le_of_ble_eq_true rfl) rfl (cl_12 i_h0 (by omega) (by omega) (by omega)) dX12_next_56 (fun f_19 H locs e_20 hI hS => ?_)
        have k_22 : f_19 h0 = .inr (12, [.int z0, .int z1, .ref (gr g h0 2), .ref (gr g h0 3), .ref (gr g h0 4), .ref (gr g h0 5), .ref (gr g h0 6), .ref (gr g h0 7), .ref (gr g h0 8), .ref (gr g h0 9), .int z10, .ref (gr g h0 11), .int z12, .int y_6, .int y_6, .int z15, .long 0, .int z17, .int z18, .ref (gr g h0 19), .ref (gr g h0 20), .ref (gr g h0 21), .ref (gr g h0 22), .int z23, .long z24, .long z25, .long z26]) := by rw [e_20]; exact va_up_self _ _ _
        have kp_21 := Kp.put kp_17 i_h0 (by decide) e_20
        refine lv_aload_n hx hb dX12_next_59 rfl (lv_at hl 0 rfl) ?_
        refine lv_aload_n hx hb dX12_next_60 rfl (lv_at hl 0 rfl) ?_
        refine k_get (ci := 12) (v := .int y_6) (C := RX12) (T := TX12) (N := 27) hx hb hts (fun _ h0_ => List.mem_cons_of_mem _ (List.mem_append_right _ (List.mem_append_left _ h0_))) hown hK hI i_h0.1 k_22 rfl 13 (by decide) (hts (.fieldLink RX12 177 "DeadlineShareModel" "from" "I") (List.mem_cons_of_mem _ (List.mem_append_left _ (List.mem_of_getElem? (i := 1) rfl)))) (fun _ h9 => h9) rfl dX12_next_61 ?_
        refine lv_aload_n hx hb dX12_next_64 rfl (lv_at hl 0 rfl) ?_
        refine k_get (ci := 12) (v := .int z12) (C := RX12) (T := TX12) (N := 27) hx hb hts (fun _ h0_ => List.mem_cons_of_mem _ (List.mem_append_right _ (List.mem_append_left _ h0_))) hown hK hI i_h0.1 k_22 rfl 12 (by decide) (hts (.fieldLink RX12 128 "DeadlineShareModel" "taped" "I") (List.mem_cons_of_mem _ (List.mem_append_left _ (List.mem_of_getElem? (i := 2) rfl)))) (fun _ h9 => h9) rfl dX12_next_65 ?_
        have J_114 : ∀ (y_23 : Int32) (H : Heap) (locs : List Loc) (ls : Array Slot), Iv dC dI g A f_19 H → va_S A s.heap H locs → (y_23.toInt = 0 ∨ y_6.toInt < z12.toInt) → lv_has ls 1 [(0, .ref h0)] → W p l e (headSpec wq_c_X12_next ({ frames := 1, cells := 0, slots := 0, locals := 20 } : Room)).room s m ([.ref h0].toArray) below meth c H locs 0 0 (MQ below (va_Qv (fun (_ : Unit) => True) (fun (_ : Unit) t => ∃ f1 : Nat → va_E, Iv dC dI g A f1 t.heap ∧ Kp g [12] f f1 ∧ ∃ (w13 : Int32) (w14 : Int32) (w15 : Int32) (w16 : Int64), (f1 h0 = .inr (12, [.int z0, .int z1, .ref (gr g h0 2), .ref (gr g h0 3), .ref (gr g h0 4), .ref (gr g h0 5), .ref (gr g h0 6), .ref (gr g h0 7), .ref (gr g h0 8), .ref (gr g h0 9), .int z10, .ref (gr g h0 11), .int z12, .int w13, .int w14, .int w15, .long w16, .int z17, .int z18, .ref (gr g h0 19), .ref (gr g h0 20), .ref (gr g h0 21), .ref (gr g h0 22), .int z23, .long z24, .long z25, .long z26])) ∧ (0 ≤ w14.toInt ∧ w14.toInt ≤ z12.toInt)) A) ([.ref h0].toArray) s 0 0 A) (F0 m 114 ls [.int y_23, .ref h0]) := by
          intro y_23 H locs ls hI hS t_24 hl
          refine k_put (ci := 12) (v := .int y_23) (ty := .int) (C := RX12) (T := TX12) (N := 27) hx hb hts (fun _ h0_ => List.mem_cons_of_mem _ (List.mem_append_right _ (List.mem_append_left _ h0_))) tyX12 tyX12_ok nmX12 hown hK hI hS i_h0.1 k_22 rfl 15 (by decide) (hts (.fieldLink RX12 190 "DeadlineShareModel" "sort" "I") (List.mem_cons_of_mem _ (List.mem_append_left _ (List.mem_of_getElem? (i := 4) rfl)))) (fun _ h9 => h9) rfl (by decide +kernel) rfl rfl (Nat.le_of_ble_eq_true rfl) rfl (cl_12 i_h0 (by omega) (by omega) (by omega)) dX12_next_114 (fun f_25 H locs e_26 hI hS => ?_)
          have k_28 : f_25 h0 = .inr (12, [.int z0, .int z1, .ref (gr g h0 2), .ref (gr g h0 3), .ref (gr g h0 4), .ref (gr g h0 5), .ref (gr g h0 6), .ref (gr g h0 7), .ref (gr g h0 8), .ref (gr g h0 9), .int z10, .ref (gr g h0 11), .int z12, .int y_6, .int y_6, .int y_23, .long 0, .int z17, .int z18, .ref (gr g h0 19), .ref (gr g h0 20), .ref (gr g h0 21), .ref (gr g h0 22), .int z23, .long z24, .long z25, .long z26]) := by rw [e_26]; exact va_up_self _ _ _
          have kp_27 := Kp.put kp_21 i_h0 (by decide) e_26
          refine lv_aload_n hx hb dX12_next_117 rfl (lv_at hl 0 rfl) ?_
          refine k_get (ci := 12) (v := .int y_23) (C := RX12) (T := TX12) (N := 27) hx hb hts (fun _ h0_ => List.mem_cons_of_mem _ (List.mem_append_right _ (List.mem_append_left _ h0_))) hown hK hI i_h0.1 k_28 rfl 15 (by decide) (hts (.fieldLink RX12 190 "DeadlineShareModel" "sort" "I") (List.mem_cons_of_mem _ (List.mem_append_left _ (List.mem_of_getElem? (i := 4) rfl)))) (fun _ h9 => h9) rfl dX12_next_118 ?_
          refine lv_iconst (v := 3) hx hb dX12_next_121 (by decide) ?_
          refine lv_icmp_ne (tgt := 149) hx hb dX12_next_122 (by decide) (fun c_29 => ?_) (fun c_29 => ?_)
          · have c_29 := kn_eq rfl (by decide : Int32.toInt 3 = 3) c_29
            have K_149 : ∀ (nn : Nat) (y_31 : Int32) (y_32 : Int64) (f_30 : Nat → va_E) (H : Heap) (locs : List Loc) (ls : Array Slot), (z12.toInt - y_31.toInt).toNat < nn → Iv dC dI g A f_30 H → va_S A s.heap H locs → f_30 h0 = .inr (12, [.int z0, .int z1, .ref (gr g h0 2), .ref (gr g h0 3), .ref (gr g h0 4), .ref (gr g h0 5), .ref (gr g h0 6), .ref (gr g h0 7), .ref (gr g h0 8), .ref (gr g h0 9), .int z10, .ref (gr g h0 11), .int z12, .int y_6, .int y_31, .int y_23, .long y_32, .int z17, .int z18, .ref (gr g h0 19), .ref (gr g h0 20), .ref (gr g h0 21), .ref (gr g h0 22), .int z23, .long z24, .long z25, .long z26]) → Kp g [12] f f_30 → (0 ≤ y_31.toInt ∧ y_31.toInt ≤ z12.toInt) → lv_has ls 1 [(0, .ref h0)] → W p l e (headSpec wq_c_X12_next ({ frames := 1, cells := 0, slots := 0, locals := 20 } : Room)).room s m ([.ref h0].toArray) below meth c H locs 0 0 (MQ below (va_Qv (fun (_ : Unit) => True) (fun (_ : Unit) t => ∃ f1 : Nat → va_E, Iv dC dI g A f1 t.heap ∧ Kp g [12] f f1 ∧ ∃ (w13 : Int32) (w14 : Int32) (w15 : Int32) (w16 : Int64), (f1 h0 = .inr (12, [.int z0, .int z1, .ref (gr g h0 2), .ref (gr g h0 3), .ref (gr g h0 4), .ref (gr g h0 5), .ref (gr g h0 6), .ref (gr g h0 7), .ref (gr g h0 8), .ref (gr g h0 9), .int z10, .ref (gr g h0 11), .int z12, .int w13, .int w14, .int w15, .long w16, .int z17, .int z18, .ref (gr g h0 19), .ref (gr g h0 20), .ref (gr g h0 21), .ref (gr g h0 22), .int z23, .long z24, .long z25, .long z26])) ∧ (0 ≤ w14.toInt ∧ w14.toInt ≤ z12.toInt)) A) ([.ref h0].toArray) s 0 0 A) (F0 m 149 ls []) := by
              intro nn_149
              induction nn_149 with
              | zero => intro y_31 y_32 f_30 H locs ls m_36; exact absurd m_36 (Nat.not_lt_zero _)
              | succ nn_149 ih_149 =>
                intro y_31 y_32 f_30 H locs ls m_36 hI hS k_33 kp_34 t_35 hl
                have g_37 := Int32.toInt_lt y_31
                have g_38 := Int32.le_toInt y_31
                have g_39 := Int32.toInt_lt z12
                have g_40 := Int32.le_toInt z12
                refine lv_aload_n hx hb dX12_next_149 rfl (lv_at hl 0 rfl) ?_
                refine k_get (ci := 12) (v := .int y_23) (C := RX12) (T := TX12) (N := 27) hx hb hts (fun _ h0_ => List.mem_cons_of_mem _ (List.mem_append_right _ (List.mem_append_left _ h0_))) hown hK hI i_h0.1 k_33 rfl 15 (by decide) (hts (.fieldLink RX12 190 "DeadlineShareModel" "sort" "I") (List.mem_cons_of_mem _ (List.mem_append_left _ (List.mem_of_getElem? (i := 4) rfl)))) (fun _ h9 => h9) rfl dX12_next_150 ?_
                refine lv_iconst (v := 1) hx hb dX12_next_153 (by decide) ?_
                refine lv_icmp_ne (tgt := 243) hx hb dX12_next_154 (by decide) (fun c_41 => ?_) (fun c_41 => ?_)
                · have c_41 := kn_eq rfl (by decide : Int32.toInt 1 = 1) c_41
                  have K_243 : ∀ (nn : Nat) (y_43 : Int32) (y_44 : Int64) (f_42 : Nat → va_E) (H : Heap) (locs : List Loc) (ls : Array Slot), (z12.toInt - y_43.toInt).toNat < nn → Iv dC dI g A f_42 H → va_S A s.heap H locs → f_42 h0 = .inr (12, [.int z0, .int z1, .ref (gr g h0 2), .ref (gr g h0 3), .ref (gr g h0 4), .ref (gr g h0 5), .ref (gr g h0 6), .ref (gr g h0 7), .ref (gr g h0 8), .ref (gr g h0 9), .int z10, .ref (gr g h0 11), .int z12, .int y_6, .int y_43, .int y_23, .long y_44, .int z17, .int z18, .ref (gr g h0 19), .ref (gr g h0 20), .ref (gr g h0 21), .ref (gr g h0 22), .int z23, .long z24, .long z25, .long z26]) → Kp g [12] f f_42 → (0 ≤ y_43.toInt ∧ y_43.toInt ≤ z12.toInt) → lv_has ls 1 [(0, .ref h0)] → W p l e (headSpec wq_c_X12_next ({ frames := 1, cells := 0, slots := 0, locals := 20 } : Room)).room s m ([.ref h0].toArray) below meth c H locs 0 0 (MQ below (va_Qv (fun (_ : Unit) => True) (fun (_ : Unit) t => ∃ f1 : Nat → va_E, Iv dC dI g A f1 t.heap ∧ Kp g [12] f f1 ∧ ∃ (w13 : Int32) (w14 : Int32) (w15 : Int32) (w16 : Int64), (f1 h0 = .inr (12, [.int z0, .int z1, .ref (gr g h0 2), .ref (gr g h0 3), .ref (gr g h0 4), .ref (gr g h0 5), .ref (gr g h0 6), .ref (gr g h0 7), .ref (gr g h0 8), .ref (gr g h0 9), .int z10, .ref (gr g h0 11), .int z12, .int w13, .int w14, .int w15, .long w16, .int z17, .int z18, .ref (gr g h0 19), .ref (gr g h0 20), .ref (gr g h0 21), .ref (gr g h0 22), .int z23, .long z24, .long z25, .long z26])) ∧ (0 ≤ w14.toInt ∧ w14.toInt ≤ z12.toInt)) A) ([.ref h0].toArray) s 0 0 A) (F0 m 243 ls []) := by
                    intro nn_243
                    induction nn_243 with
                    | zero => intro y_43 y_44 f_42 H locs ls m_48; exact absurd m_48 (Nat.not_lt_zero _)
                    | succ nn_243 ih_243 =>
                      intro y_43 y_44 f_42 H locs ls m_48 hI hS k_45 kp_46 t_47 hl
                      have g_49 := Int32.toInt_lt y_43
                      have g_50 := Int32.le_toInt y_43
                      have g_51 := Int32.toInt_lt z12
                      have g_52 := Int32.le_toInt z12
                      refine lv_aload_n hx hb dX12_next_243 rfl (lv_at hl 0 rfl) ?_
                      refine k_get (ci := 12) (v := .int y_23) (C := RX12) (T := TX12) (N := 27) hx hb hts (fun _ h0_ => List.mem_cons_of_mem _ (List.mem_append_right _ (List.mem_append_left _ h0_))) hown hK hI i_h0.1 k_45 rfl 15 (by decide) (hts (.fieldLink RX12 190 "DeadlineShareModel" "sort" "I") (List.mem_cons_of_mem _ (List.mem_append_left _ (List.mem_of_getElem? (i := 4) rfl)))) (fun _ h9 => h9) rfl dX12_next_244 ?_
                      refine lv_iconst (v := 2) hx hb dX12_next_247 (by decide) ?_
                      refine lv_icmp_ne (tgt := 335) hx hb dX12_next_248 (by decide) (fun c_53 => ?_) (fun c_53 => ?_)
                      · have c_53 := kn_eq rfl (by decide : Int32.toInt 2 = 2) c_53
                        exact W.vret hx hb hr (fun t ht hW => ⟨⟨(), rfl, trivial, ⟨f_42, k_ret ht hI, kp_46, y_6, y_43, y_23, y_44, k_45, (by first | omega | decide)⟩⟩, hS.F ht⟩) hS.2.2 dX12_next_335
                      · have c_53 := kc_eq rfl (by decide : Int32.toInt 2 = 2) c_53
                        refine lv_aload_n hx hb dX12_next_251 rfl (lv_at hl 0 rfl) ?_
                        refine k_get (ci := 12) (v := .int y_43) (C := RX12) (T := TX12) (N := 27) hx hb hts (fun _ h0_ => List.mem_cons_of_mem _ (List.mem_append_right _ (List.mem_append_left _ h0_))) hown hK hI i_h0.1 k_45 rfl 14 (by decide) (hts (.fieldLink RX12 174 "DeadlineShareModel" "to" "I") (List.mem_cons_of_mem _ (List.mem_append_left _ (List.mem_of_getElem? (i := 0) rfl)))) (fun _ h9 => h9) rfl dX12_next_252 ?_
                        refine lv_aload_n hx hb dX12_next_255 rfl (lv_at hl 0 rfl) ?_
                        refine k_get (ci := 12) (v := .int z12) (C := RX12) (T := TX12) (N := 27) hx hb hts (fun _ h0_ => List.mem_cons_of_mem _ (List.mem_append_right _ (List.mem_append_left _ h0_))) hown hK hI i_h0.1 k_45 rfl 12 (by decide) (hts (.fieldLink RX12 128 "DeadlineShareModel" "taped" "I") (List.mem_cons_of_mem _ (List.mem_append_left _ (List.mem_of_getElem? (i := 2) rfl)))) (fun _ h9 => h9) rfl dX12_next_256 ?_
                        refine lv_icmp_ge (tgt := 335) hx hb dX12_next_259 (by decide) (fun c_54 => ?_) (fun c_54 => ?_)
                        · have c_54 := kc_le rfl rfl c_54
                          exact W.vret hx hb hr (fun t ht hW => ⟨⟨(), rfl, trivial, ⟨f_42, k_ret ht hI, kp_46, y_6, y_43, y_23, y_44, k_45, (by first | omega | decide)⟩⟩, hS.F ht⟩) hS.2.2 dX12_next_335
                        · have c_54 := kn_le rfl rfl c_54
                          refine lv_aload_n hx hb dX12_next_262 rfl (lv_at hl 0 rfl) ?_
                          refine k_get (ci := 12) (v := .ref (gr g h0 11)) (C := RX12) (T := TX12) (N := 27) hx hb hts (fun _ h0_ => List.mem_cons_of_mem _ (List.mem_append_right _ (List.mem_append_left _ h0_))) hown hK hI i_h0.1 k_45 rfl 11 (by decide) (hts (.fieldLink RX12 36 "DeadlineShareModel" "tape" "[I") (List.mem_cons_of_mem _ (List.mem_append_left _ (List.mem_of_getElem? (i := 5) rfl)))) (fun _ h9 => h9) rfl dX12_next_263 ?_
                          have i_56 := kw_12_11 hG i_h0
                          refine lv_aload_n hx hb dX12_next_266 rfl (lv_at hl 0 rfl) ?_
                          refine k_get (ci := 12) (v := .int y_43) (C := RX12) (T := TX12) (N := 27) hx hb hts (fun _ h0_ => List.mem_cons_of_mem _ (List.mem_append_right _ (List.mem_append_left _ h0_))) hown hK hI i_h0.1 k_45 rfl 14 (by decide) (hts (.fieldLink RX12 174 "DeadlineShareModel" "to" "I") (List.mem_cons_of_mem _ (List.mem_append_left _ (List.mem_of_getElem? (i := 0) rfl)))) (fun _ h9 => h9) rfl dX12_next_267 ?_
                          obtain ⟨q_58, k_57⟩ := op_38 hI i_56
                          refine k_iald hx hb hK hI i_56.1 0 k_57 rfl (vp_in_iff.mpr (by omega)) dX12_next_270 ?_
                          refine lv_topi (fun v_59 ev_59 => ?_)
                          refine va_calli (va_runS (As := [.int v_59]) (rest := []) ⟨hx, hb, hml, hown, hts⟩ (c_X12_isDigit l dC dI g A hG f_42 v_59) (va_cwS 1 hts (gi_S (fun w_ h0_ => ⟨List.mem_cons_of_mem _ (List.mem_append_right _ (List.mem_append_right _ (List.mem_append_left _ h0_))), (tb_c_X12_isDigit w_ h0_).2⟩) (List.mem_cons_of_mem _ (List.mem_append_left _ (List.mem_of_getElem? (i := 6) rfl))) (List.mem_cons_of_mem _ (List.mem_append_left _ (List.mem_of_getElem? (i := 7) rfl))) (List.mem_cons_of_mem _ (List.mem_append_left _ (List.mem_of_getElem? (i := 8) rfl)))) rfl rfl rfl (by decide +kernel) ⟨Nat.le_of_ble_eq_true rfl, Nat.le_of_ble_eq_true rfl⟩) ⟨fun a U g mk q => ⟨q.1, q.2.calling rfl rfl⟩, fun U hU hW => ⟨rfl, kIn.of hI hK hE hS hU hW⟩⟩ rfl rfl hl.1 rfl (lv_room (Nat.le_of_ble_eq_true rfl)) dX12_next_271 ⟨Nat.le_of_ble_eq_true rfl, Nat.le_of_ble_eq_true rfl⟩) hS (fun q _ h => h) (fun q h => h) (fun r_61 u t H1 locs ht hvm w_60 hB hz1 hk1 hS => ?_)
                          have hI : Iv dC dI g A f_42 t.heap := hB
                          rw [ht] at hI
                          generalize H1 = H at hI hS ⊢
                          refine W.widen (k := 0) (n := 0) (Nat.le_of_ble_eq_true rfl) (Nat.le_of_ble_eq_true rfl) ?_
                          refine lv_if_eq (tgt := 335) hx hb dX12_next_274 (by decide) (fun c_62 => ?_) (fun c_62 => ?_)
                          · have c_62 := kc_eq rfl (by decide : Int32.toInt 0 = 0) c_62
                            exact W.vret hx hb hr (fun t ht hW => ⟨⟨(), rfl, trivial, ⟨f_42, k_ret ht hI, kp_46, y_6, y_43, y_23, y_44, k_45, (by first | omega | decide)⟩⟩, hS.F ht⟩) hS.2.2 dX12_next_335
                          · have c_62 := kn_eq rfl (by decide : Int32.toInt 0 = 0) c_62
                            refine lv_aload_n hx hb dX12_next_277 rfl (lv_at hl 0 rfl) ?_
                            refine lv_aload_n hx hb dX12_next_278 rfl (lv_at hl 0 rfl) ?_
                            refine k_get (ci := 12) (v := .long y_44) (C := RX12) (T := TX12) (N := 27) hx hb hts (fun _ h0_ => List.mem_cons_of_mem _ (List.mem_append_right _ (List.mem_append_left _ h0_))) hown hK hI i_h0.1 k_45 rfl 16 (by decide) (hts (.fieldLink RX12 180 "DeadlineShareModel" "worth" "J") (List.mem_cons_of_mem _ (List.mem_append_left _ (List.mem_of_getElem? (i := 3) rfl)))) (fun _ h9 => h9) rfl dX12_next_279 ?_
                            refine lv_ldc2 hx hb hown (hts (.constantLong RX12 126 (1000000)) (List.mem_cons_of_mem _ (List.mem_append_left _ (List.mem_of_getElem? (i := 9) rfl)))) dX12_next_282 ?_
                            refine W.lcmp hx hb dX12_next_285 ?_
                            have J_319 : ∀ (y_63 : Int64) (H : Heap) (locs : List Loc) (ls : Array Slot), Iv dC dI g A f_42 H → va_S A s.heap H locs → lv_has ls 1 [(0, .ref h0)] → W p l e (headSpec wq_c_X12_next ({ frames := 1, cells := 0, slots := 0, locals := 20 } : Room)).room s m ([.ref h0].toArray) below meth c H locs 0 0 (MQ below (va_Qv (fun (_ : Unit) => True) (fun (_ : Unit) t => ∃ f1 : Nat → va_E, Iv dC dI g A f1 t.heap ∧ Kp g [12] f f1 ∧ ∃ (w13 : Int32) (w14 : Int32) (w15 : Int32) (w16 : Int64), (f1 h0 = .inr (12, [.int z0, .int z1, .ref (gr g h0 2), .ref (gr g h0 3), .ref (gr g h0 4), .ref (gr g h0 5), .ref (gr g h0 6), .ref (gr g h0 7), .ref (gr g h0 8), .ref (gr g h0 9), .int z10, .ref (gr g h0 11), .int z12, .int w13, .int w14, .int w15, .long w16, .int z17, .int z18, .ref (gr g h0 19), .ref (gr g h0 20), .ref (gr g h0 21), .ref (gr g h0 22), .int z23, .long z24, .long z25, .long z26])) ∧ (0 ≤ w14.toInt ∧ w14.toInt ≤ z12.toInt)) A) ([.ref h0].toArray) s 0 0 A) (F0 m 319 ls [.long y_63, .ref h0]) := by
                              intro y_63 H locs ls hI hS  hl
                              refine k_put (ci := 12) (v := .long y_63) (ty := .long) (C := RX12) (T := TX12) (N := 27) hx hb hts (fun _ h0_ => List.mem_cons_of_mem _ (List.mem_append_right _ (List.mem_append_left _ h0_))) tyX12 tyX12_ok nmX12 hown hK hI hS i_h0.1 k_45 rfl 16 (by decide) (hts (.fieldLink RX12 180 "DeadlineShareModel" "worth" "J") (List.mem_cons_of_mem _ (List.mem_append_left _ (List.mem_of_getElem? (i := 3) rfl)))) (fun _ h9 => h9) rfl (by decide +kernel) rfl rfl (Nat.le_of_ble_eq_true rfl) rfl (cl_12 i_h0 (by omega) (by omega) (by omega)) dX12_next_319 (fun f_64 H locs e_65 hI hS => ?_)
                              have k_67 : f_64 h0 = .inr (12, [.int z0, .int z1, .ref (gr g h0 2), .ref (gr g h0 3), .ref (gr g h0 4), .ref (gr g h0 5), .ref (gr g h0 6), .ref (gr g h0 7), .ref (gr g h0 8), .ref (gr g h0 9), .int z10, .ref (gr g h0 11), .int z12, .int y_6, .int y_43, .int y_23, .long y_63, .int z17, .int z18, .ref (gr g h0 19), .ref (gr g h0 20), .ref (gr g h0 21), .ref (gr g h0 22), .int z23, .long z24, .long z25, .long z26]) := by rw [e_65]; exact va_up_self _ _ _
                              have k_68 : f_64 (gr g h0 11) = .inl (gc g 0, 200, .inl q_58) := by rw [e_65, va_up_ne _ _ (ik_ne i_56 i_h0 (by decide))]; exact k_57
                              have kp_66 := Kp.put kp_46 i_h0 (by decide) e_65
                              refine lv_aload_n hx hb dX12_next_322 rfl (lv_at hl 0 rfl) ?_
                              refine lv_dup hx hb dX12_next_323 rfl ?_
                              refine k_get (ci := 12) (v := .int y_43) (C := RX12) (T := TX12) (N := 27) hx hb hts (fun _ h0_ => List.mem_cons_of_mem _ (List.mem_append_right _ (List.mem_append_left _ h0_))) hown hK hI i_h0.1 k_67 rfl 14 (by decide) (hts (.fieldLink RX12 174 "DeadlineShareModel" "to" "I") (List.mem_cons_of_mem _ (List.mem_append_left _ (List.mem_of_getElem? (i := 0) rfl)))) (fun _ h9 => h9) rfl dX12_next_324 ?_
                              refine lv_iconst (v := 1) hx hb dX12_next_327 (by decide) ?_
                              refine lv_iadd hx hb dX12_next_328 ?_
                              refine lv_topi (fun v_69 ev_69 => ?_)
                              have tv_69 := k_ad y_43 1
                              rw [← ev_69, show Int32.toInt 1 = 1 from by decide] at tv_69
                              refine k_put (ci := 12) (v := .int v_69) (ty := .int) (C := RX12) (T := TX12) (N := 27) hx hb hts (fun _ h0_ => List.mem_cons_of_mem _ (List.mem_append_right _ (List.mem_append_left _ h0_))) tyX12 tyX12_ok nmX12 hown hK hI hS i_h0.1 k_67 rfl 14 (by decide) (hts (.fieldLink RX12 174 "DeadlineShareModel" "to" "I") (List.mem_cons_of_mem _ (List.mem_append_left _ (List.mem_of_getElem? (i := 0) rfl)))) (fun _ h9 => h9) rfl (by decide +kernel) rfl rfl (Nat.le_of_ble_eq_true rfl) rfl (cl_12 i_h0 (by omega) (by omega) (by omega)) dX12_next_329 (fun f_70 H locs e_71 hI hS => ?_)
                              have k_73 : f_70 h0 = .inr (12, [.int z0, .int z1, .ref (gr g h0 2), .ref (gr g h0 3), .ref (gr g h0 4), .ref (gr g h0 5), .ref (gr g h0 6), .ref (gr g h0 7), .ref (gr g h0 8), .ref (gr g h0 9), .int z10, .ref (gr g h0 11), .int z12, .int y_6, .int v_69, .int y_23, .long y_63, .int z17, .int z18, .ref (gr g h0 19), .ref (gr g h0 20), .ref (gr g h0 21), .ref (gr g h0 22), .int z23, .long z24, .long z25, .long z26]) := by rw [e_71]; exact va_up_self _ _ _
                              have k_74 : f_70 (gr g h0 11) = .inl (gc g 0, 200, .inl q_58) := by rw [e_71, va_up_ne _ _ (ik_ne i_56 i_h0 (by decide))]; exact k_68
                              have kp_72 := Kp.put kp_66 i_h0 (by decide) e_71
                              refine lv_goto (tgt := 243) hx hb dX12_next_332 (by decide) ?_
                              exact ih_243 v_69 y_63 f_70 _ _ _ (by omega) hI hS k_73 kp_72 (by first | omega | decide | exact Or.inl (by decide)) (lv_sub hl [0] rfl)
                            refine lv_if_le (tgt := 296) hx hb dX12_next_286 (by decide) (fun c_75 => ?_) (fun c_75 => ?_)
                            · have c_75 := lc_le rfl (by decide : Int64.toInt 1000000 = 1000000) ((lg_cmp_le _ _).mp c_75)
                              refine lv_aload_n hx hb dX12_next_296 rfl (lv_at hl 0 rfl) ?_
                              refine k_get (ci := 12) (v := .long y_44) (C := RX12) (T := TX12) (N := 27) hx hb hts (fun _ h0_ => List.mem_cons_of_mem _ (List.mem_append_right _ (List.mem_append_left _ h0_))) hown hK hI i_h0.1 k_45 rfl 16 (by decide) (hts (.fieldLink RX12 180 "DeadlineShareModel" "worth" "J") (List.mem_cons_of_mem _ (List.mem_append_left _ (List.mem_of_getElem? (i := 3) rfl)))) (fun _ h9 => h9) rfl dX12_next_297 ?_
                              refine lv_ldc2 hx hb hown (hts (.constantLong RX12 197 (10)) (List.mem_cons_of_mem _ (List.mem_append_left _ (List.mem_of_getElem? (i := 10) rfl)))) dX12_next_300 ?_
                              refine lv_lmul hx hb dX12_next_303 ?_
                              refine lv_topl (fun v_76 ev_76 => ?_)
                              refine lv_aload_n hx hb dX12_next_304 rfl (lv_at hl 0 rfl) ?_
                              refine k_get (ci := 12) (v := .ref (gr g h0 11)) (C := RX12) (T := TX12) (N := 27) hx hb hts (fun _ h0_ => List.mem_cons_of_mem _ (List.mem_append_right _ (List.mem_append_left _ h0_))) hown hK hI i_h0.1 k_45 rfl 11 (by decide) (hts (.fieldLink RX12 36 "DeadlineShareModel" "tape" "[I") (List.mem_cons_of_mem _ (List.mem_append_left _ (List.mem_of_getElem? (i := 5) rfl)))) (fun _ h9 => h9) rfl dX12_next_305 ?_
                              refine lv_aload_n hx hb dX12_next_308 rfl (lv_at hl 0 rfl) ?_
                              refine k_get (ci := 12) (v := .int y_43) (C := RX12) (T := TX12) (N := 27) hx hb hts (fun _ h0_ => List.mem_cons_of_mem _ (List.mem_append_right _ (List.mem_append_left _ h0_))) hown hK hI i_h0.1 k_45 rfl 14 (by decide) (hts (.fieldLink RX12 174 "DeadlineShareModel" "to" "I") (List.mem_cons_of_mem _ (List.mem_append_left _ (List.mem_of_getElem? (i := 0) rfl)))) (fun _ h9 => h9) rfl dX12_next_309 ?_
                              refine k_iald hx hb hK hI i_56.1 0 k_57 rfl (vp_in_iff.mpr (by omega)) dX12_next_312 ?_
                              refine lv_topi (fun v_79 ev_79 => ?_)
                              refine lv_i2l (v := v_79.toInt64) hx hb dX12_next_313 rfl ?_
                              have t_80 := Int32.toInt_toInt64 v_79
                              refine lv_ladd hx hb dX12_next_314 ?_
                              refine lv_topl (fun v_81 ev_81 => ?_)
                              have tv_81 := l_ad v_76 v_79.toInt64
                              rw [← ev_81] at tv_81
                              refine lv_ldc2 hx hb hown (hts (.constantLong RX12 199 (48)) (List.mem_cons_of_mem _ (List.mem_append_left _ (List.mem_of_getElem? (i := 11) rfl)))) dX12_next_315 ?_
                              refine lv_lsub hx hb dX12_next_318 ?_
                              refine lv_topl (fun v_82 ev_82 => ?_)
                              have tv_82 := l_sb v_81 48
                              rw [← ev_82, show Int64.toInt 48 = 48 from by decide] at tv_82
                              exact J_319 v_82 _ _ _ hI hS  (lv_sub hl [0] rfl)
                            · have c_75 := ln_le rfl (by decide : Int64.toInt 1000000 = 1000000) (fun h9 => c_75 ((lg_cmp_le _ _).mpr h9))
                              refine lv_aload_n hx hb dX12_next_289 rfl (lv_at hl 0 rfl) ?_
                              refine k_get (ci := 12) (v := .long y_44) (C := RX12) (T := TX12) (N := 27) hx hb hts (fun _ h0_ => List.mem_cons_of_mem _ (List.mem_append_right _ (List.mem_append_left _ h0_))) hown hK hI i_h0.1 k_45 rfl 16 (by decide) (hts (.fieldLink RX12 180 "DeadlineShareModel" "worth" "J") (List.mem_cons_of_mem _ (List.mem_append_left _ (List.mem_of_getElem? (i := 3) rfl)))) (fun _ h9 => h9) rfl dX12_next_290 ?_
                              refine lv_goto (tgt := 319) hx hb dX12_next_293 (by decide) ?_
                              exact J_319 y_44 _ _ _ hI hS  (lv_sub hl [0] rfl)
                  exact K_243 _ y_31 y_32 f_30 _ _ _ (Nat.lt_succ_self _) hI hS k_33 kp_34 (by first | omega | decide | exact Or.inl (by decide)) (lv_sub hl [0] rfl)
                · have c_41 := kc_eq rfl (by decide : Int32.toInt 1 = 1) c_41
                  refine lv_aload_n hx hb dX12_next_157 rfl (lv_at hl 0 rfl) ?_
                  refine k_get (ci := 12) (v := .int y_31) (C := RX12) (T := TX12) (N := 27) hx hb hts (fun _ h0_ => List.mem_cons_of_mem _ (List.mem_append_right _ (List.mem_append_left _ h0_))) hown hK hI i_h0.1 k_33 rfl 14 (by decide) (hts (.fieldLink RX12 174 "DeadlineShareModel" "to" "I") (List.mem_cons_of_mem _ (List.mem_append_left _ (List.mem_of_getElem? (i := 0) rfl)))) (fun _ h9 => h9) rfl dX12_next_158 ?_
                  refine lv_aload_n hx hb dX12_next_161 rfl (lv_at hl 0 rfl) ?_
                  refine k_get (ci := 12) (v := .int z12) (C := RX12) (T := TX12) (N := 27) hx hb hts (fun _ h0_ => List.mem_cons_of_mem _ (List.mem_append_right _ (List.mem_append_left _ h0_))) hown hK hI i_h0.1 k_33 rfl 12 (by decide) (hts (.fieldLink RX12 128 "DeadlineShareModel" "taped" "I") (List.mem_cons_of_mem _ (List.mem_append_left _ (List.mem_of_getElem? (i := 2) rfl)))) (fun _ h9 => h9) rfl dX12_next_162 ?_
                  refine lv_icmp_ge (tgt := 243) hx hb dX12_next_165 (by decide) (fun c_83 => ?_) (fun c_83 => ?_)
                  · have c_83 := kc_le rfl rfl c_83
                    have K_243 : ∀ (nn : Nat) (y_85 : Int32) (y_86 : Int64) (f_84 : Nat → va_E) (H : Heap) (locs : List Loc) (ls : Array Slot), (z12.toInt - y_85.toInt).toNat < nn → Iv dC dI g A f_84 H → va_S A s.heap H locs → f_84 h0 = .inr (12, [.int z0, .int z1, .ref (gr g h0 2), .ref (gr g h0 3), .ref (gr g h0 4), .ref (gr g h0 5), .ref (gr g h0 6), .ref (gr g h0 7), .ref (gr g h0 8), .ref (gr g h0 9), .int z10, .ref (gr g h0 11), .int z12, .int y_6, .int y_85, .int y_23, .long y_86, .int z17, .int z18, .ref (gr g h0 19), .ref (gr g h0 20), .ref (gr g h0 21), .ref (gr g h0 22), .int z23, .long z24, .long z25, .long z26]) → Kp g [12] f f_84 → (0 ≤ y_85.toInt ∧ y_85.toInt ≤ z12.toInt) → lv_has ls 1 [(0, .ref h0)] → W p l e (headSpec wq_c_X12_next ({ frames := 1, cells := 0, slots := 0, locals := 20 } : Room)).room s m ([.ref h0].toArray) below meth c H locs 0 0 (MQ below (va_Qv (fun (_ : Unit) => True) (fun (_ : Unit) t => ∃ f1 : Nat → va_E, Iv dC dI g A f1 t.heap ∧ Kp g [12] f f1 ∧ ∃ (w13 : Int32) (w14 : Int32) (w15 : Int32) (w16 : Int64), (f1 h0 = .inr (12, [.int z0, .int z1, .ref (gr g h0 2), .ref (gr g h0 3), .ref (gr g h0 4), .ref (gr g h0 5), .ref (gr g h0 6), .ref (gr g h0 7), .ref (gr g h0 8), .ref (gr g h0 9), .int z10, .ref (gr g h0 11), .int z12, .int w13, .int w14, .int w15, .long w16, .int z17, .int z18, .ref (gr g h0 19), .ref (gr g h0 20), .ref (gr g h0 21), .ref (gr g h0 22), .int z23, .long z24, .long z25, .long z26])) ∧ (0 ≤ w14.toInt ∧ w14.toInt ≤ z12.toInt)) A) ([.ref h0].toArray) s 0 0 A) (F0 m 243 ls []) := by
                      intro nn_243
                      induction nn_243 with
                      | zero => intro y_85 y_86 f_84 H locs ls m_90; exact absurd m_90 (Nat.not_lt_zero _)
                      | succ nn_243 ih_243 =>
                        intro y_85 y_86 f_84 H locs ls m_90 hI hS k_87 kp_88 t_89 hl
                        have g_91 := Int32.toInt_lt y_85
                        have g_92 := Int32.le_toInt y_85
                        have g_93 := Int32.toInt_lt z12
                        have g_94 := Int32.le_toInt z12
                        refine lv_aload_n hx hb dX12_next_243 rfl (lv_at hl 0 rfl) ?_
                        refine k_get (ci := 12) (v := .int y_23) (C := RX12) (T := TX12) (N := 27) hx hb hts (fun _ h0_ => List.mem_cons_of_mem _ (List.mem_append_right _ (List.mem_append_left _ h0_))) hown hK hI i_h0.1 k_87 rfl 15 (by decide) (hts (.fieldLink RX12 190 "DeadlineShareModel" "sort" "I") (List.mem_cons_of_mem _ (List.mem_append_left _ (List.mem_of_getElem? (i := 4) rfl)))) (fun _ h9 => h9) rfl dX12_next_244 ?_
                        refine lv_iconst (v := 2) hx hb dX12_next_247 (by decide) ?_
                        refine lv_icmp_ne (tgt := 335) hx hb dX12_next_248 (by decide) (fun c_95 => ?_) (fun c_95 => ?_)
                        · have c_95 := kn_eq rfl (by decide : Int32.toInt 2 = 2) c_95
                          exact W.vret hx hb hr (fun t ht hW => ⟨⟨(), rfl, trivial, ⟨f_84, k_ret ht hI, kp_88, y_6, y_85, y_23, y_86, k_87, (by first | omega | decide)⟩⟩, hS.F ht⟩) hS.2.2 dX12_next_335
                        · have c_95 := kc_eq rfl (by decide : Int32.toInt 2 = 2) c_95
                          refine lv_aload_n hx hb dX12_next_251 rfl (lv_at hl 0 rfl) ?_
                          refine k_get (ci := 12) (v := .int y_85) (C := RX12) (T := TX12) (N := 27) hx hb hts (fun _ h0_ => List.mem_cons_of_mem _ (List.mem_append_right _ (List.mem_append_left _ h0_))) hown hK hI i_h0.1 k_87 rfl 14 (by decide) (hts (.fieldLink RX12 174 "DeadlineShareModel" "to" "I") (List.mem_cons_of_mem _ (List.mem_append_left _ (List.mem_of_getElem? (i := 0) rfl)))) (fun _ h9 => h9) rfl dX12_next_252 ?_
                          refine lv_aload_n hx hb dX12_next_255 rfl (lv_at hl 0 rfl) ?_
                          refine k_get (ci := 12) (v := .int z12) (C := RX12) (T := TX12) (N := 27) hx hb hts (fun _ h0_ => List.mem_cons_of_mem _ (List.mem_append_right _ (List.mem_append_left _ h0_))) hown hK hI i_h0.1 k_87 rfl 12 (by decide) (hts (.fieldLink RX12 128 "DeadlineShareModel" "taped" "I") (List.mem_cons_of_mem _ (List.mem_append_left _ (List.mem_of_getElem? (i := 2) rfl)))) (fun _ h9 => h9) rfl dX12_next_256 ?_
                          refine lv_icmp_ge (tgt := 335) hx hb dX12_next_259 (by decide) (fun c_96 => ?_) (fun c_96 => ?_)
                          · have c_96 := kc_le rfl rfl c_96
                            exact W.vret hx hb hr (fun t ht hW => ⟨⟨(), rfl, trivial, ⟨f_84, k_ret ht hI, kp_88, y_6, y_85, y_23, y_86, k_87, (by first | omega | decide)⟩⟩, hS.F ht⟩) hS.2.2 dX12_next_335
                          · have c_96 := kn_le rfl rfl c_96
                            refine lv_aload_n hx hb dX12_next_262 rfl (lv_at hl 0 rfl) ?_
                            refine k_get (ci := 12) (v := .ref (gr g h0 11)) (C := RX12) (T := TX12) (N := 27) hx hb hts (fun _ h0_ => List.mem_cons_of_mem _ (List.mem_append_right _ (List.mem_append_left _ h0_))) hown hK hI i_h0.1 k_87 rfl 11 (by decide) (hts (.fieldLink RX12 36 "DeadlineShareModel" "tape" "[I") (List.mem_cons_of_mem _ (List.mem_append_left _ (List.mem_of_getElem? (i := 5) rfl)))) (fun _ h9 => h9) rfl dX12_next_263 ?_
                            have i_98 := kw_12_11 hG i_h0
                            refine lv_aload_n hx hb dX12_next_266 rfl (lv_at hl 0 rfl) ?_
                            refine k_get (ci := 12) (v := .int y_85) (C := RX12) (T := TX12) (N := 27) hx hb hts (fun _ h0_ => List.mem_cons_of_mem _ (List.mem_append_right _ (List.mem_append_left _ h0_))) hown hK hI i_h0.1 k_87 rfl 14 (by decide) (hts (.fieldLink RX12 174 "DeadlineShareModel" "to" "I") (List.mem_cons_of_mem _ (List.mem_append_left _ (List.mem_of_getElem? (i := 0) rfl)))) (fun _ h9 => h9) rfl dX12_next_267 ?_
                            obtain ⟨q_100, k_99⟩ := op_38 hI i_98
                            refine k_iald hx hb hK hI i_98.1 0 k_99 rfl (vp_in_iff.mpr (by omega)) dX12_next_270 ?_
                            refine lv_topi (fun v_101 ev_101 => ?_)
                            refine va_calli (va_runS (As := [.int v_101]) (rest := []) ⟨hx, hb, hml, hown, hts⟩ (c_X12_isDigit l dC dI g A hG f_84 v_101) (va_cwS 1 hts (gi_S (fun w_ h0_ => ⟨List.mem_cons_of_mem _ (List.mem_append_right _ (List.mem_append_right _ (List.mem_append_left _ h0_))), (tb_c_X12_isDigit w_ h0_).2⟩) (List.mem_cons_of_mem _ (List.mem_append_left _ (List.mem_of_getElem? (i := 6) rfl))) (List.mem_cons_of_mem _ (List.mem_append_left _ (List.mem_of_getElem? (i := 7) rfl))) (List.mem_cons_of_mem _ (List.mem_append_left _ (List.mem_of_getElem? (i := 8) rfl)))) rfl rfl rfl (by decide +kernel) ⟨Nat.le_of_ble_eq_true rfl, Nat.le_of_ble_eq_true rfl⟩) ⟨fun a U g mk q => ⟨q.1, q.2.calling rfl rfl⟩, fun U hU hW => ⟨rfl, kIn.of hI hK hE hS hU hW⟩⟩ rfl rfl hl.1 rfl (lv_room (Nat.le_of_ble_eq_true rfl)) dX12_next_271 ⟨Nat.le_of_ble_eq_true rfl, Nat.le_of_ble_eq_true rfl⟩) hS (fun q _ h => h) (fun q h => h) (fun r_103 u t H1 locs ht hvm w_102 hB hz1 hk1 hS => ?_)
                            have hI : Iv dC dI g A f_84 t.heap := hB
                            rw [ht] at hI
                            generalize H1 = H at hI hS ⊢
                            refine W.widen (k := 0) (n := 0) (Nat.le_of_ble_eq_true rfl) (Nat.le_of_ble_eq_true rfl) ?_
                            refine lv_if_eq (tgt := 335) hx hb dX12_next_274 (by decide) (fun c_104 => ?_) (fun c_104 => ?_)
                            · have c_104 := kc_eq rfl (by decide : Int32.toInt 0 = 0) c_104
                              exact W.vret hx hb hr (fun t ht hW => ⟨⟨(), rfl, trivial, ⟨f_84, k_ret ht hI, kp_88, y_6, y_85, y_23, y_86, k_87, (by first | omega | decide)⟩⟩, hS.F ht⟩) hS.2.2 dX12_next_335
                            · have c_104 := kn_eq rfl (by decide : Int32.toInt 0 = 0) c_104
                              refine lv_aload_n hx hb dX12_next_277 rfl (lv_at hl 0 rfl) ?_
                              refine lv_aload_n hx hb dX12_next_278 rfl (lv_at hl 0 rfl) ?_
                              refine k_get (ci := 12) (v := .long y_86) (C := RX12) (T := TX12) (N := 27) hx hb hts (fun _ h0_ => List.mem_cons_of_mem _ (List.mem_append_right _ (List.mem_append_left _ h0_))) hown hK hI i_h0.1 k_87 rfl 16 (by decide) (hts (.fieldLink RX12 180 "DeadlineShareModel" "worth" "J") (List.mem_cons_of_mem _ (List.mem_append_left _ (List.mem_of_getElem? (i := 3) rfl)))) (fun _ h9 => h9) rfl dX12_next_279 ?_
                              refine lv_ldc2 hx hb hown (hts (.constantLong RX12 126 (1000000)) (List.mem_cons_of_mem _ (List.mem_append_left _ (List.mem_of_getElem? (i := 9) rfl)))) dX12_next_282 ?_
                              refine W.lcmp hx hb dX12_next_285 ?_
                              have J_319 : ∀ (y_105 : Int64) (H : Heap) (locs : List Loc) (ls : Array Slot), Iv dC dI g A f_84 H → va_S A s.heap H locs → lv_has ls 1 [(0, .ref h0)] → W p l e (headSpec wq_c_X12_next ({ frames := 1, cells := 0, slots := 0, locals := 20 } : Room)).room s m ([.ref h0].toArray) below meth c H locs 0 0 (MQ below (va_Qv (fun (_ : Unit) => True) (fun (_ : Unit) t => ∃ f1 : Nat → va_E, Iv dC dI g A f1 t.heap ∧ Kp g [12] f f1 ∧ ∃ (w13 : Int32) (w14 : Int32) (w15 : Int32) (w16 : Int64), (f1 h0 = .inr (12, [.int z0, .int z1, .ref (gr g h0 2), .ref (gr g h0 3), .ref (gr g h0 4), .ref (gr g h0 5), .ref (gr g h0 6), .ref (gr g h0 7), .ref (gr g h0 8), .ref (gr g h0 9), .int z10, .ref (gr g h0 11), .int z12, .int w13, .int w14, .int w15, .long w16, .int z17, .int z18, .ref (gr g h0 19), .ref (gr g h0 20), .ref (gr g h0 21), .ref (gr g h0 22), .int z23, .long z24, .long z25, .long z26])) ∧ (0 ≤ w14.toInt ∧ w14.toInt ≤ z12.toInt)) A) ([.ref h0].toArray) s 0 0 A) (F0 m 319 ls [.long y_105, .ref h0]) := by
                                intro y_105 H locs ls hI hS  hl
                                refine k_put (ci := 12) (v := .long y_105) (ty := .long) (C := RX12) (T := TX12) (N := 27) hx hb hts (fun _ h0_ => List.mem_cons_of_mem _ (List.mem_append_right _ (List.mem_append_left _ h0_))) tyX12 tyX12_ok nmX12 hown hK hI hS i_h0.1 k_87 rfl 16 (by decide) (hts (.fieldLink RX12 180 "DeadlineShareModel" "worth" "J") (List.mem_cons_of_mem _ (List.mem_append_left _ (List.mem_of_getElem? (i := 3) rfl)))) (fun _ h9 => h9) rfl (by decide +kernel) rfl rfl (Nat.le_of_ble_eq_true rfl) rfl (cl_12 i_h0 (by omega) (by omega) (by omega)) dX12_next_319 (fun f_106 H locs e_107 hI hS => ?_)
                                have k_109 : f_106 h0 = .inr (12, [.int z0, .int z1, .ref (gr g h0 2), .ref (gr g h0 3), .ref (gr g h0 4), .ref (gr g h0 5), .ref (gr g h0 6), .ref (gr g h0 7), .ref (gr g h0 8), .ref (gr g h0 9), .int z10, .ref (gr g h0 11), .int z12, .int y_6, .int y_85, .int y_23, .long y_105, .int z17, .int z18, .ref (gr g h0 19), .ref (gr g h0 20), .ref (gr g h0 21), .ref (gr g h0 22), .int z23, .long z24, .long z25, .long z26]) := by rw [e_107]; exact va_up_self _ _ _
                                have k_110 : f_106 (gr g h0 11) = .inl (gc g 0, 200, .inl q_100) := by rw [e_107, va_up_ne _ _ (ik_ne i_98 i_h0 (by decide))]; exact k_99
                                have kp_108 := Kp.put kp_88 i_h0 (by decide) e_107
                                refine lv_aload_n hx hb dX12_next_322 rfl (lv_at hl 0 rfl) ?_
                                refine lv_dup hx hb dX12_next_323 rfl ?_
                                refine k_get (ci := 12) (v := .int y_85) (C := RX12) (T := TX12) (N := 27) hx hb hts (fun _ h0_ => List.mem_cons_of_mem _ (List.mem_append_right _ (List.mem_append_left _ h0_))) hown hK hI i_h0.1 k_109 rfl 14 (by decide) (hts (.fieldLink RX12 174 "DeadlineShareModel" "to" "I") (List.mem_cons_of_mem _ (List.mem_append_left _ (List.mem_of_getElem? (i := 0) rfl)))) (fun _ h9 => h9) rfl dX12_next_324 ?_
                                refine lv_iconst (v := 1) hx hb dX12_next_327 (by decide) ?_
                                refine lv_iadd hx hb dX12_next_328 ?_
                                refine lv_topi (fun v_111 ev_111 => ?_)
                                have tv_111 := k_ad y_85 1
                                rw [← ev_111, show Int32.toInt 1 = 1 from by decide] at tv_111
                                refine k_put (ci := 12) (v := .int v_111) (ty := .int) (C := RX12) (T := TX12) (N := 27) hx hb hts (fun _ h0_ => List.mem_cons_of_mem _ (List.mem_append_right _ (List.mem_append_left _ h0_))) tyX12 tyX12_ok nmX12 hown hK hI hS i_h0.1 k_109 rfl 14 (by decide) (hts (.fieldLink RX12 174 "DeadlineShareModel" "to" "I") (List.mem_cons_of_mem _ (List.mem_append_left _ (List.mem_of_getElem? (i := 0) rfl)))) (fun _ h9 => h9) rfl (by decide +kernel) rfl rfl (Nat.le_of_ble_eq_true rfl) rfl (cl_12 i_h0 (by omega) (by omega) (by omega)) dX12_next_329 (fun f_112 H locs e_113 hI hS => ?_)
                                have k_115 : f_112 h0 = .inr (12, [.int z0, .int z1, .ref (gr g h0 2), .ref (gr g h0 3), .ref (gr g h0 4), .ref (gr g h0 5), .ref (gr g h0 6), .ref (gr g h0 7), .ref (gr g h0 8), .ref (gr g h0 9), .int z10, .ref (gr g h0 11), .int z12, .int y_6, .int v_111, .int y_23, .long y_105, .int z17, .int z18, .ref (gr g h0 19), .ref (gr g h0 20), .ref (gr g h0 21), .ref (gr g h0 22), .int z23, .long z24, .long z25, .long z26]) := by rw [e_113]; exact va_up_self _ _ _
                                have k_116 : f_112 (gr g h0 11) = .inl (gc g 0, 200, .inl q_100) := by rw [e_113, va_up_ne _ _ (ik_ne i_98 i_h0 (by decide))]; exact k_110
                                have kp_114 := Kp.put kp_108 i_h0 (by decide) e_113
                                refine lv_goto (tgt := 243) hx hb dX12_next_332 (by decide) ?_
                                exact ih_243 v_111 y_105 f_112 _ _ _ (by omega) hI hS k_115 kp_114 (by first | omega | decide | exact Or.inl (by decide)) (lv_sub hl [0] rfl)
                              refine lv_if_le (tgt := 296) hx hb dX12_next_286 (by decide) (fun c_117 => ?_) (fun c_117 => ?_)
                              · have c_117 := lc_le rfl (by decide : Int64.toInt 1000000 = 1000000) ((lg_cmp_le _ _).mp c_117)
                                refine lv_aload_n hx hb dX12_next_296 rfl (lv_at hl 0 rfl) ?_
                                refine k_get (ci := 12) (v := .long y_86) (C := RX12) (T := TX12) (N := 27) hx hb hts (fun _ h0_ => List.mem_cons_of_mem _ (List.mem_append_right _ (List.mem_append_left _ h0_))) hown hK hI i_h0.1 k_87 rfl 16 (by decide) (hts (.fieldLink RX12 180 "DeadlineShareModel" "worth" "J") (List.mem_cons_of_mem _ (List.mem_append_left _ (List.mem_of_getElem? (i := 3) rfl)))) (fun _ h9 => h9) rfl dX12_next_297 ?_
                                refine lv_ldc2 hx hb hown (hts (.constantLong RX12 197 (10)) (List.mem_cons_of_mem _ (List.mem_append_left _ (List.mem_of_getElem? (i := 10) rfl)))) dX12_next_300 ?_
                                refine lv_lmul hx hb dX12_next_303 ?_
                                refine lv_topl (fun v_118 ev_118 => ?_)
                                refine lv_aload_n hx hb dX12_next_304 rfl (lv_at hl 0 rfl) ?_
                                refine k_get (ci := 12) (v := .ref (gr g h0 11)) (C := RX12) (T := TX12) (N := 27) hx hb hts (fun _ h0_ => List.mem_cons_of_mem _ (List.mem_append_right _ (List.mem_append_left _ h0_))) hown hK hI i_h0.1 k_87 rfl 11 (by decide) (hts (.fieldLink RX12 36 "DeadlineShareModel" "tape" "[I") (List.mem_cons_of_mem _ (List.mem_append_left _ (List.mem_of_getElem? (i := 5) rfl)))) (fun _ h9 => h9) rfl dX12_next_305 ?_
                                refine lv_aload_n hx hb dX12_next_308 rfl (lv_at hl 0 rfl) ?_
                                refine k_get (ci := 12) (v := .int y_85) (C := RX12) (T := TX12) (N := 27) hx hb hts (fun _ h0_ => List.mem_cons_of_mem _ (List.mem_append_right _ (List.mem_append_left _ h0_))) hown hK hI i_h0.1 k_87 rfl 14 (by decide) (hts (.fieldLink RX12 174 "DeadlineShareModel" "to" "I") (List.mem_cons_of_mem _ (List.mem_append_left _ (List.mem_of_getElem? (i := 0) rfl)))) (fun _ h9 => h9) rfl dX12_next_309 ?_
                                refine k_iald hx hb hK hI i_98.1 0 k_99 rfl (vp_in_iff.mpr (by omega)) dX12_next_312 ?_
                                refine lv_topi (fun v_121 ev_121 => ?_)
                                refine lv_i2l (v := v_121.toInt64) hx hb dX12_next_313 rfl ?_
                                have t_122 := Int32.toInt_toInt64 v_121
                                refine lv_ladd hx hb dX12_next_314 ?_
                                refine lv_topl (fun v_123 ev_123 => ?_)
                                have tv_123 := l_ad v_118 v_121.toInt64
                                rw [← ev_123] at tv_123
                                refine lv_ldc2 hx hb hown (hts (.constantLong RX12 199 (48)) (List.mem_cons_of_mem _ (List.mem_append_left _ (List.mem_of_getElem? (i := 11) rfl)))) dX12_next_315 ?_
                                refine lv_lsub hx hb dX12_next_318 ?_
                                refine lv_topl (fun v_124 ev_124 => ?_)
                                have tv_124 := l_sb v_123 48
                                rw [← ev_124, show Int64.toInt 48 = 48 from by decide] at tv_124
                                exact J_319 v_124 _ _ _ hI hS  (lv_sub hl [0] rfl)
                              · have c_117 := ln_le rfl (by decide : Int64.toInt 1000000 = 1000000) (fun h9 => c_117 ((lg_cmp_le _ _).mpr h9))
                                refine lv_aload_n hx hb dX12_next_289 rfl (lv_at hl 0 rfl) ?_
                                refine k_get (ci := 12) (v := .long y_86) (C := RX12) (T := TX12) (N := 27) hx hb hts (fun _ h0_ => List.mem_cons_of_mem _ (List.mem_append_right _ (List.mem_append_left _ h0_))) hown hK hI i_h0.1 k_87 rfl 16 (by decide) (hts (.fieldLink RX12 180 "DeadlineShareModel" "worth" "J") (List.mem_cons_of_mem _ (List.mem_append_left _ (List.mem_of_getElem? (i := 3) rfl)))) (fun _ h9 => h9) rfl dX12_next_290 ?_
                                refine lv_goto (tgt := 319) hx hb dX12_next_293 (by decide) ?_
                                exact J_319 y_86 _ _ _ hI hS  (lv_sub hl [0] rfl)
                    exact K_243 _ y_31 y_32 f_30 _ _ _ (Nat.lt_succ_self _) hI hS k_33 kp_34 (by first | omega | decide | exact Or.inl (by decide)) (lv_sub hl [0] rfl)
                  · have c_83 := kn_le rfl rfl c_83
                    refine lv_aload_n hx hb dX12_next_168 rfl (lv_at hl 0 rfl) ?_
                    refine k_get (ci := 12) (v := .ref (gr g h0 11)) (C := RX12) (T := TX12) (N := 27) hx hb hts (fun _ h0_ => List.mem_cons_of_mem _ (List.mem_append_right _ (List.mem_append_left _ h0_))) hown hK hI i_h0.1 k_33 rfl 11 (by decide) (hts (.fieldLink RX12 36 "DeadlineShareModel" "tape" "[I") (List.mem_cons_of_mem _ (List.mem_append_left _ (List.mem_of_getElem? (i := 5) rfl)))) (fun _ h9 => h9) rfl dX12_next_169 ?_
                    have i_126 := kw_12_11 hG i_h0
                    refine lv_aload_n hx hb dX12_next_172 rfl (lv_at hl 0 rfl) ?_
                    refine k_get (ci := 12) (v := .int y_31) (C := RX12) (T := TX12) (N := 27) hx hb hts (fun _ h0_ => List.mem_cons_of_mem _ (List.mem_append_right _ (List.mem_append_left _ h0_))) hown hK hI i_h0.1 k_33 rfl 14 (by decide) (hts (.fieldLink RX12 174 "DeadlineShareModel" "to" "I") (List.mem_cons_of_mem _ (List.mem_append_left _ (List.mem_of_getElem? (i := 0) rfl)))) (fun _ h9 => h9) rfl dX12_next_173 ?_
                    obtain ⟨q_128, k_127⟩ := op_38 hI i_126
                    refine k_iald hx hb hK hI i_126.1 0 k_127 rfl (vp_in_iff.mpr (by omega)) dX12_next_176 ?_
                    refine lv_topi (fun v_129 ev_129 => ?_)
                    refine va_calli (va_runS (As := [.int v_129]) (rest := []) ⟨hx, hb, hml, hown, hts⟩ (c_X12_isSmall l dC dI g A hG f_30 v_129) (va_cwS 1 hts (gi_S (fun w_ h0_ => ⟨List.mem_cons_of_mem _ (List.mem_append_right _ (List.mem_append_right _ (List.mem_append_right _ (List.mem_append_left _ h0_)))), (tb_c_X12_isSmall w_ h0_).2⟩) (List.mem_cons_of_mem _ (List.mem_append_left _ (List.mem_of_getElem? (i := 12) rfl))) (List.mem_cons_of_mem _ (List.mem_append_left _ (List.mem_of_getElem? (i := 13) rfl))) (List.mem_cons_of_mem _ (List.mem_append_left _ (List.mem_of_getElem? (i := 8) rfl)))) rfl rfl rfl (by decide +kernel) ⟨Nat.le_of_ble_eq_true rfl, Nat.le_of_ble_eq_true rfl⟩) ⟨fun a U g mk q => ⟨q.1, q.2.calling rfl rfl⟩, fun U hU hW => ⟨rfl, kIn.of hI hK hE hS hU hW⟩⟩ rfl rfl hl.1 rfl (lv_room (Nat.le_of_ble_eq_true rfl)) dX12_next_177 ⟨Nat.le_of_ble_eq_true rfl, Nat.le_of_ble_eq_true rfl⟩) hS (fun q _ h => h) (fun q h => h) (fun r_131 u t H1 locs ht hvm w_130 hB hz1 hk1 hS => ?_)
                    have hI : Iv dC dI g A f_30 t.heap := hB
                    rw [ht] at hI
                    generalize H1 = H at hI hS ⊢
                    refine W.widen (k := 0) (n := 0) (Nat.le_of_ble_eq_true rfl) (Nat.le_of_ble_eq_true rfl) ?_
                    refine lv_if_eq (tgt := 243) hx hb dX12_next_180 (by decide) (fun c_132 => ?_) (fun c_132 => ?_)
                    · have c_132 := kc_eq rfl (by decide : Int32.toInt 0 = 0) c_132
                      have K_243 : ∀ (nn : Nat) (y_134 : Int32) (y_135 : Int64) (f_133 : Nat → va_E) (H : Heap) (locs : List Loc) (ls : Array Slot), (z12.toInt - y_134.toInt).toNat < nn → Iv dC dI g A f_133 H → va_S A s.heap H locs → f_133 h0 = .inr (12, [.int z0, .int z1, .ref (gr g h0 2), .ref (gr g h0 3), .ref (gr g h0 4), .ref (gr g h0 5), .ref (gr g h0 6), .ref (gr g h0 7), .ref (gr g h0 8), .ref (gr g h0 9), .int z10, .ref (gr g h0 11), .int z12, .int y_6, .int y_134, .int y_23, .long y_135, .int z17, .int z18, .ref (gr g h0 19), .ref (gr g h0 20), .ref (gr g h0 21), .ref (gr g h0 22), .int z23, .long z24, .long z25, .long z26]) → f_133 (gr g h0 11) = .inl (gc g 0, 200, .inl q_128) → Kp g [12] f f_133 → (0 ≤ y_134.toInt ∧ y_134.toInt ≤ z12.toInt) → lv_has ls 1 [(0, .ref h0)] → W p l e (headSpec wq_c_X12_next ({ frames := 1, cells := 0, slots := 0, locals := 20 } : Room)).room s m ([.ref h0].toArray) below meth c H locs 0 0 (MQ below (va_Qv (fun (_ : Unit) => True) (fun (_ : Unit) t => ∃ f1 : Nat → va_E, Iv dC dI g A f1 t.heap ∧ Kp g [12] f f1 ∧ ∃ (w13 : Int32) (w14 : Int32) (w15 : Int32) (w16 : Int64), (f1 h0 = .inr (12, [.int z0, .int z1, .ref (gr g h0 2), .ref (gr g h0 3), .ref (gr g h0 4), .ref (gr g h0 5), .ref (gr g h0 6), .ref (gr g h0 7), .ref (gr g h0 8), .ref (gr g h0 9), .int z10, .ref (gr g h0 11), .int z12, .int w13, .int w14, .int w15, .long w16, .int z17, .int z18, .ref (gr g h0 19), .ref (gr g h0 20), .ref (gr g h0 21), .ref (gr g h0 22), .int z23, .long z24, .long z25, .long z26])) ∧ (0 ≤ w14.toInt ∧ w14.toInt ≤ z12.toInt)) A) ([.ref h0].toArray) s 0 0 A) (F0 m 243 ls []) := by
                        intro nn_243
                        induction nn_243 with
                        | zero => intro y_134 y_135 f_133 H locs ls m_140; exact absurd m_140 (Nat.not_lt_zero _)
                        | succ nn_243 ih_243 =>
                          intro y_134 y_135 f_133 H locs ls m_140 hI hS k_136 k_137 kp_138 t_139 hl
                          have g_141 := Int32.toInt_lt y_134
                          have g_142 := Int32.le_toInt y_134
                          have g_143 := Int32.toInt_lt z12
                          have g_144 := Int32.le_toInt z12
                          refine lv_aload_n hx hb dX12_next_243 rfl (lv_at hl 0 rfl) ?_
                          refine k_get (ci := 12) (v := .int y_23) (C := RX12) (T := TX12) (N := 27) hx hb hts (fun _ h0_ => List.mem_cons_of_mem _ (List.mem_append_right _ (List.mem_append_left _ h0_))) hown hK hI i_h0.1 k_136 rfl 15 (by decide) (hts (.fieldLink RX12 190 "DeadlineShareModel" "sort" "I") (List.mem_cons_of_mem _ (List.mem_append_left _ (List.mem_of_getElem? (i := 4) rfl)))) (fun _ h9 => h9) rfl dX12_next_244 ?_
                          refine lv_iconst (v := 2) hx hb dX12_next_247 (by decide) ?_
                          refine lv_icmp_ne (tgt := 335) hx hb dX12_next_248 (by decide) (fun c_145 => ?_) (fun c_145 => ?_)
                          · have c_145 := kn_eq rfl (by decide : Int32.toInt 2 = 2) c_145
                            exact W.vret hx hb hr (fun t ht hW => ⟨⟨(), rfl, trivial, ⟨f_133, k_ret ht hI, kp_138, y_6, y_134, y_23, y_135, k_136, (by first | omega | decide)⟩⟩, hS.F ht⟩) hS.2.2 dX12_next_335
                          · have c_145 := kc_eq rfl (by decide : Int32.toInt 2 = 2) c_145
                            refine lv_aload_n hx hb dX12_next_251 rfl (lv_at hl 0 rfl) ?_
                            refine k_get (ci := 12) (v := .int y_134) (C := RX12) (T := TX12) (N := 27) hx hb hts (fun _ h0_ => List.mem_cons_of_mem _ (List.mem_append_right _ (List.mem_append_left _ h0_))) hown hK hI i_h0.1 k_136 rfl 14 (by decide) (hts (.fieldLink RX12 174 "DeadlineShareModel" "to" "I") (List.mem_cons_of_mem _ (List.mem_append_left _ (List.mem_of_getElem? (i := 0) rfl)))) (fun _ h9 => h9) rfl dX12_next_252 ?_
                            refine lv_aload_n hx hb dX12_next_255 rfl (lv_at hl 0 rfl) ?_
                            refine k_get (ci := 12) (v := .int z12) (C := RX12) (T := TX12) (N := 27) hx hb hts (fun _ h0_ => List.mem_cons_of_mem _ (List.mem_append_right _ (List.mem_append_left _ h0_))) hown hK hI i_h0.1 k_136 rfl 12 (by decide) (hts (.fieldLink RX12 128 "DeadlineShareModel" "taped" "I") (List.mem_cons_of_mem _ (List.mem_append_left _ (List.mem_of_getElem? (i := 2) rfl)))) (fun _ h9 => h9) rfl dX12_next_256 ?_
                            refine lv_icmp_ge (tgt := 335) hx hb dX12_next_259 (by decide) (fun c_146 => ?_) (fun c_146 => ?_)
                            · have c_146 := kc_le rfl rfl c_146
                              exact W.vret hx hb hr (fun t ht hW => ⟨⟨(), rfl, trivial, ⟨f_133, k_ret ht hI, kp_138, y_6, y_134, y_23, y_135, k_136, (by first | omega | decide)⟩⟩, hS.F ht⟩) hS.2.2 dX12_next_335
                            · have c_146 := kn_le rfl rfl c_146
                              refine lv_aload_n hx hb dX12_next_262 rfl (lv_at hl 0 rfl) ?_
                              refine k_get (ci := 12) (v := .ref (gr g h0 11)) (C := RX12) (T := TX12) (N := 27) hx hb hts (fun _ h0_ => List.mem_cons_of_mem _ (List.mem_append_right _ (List.mem_append_left _ h0_))) hown hK hI i_h0.1 k_136 rfl 11 (by decide) (hts (.fieldLink RX12 36 "DeadlineShareModel" "tape" "[I") (List.mem_cons_of_mem _ (List.mem_append_left _ (List.mem_of_getElem? (i := 5) rfl)))) (fun _ h9 => h9) rfl dX12_next_263 ?_
                              refine lv_aload_n hx hb dX12_next_266 rfl (lv_at hl 0 rfl) ?_
                              refine k_get (ci := 12) (v := .int y_134) (C := RX12) (T := TX12) (N := 27) hx hb hts (fun _ h0_ => List.mem_cons_of_mem _ (List.mem_append_right _ (List.mem_append_left _ h0_))) hown hK hI i_h0.1 k_136 rfl 14 (by decide) (hts (.fieldLink RX12 174 "DeadlineShareModel" "to" "I") (List.mem_cons_of_mem _ (List.mem_append_left _ (List.mem_of_getElem? (i := 0) rfl)))) (fun _ h9 => h9) rfl dX12_next_267 ?_
                              refine k_iald hx hb hK hI i_126.1 0 k_137 rfl (vp_in_iff.mpr (by omega)) dX12_next_270 ?_
                              refine lv_topi (fun v_149 ev_149 => ?_)
                              refine va_calli (va_runS (As := [.int v_149]) (rest := []) ⟨hx, hb, hml, hown, hts⟩ (c_X12_isDigit l dC dI g A hG f_133 v_149) (va_cwS 1 hts (gi_S (fun w_ h0_ => ⟨List.mem_cons_of_mem _ (List.mem_append_right _ (List.mem_append_right _ (List.mem_append_left _ h0_))), (tb_c_X12_isDigit w_ h0_).2⟩) (List.mem_cons_of_mem _ (List.mem_append_left _ (List.mem_of_getElem? (i := 6) rfl))) (List.mem_cons_of_mem _ (List.mem_append_left _ (List.mem_of_getElem? (i := 7) rfl))) (List.mem_cons_of_mem _ (List.mem_append_left _ (List.mem_of_getElem? (i := 8) rfl)))) rfl rfl rfl (by decide +kernel) ⟨Nat.le_of_ble_eq_true rfl, Nat.le_of_ble_eq_true rfl⟩) ⟨fun a U g mk q => ⟨q.1, q.2.calling rfl rfl⟩, fun U hU hW => ⟨rfl, kIn.of hI hK hE hS hU hW⟩⟩ rfl rfl hl.1 rfl (lv_room (Nat.le_of_ble_eq_true rfl)) dX12_next_271 ⟨Nat.le_of_ble_eq_true rfl, Nat.le_of_ble_eq_true rfl⟩) hS (fun q _ h => h) (fun q h => h) (fun r_151 u t H1 locs ht hvm w_150 hB hz1 hk1 hS => ?_)
                              have hI : Iv dC dI g A f_133 t.heap := hB
                              rw [ht] at hI
                              generalize H1 = H at hI hS ⊢
                              refine W.widen (k := 0) (n := 0) (Nat.le_of_ble_eq_true rfl) (Nat.le_of_ble_eq_true rfl) ?_
                              refine lv_if_eq (tgt := 335) hx hb dX12_next_274 (by decide) (fun c_152 => ?_) (fun c_152 => ?_)
                              · have c_152 := kc_eq rfl (by decide : Int32.toInt 0 = 0) c_152
                                exact W.vret hx hb hr (fun t ht hW => ⟨⟨(), rfl, trivial, ⟨f_133, k_ret ht hI, kp_138, y_6, y_134, y_23, y_135, k_136, (by first | omega | decide)⟩⟩, hS.F ht⟩) hS.2.2 dX12_next_335
                              · have c_152 := kn_eq rfl (by decide : Int32.toInt 0 = 0) c_152
                                refine lv_aload_n hx hb dX12_next_277 rfl (lv_at hl 0 rfl) ?_
                                refine lv_aload_n hx hb dX12_next_278 rfl (lv_at hl 0 rfl) ?_
                                refine k_get (ci := 12) (v := .long y_135) (C := RX12) (T := TX12) (N := 27) hx hb hts (fun _ h0_ => List.mem_cons_of_mem _ (List.mem_append_right _ (List.mem_append_left _ h0_))) hown hK hI i_h0.1 k_136 rfl 16 (by decide) (hts (.fieldLink RX12 180 "DeadlineShareModel" "worth" "J") (List.mem_cons_of_mem _ (List.mem_append_left _ (List.mem_of_getElem? (i := 3) rfl)))) (fun _ h9 => h9) rfl dX12_next_279 ?_
                                refine lv_ldc2 hx hb hown (hts (.constantLong RX12 126 (1000000)) (List.mem_cons_of_mem _ (List.mem_append_left _ (List.mem_of_getElem? (i := 9) rfl)))) dX12_next_282 ?_
                                refine W.lcmp hx hb dX12_next_285 ?_
                                have J_319 : ∀ (y_153 : Int64) (H : Heap) (locs : List Loc) (ls : Array Slot), Iv dC dI g A f_133 H → va_S A s.heap H locs → lv_has ls 1 [(0, .ref h0)] → W p l e (headSpec wq_c_X12_next ({ frames := 1, cells := 0, slots := 0, locals := 20 } : Room)).room s m ([.ref h0].toArray) below meth c H locs 0 0 (MQ below (va_Qv (fun (_ : Unit) => True) (fun (_ : Unit) t => ∃ f1 : Nat → va_E, Iv dC dI g A f1 t.heap ∧ Kp g [12] f f1 ∧ ∃ (w13 : Int32) (w14 : Int32) (w15 : Int32) (w16 : Int64), (f1 h0 = .inr (12, [.int z0, .int z1, .ref (gr g h0 2), .ref (gr g h0 3), .ref (gr g h0 4), .ref (gr g h0 5), .ref (gr g h0 6), .ref (gr g h0 7), .ref (gr g h0 8), .ref (gr g h0 9), .int z10, .ref (gr g h0 11), .int z12, .int w13, .int w14, .int w15, .long w16, .int z17, .int z18, .ref (gr g h0 19), .ref (gr g h0 20), .ref (gr g h0 21), .ref (gr g h0 22), .int z23, .long z24, .long z25, .long z26])) ∧ (0 ≤ w14.toInt ∧ w14.toInt ≤ z12.toInt)) A) ([.ref h0].toArray) s 0 0 A) (F0 m 319 ls [.long y_153, .ref h0]) := by
                                  intro y_153 H locs ls hI hS  hl
                                  refine k_put (ci := 12) (v := .long y_153) (ty := .long) (C := RX12) (T := TX12) (N := 27) hx hb hts (fun _ h0_ => List.mem_cons_of_mem _ (List.mem_append_right _ (List.mem_append_left _ h0_))) tyX12 tyX12_ok nmX12 hown hK hI hS i_h0.1 k_136 rfl 16 (by decide) (hts (.fieldLink RX12 180 "DeadlineShareModel" "worth" "J") (List.mem_cons_of_mem _ (List.mem_append_left _ (List.mem_of_getElem? (i := 3) rfl)))) (fun _ h9 => h9) rfl (by decide +kernel) rfl rfl (Nat.le_of_ble_eq_true rfl) rfl (cl_12 i_h0 (by omega) (by omega) (by omega)) dX12_next_319 (fun f_154 H locs e_155 hI hS => ?_)
                                  have k_157 : f_154 h0 = .inr (12, [.int z0, .int z1, .ref (gr g h0 2), .ref (gr g h0 3), .ref (gr g h0 4), .ref (gr g h0 5), .ref (gr g h0 6), .ref (gr g h0 7), .ref (gr g h0 8), .ref (gr g h0 9), .int z10, .ref (gr g h0 11), .int z12, .int y_6, .int y_134, .int y_23, .long y_153, .int z17, .int z18, .ref (gr g h0 19), .ref (gr g h0 20), .ref (gr g h0 21), .ref (gr g h0 22), .int z23, .long z24, .long z25, .long z26]) := by rw [e_155]; exact va_up_self _ _ _
                                  have k_158 : f_154 (gr g h0 11) = .inl (gc g 0, 200, .inl q_128) := by rw [e_155, va_up_ne _ _ (ik_ne i_126 i_h0 (by decide))]; exact k_137
                                  have kp_156 := Kp.put kp_138 i_h0 (by decide) e_155
                                  refine lv_aload_n hx hb dX12_next_322 rfl (lv_at hl 0 rfl) ?_
                                  refine lv_dup hx hb dX12_next_323 rfl ?_
                                  refine k_get (ci := 12) (v := .int y_134) (C := RX12) (T := TX12) (N := 27) hx hb hts (fun _ h0_ => List.mem_cons_of_mem _ (List.mem_append_right _ (List.mem_append_left _ h0_))) hown hK hI i_h0.1 k_157 rfl 14 (by decide) (hts (.fieldLink RX12 174 "DeadlineShareModel" "to" "I") (List.mem_cons_of_mem _ (List.mem_append_left _ (List.mem_of_getElem? (i := 0) rfl)))) (fun _ h9 => h9) rfl dX12_next_324 ?_
                                  refine lv_iconst (v := 1) hx hb dX12_next_327 (by decide) ?_
                                  refine lv_iadd hx hb dX12_next_328 ?_
                                  refine lv_topi (fun v_159 ev_159 => ?_)
                                  have tv_159 := k_ad y_134 1
                                  rw [← ev_159, show Int32.toInt 1 = 1 from by decide] at tv_159
                                  refine k_put (ci := 12) (v := .int v_159) (ty := .int) (C := RX12) (T := TX12) (N := 27) hx hb hts (fun _ h0_ => List.mem_cons_of_mem _ (List.mem_append_right _ (List.mem_append_left _ h0_))) tyX12 tyX12_ok nmX12 hown hK hI hS i_h0.1 k_157 rfl 14 (by decide) (hts (.fieldLink RX12 174 "DeadlineShareModel" "to" "I") (List.mem_cons_of_mem _ (List.mem_append_left _ (List.mem_of_getElem? (i := 0) rfl)))) (fun _ h9 => h9) rfl (by decide +kernel) rfl rfl (Nat.le_of_ble_eq_true rfl) rfl (cl_12 i_h0 (by omega) (by omega) (by omega)) dX12_next_329 (fun f_160 H locs e_161 hI hS => ?_)
                                  have k_163 : f_160 h0 = .inr (12, [.int z0, .int z1, .ref (gr g h0 2), .ref (gr g h0 3), .ref (gr g h0 4), .ref (gr g h0 5), .ref (gr g h0 6), .ref (gr g h0 7), .ref (gr g h0 8), .ref (gr g h0 9), .int z10, .ref (gr g h0 11), .int z12, .int y_6, .int v_159, .int y_23, .long y_153, .int z17, .int z18, .ref (gr g h0 19), .ref (gr g h0 20), .ref (gr g h0 21), .ref (gr g h0 22), .int z23, .long z24, .long z25, .long z26]) := by rw [e_161]; exact va_up_self _ _ _
                                  have k_164 : f_160 (gr g h0 11) = .inl (gc g 0, 200, .inl q_128) := by rw [e_161, va_up_ne _ _ (ik_ne i_126 i_h0 (by decide))]; exact k_158
                                  have kp_162 := Kp.put kp_156 i_h0 (by decide) e_161
                                  refine lv_goto (tgt := 243) hx hb dX12_next_332 (by decide) ?_
                                  exact ih_243 v_159 y_153 f_160 _ _ _ (by omega) hI hS k_163 k_164 kp_162 (by first | omega | decide | exact Or.inl (by decide)) (lv_sub hl [0] rfl)
                                refine lv_if_le (tgt := 296) hx hb dX12_next_286 (by decide) (fun c_165 => ?_) (fun c_165 => ?_)
                                · have c_165 := lc_le rfl (by decide : Int64.toInt 1000000 = 1000000) ((lg_cmp_le _ _).mp c_165)
                                  refine lv_aload_n hx hb dX12_next_296 rfl (lv_at hl 0 rfl) ?_
                                  refine k_get (ci := 12) (v := .long y_135) (C := RX12) (T := TX12) (N := 27) hx hb hts (fun _ h0_ => List.mem_cons_of_mem _ (List.mem_append_right _ (List.mem_append_left _ h0_))) hown hK hI i_h0.1 k_136 rfl 16 (by decide) (hts (.fieldLink RX12 180 "DeadlineShareModel" "worth" "J") (List.mem_cons_of_mem _ (List.mem_append_left _ (List.mem_of_getElem? (i := 3) rfl)))) (fun _ h9 => h9) rfl dX12_next_297 ?_
                                  refine lv_ldc2 hx hb hown (hts (.constantLong RX12 197 (10)) (List.mem_cons_of_mem _ (List.mem_append_left _ (List.mem_of_getElem? (i := 10) rfl)))) dX12_next_300 ?_
                                  refine lv_lmul hx hb dX12_next_303 ?_
                                  refine lv_topl (fun v_166 ev_166 => ?_)
                                  refine lv_aload_n hx hb dX12_next_304 rfl (lv_at hl 0 rfl) ?_
                                  refine k_get (ci := 12) (v := .ref (gr g h0 11)) (C := RX12) (T := TX12) (N := 27) hx hb hts (fun _ h0_ => List.mem_cons_of_mem _ (List.mem_append_right _ (List.mem_append_left _ h0_))) hown hK hI i_h0.1 k_136 rfl 11 (by decide) (hts (.fieldLink RX12 36 "DeadlineShareModel" "tape" "[I") (List.mem_cons_of_mem _ (List.mem_append_left _ (List.mem_of_getElem? (i := 5) rfl)))) (fun _ h9 => h9) rfl dX12_next_305 ?_
                                  refine lv_aload_n hx hb dX12_next_308 rfl (lv_at hl 0 rfl) ?_
                                  refine k_get (ci := 12) (v := .int y_134) (C := RX12) (T := TX12) (N := 27) hx hb hts (fun _ h0_ => List.mem_cons_of_mem _ (List.mem_append_right _ (List.mem_append_left _ h0_))) hown hK hI i_h0.1 k_136 rfl 14 (by decide) (hts (.fieldLink RX12 174 "DeadlineShareModel" "to" "I") (List.mem_cons_of_mem _ (List.mem_append_left _ (List.mem_of_getElem? (i := 0) rfl)))) (fun _ h9 => h9) rfl dX12_next_309 ?_
                                  refine k_iald hx hb hK hI i_126.1 0 k_137 rfl (vp_in_iff.mpr (by omega)) dX12_next_312 ?_
                                  refine lv_topi (fun v_169 ev_169 => ?_)
                                  refine lv_i2l (v := v_169.toInt64) hx hb dX12_next_313 rfl ?_
                                  have t_170 := Int32.toInt_toInt64 v_169
                                  refine lv_ladd hx hb dX12_next_314 ?_
                                  refine lv_topl (fun v_171 ev_171 => ?_)
                                  have tv_171 := l_ad v_166 v_169.toInt64
                                  rw [← ev_171] at tv_171
                                  refine lv_ldc2 hx hb hown (hts (.constantLong RX12 199 (48)) (List.mem_cons_of_mem _ (List.mem_append_left _ (List.mem_of_getElem? (i := 11) rfl)))) dX12_next_315 ?_
                                  refine lv_lsub hx hb dX12_next_318 ?_
                                  refine lv_topl (fun v_172 ev_172 => ?_)
                                  have tv_172 := l_sb v_171 48
                                  rw [← ev_172, show Int64.toInt 48 = 48 from by decide] at tv_172
                                  exact J_319 v_172 _ _ _ hI hS  (lv_sub hl [0] rfl)
                                · have c_165 := ln_le rfl (by decide : Int64.toInt 1000000 = 1000000) (fun h9 => c_165 ((lg_cmp_le _ _).mpr h9))
                                  refine lv_aload_n hx hb dX12_next_289 rfl (lv_at hl 0 rfl) ?_
                                  refine k_get (ci := 12) (v := .long y_135) (C := RX12) (T := TX12) (N := 27) hx hb hts (fun _ h0_ => List.mem_cons_of_mem _ (List.mem_append_right _ (List.mem_append_left _ h0_))) hown hK hI i_h0.1 k_136 rfl 16 (by decide) (hts (.fieldLink RX12 180 "DeadlineShareModel" "worth" "J") (List.mem_cons_of_mem _ (List.mem_append_left _ (List.mem_of_getElem? (i := 3) rfl)))) (fun _ h9 => h9) rfl dX12_next_290 ?_
                                  refine lv_goto (tgt := 319) hx hb dX12_next_293 (by decide) ?_
                                  exact J_319 y_135 _ _ _ hI hS  (lv_sub hl [0] rfl)
                      exact K_243 _ y_31 y_32 f_30 _ _ _ (Nat.lt_succ_self _) hI hS k_33 k_127 kp_34 (by first | omega | decide | exact Or.inl (by decide)) (lv_sub hl [0] rfl)
                    · have c_132 := kn_eq rfl (by decide : Int32.toInt 0 = 0) c_132
                      refine lv_aload_n hx hb dX12_next_183 rfl (lv_at hl 0 rfl) ?_
                      refine lv_aload_n hx hb dX12_next_184 rfl (lv_at hl 0 rfl) ?_
                      refine k_get (ci := 12) (v := .int y_31) (C := RX12) (T := TX12) (N := 27) hx hb hts (fun _ h0_ => List.mem_cons_of_mem _ (List.mem_append_right _ (List.mem_append_left _ h0_))) hown hK hI i_h0.1 k_33 rfl 14 (by decide) (hts (.fieldLink RX12 174 "DeadlineShareModel" "to" "I") (List.mem_cons_of_mem _ (List.mem_append_left _ (List.mem_of_getElem? (i := 0) rfl)))) (fun _ h9 => h9) rfl dX12_next_185 ?_
                      refine lv_aload_n hx hb dX12_next_188 rfl (lv_at hl 0 rfl) ?_
                      refine k_get (ci := 12) (v := .int y_6) (C := RX12) (T := TX12) (N := 27) hx hb hts (fun _ h0_ => List.mem_cons_of_mem _ (List.mem_append_right _ (List.mem_append_left _ h0_))) hown hK hI i_h0.1 k_33 rfl 13 (by decide) (hts (.fieldLink RX12 177 "DeadlineShareModel" "from" "I") (List.mem_cons_of_mem _ (List.mem_append_left _ (List.mem_of_getElem? (i := 1) rfl)))) (fun _ h9 => h9) rfl dX12_next_189 ?_
                      refine lv_isub hx hb dX12_next_192 ?_
                      refine lv_topi (fun v_173 ev_173 => ?_)
                      have tv_173 := k_sb y_31 y_6
                      rw [← ev_173] at tv_173
                      refine lv_bipush (v := 10) hx hb dX12_next_193 (by decide) ?_
                      have J_227 : ∀ (y_174 : Int64) (H : Heap) (locs : List Loc) (ls : Array Slot), Iv dC dI g A f_30 H → va_S A s.heap H locs → lv_has ls 1 [(0, .ref h0)] → W p l e (headSpec wq_c_X12_next ({ frames := 1, cells := 0, slots := 0, locals := 20 } : Room)).room s m ([.ref h0].toArray) below meth c H locs 0 0 (MQ below (va_Qv (fun (_ : Unit) => True) (fun (_ : Unit) t => ∃ f1 : Nat → va_E, Iv dC dI g A f1 t.heap ∧ Kp g [12] f f1 ∧ ∃ (w13 : Int32) (w14 : Int32) (w15 : Int32) (w16 : Int64), (f1 h0 = .inr (12, [.int z0, .int z1, .ref (gr g h0 2), .ref (gr g h0 3), .ref (gr g h0 4), .ref (gr g h0 5), .ref (gr g h0 6), .ref (gr g h0 7), .ref (gr g h0 8), .ref (gr g h0 9), .int z10, .ref (gr g h0 11), .int z12, .int w13, .int w14, .int w15, .long w16, .int z17, .int z18, .ref (gr g h0 19), .ref (gr g h0 20), .ref (gr g h0 21), .ref (gr g h0 22), .int z23, .long z24, .long z25, .long z26])) ∧ (0 ≤ w14.toInt ∧ w14.toInt ≤ z12.toInt)) A) ([.ref h0].toArray) s 0 0 A) (F0 m 227 ls [.long y_174, .ref h0]) := by
                        intro y_174 H locs ls hI hS  hl
                        refine k_put (ci := 12) (v := .long y_174) (ty := .long) (C := RX12) (T := TX12) (N := 27) hx hb hts (fun _ h0_ => List.mem_cons_of_mem _ (List.mem_append_right _ (List.mem_append_left _ h0_))) tyX12 tyX12_ok nmX12 hown hK hI hS i_h0.1 k_33 rfl 16 (by decide) (hts (.fieldLink RX12 180 "DeadlineShareModel" "worth" "J") (List.mem_cons_of_mem _ (List.mem_append_left _ (List.mem_of_getElem? (i := 3) rfl)))) (fun _ h9 => h9) rfl (by decide +kernel) rfl rfl (Nat.le_of_ble_eq_true rfl) rfl (cl_12 i_h0 (by omega) (by omega) (by omega)) dX12_next_227 (fun f_175 H locs e_176 hI hS => ?_)
                        have k_178 : f_175 h0 = .inr (12, [.int z0, .int z1, .ref (gr g h0 2), .ref (gr g h0 3), .ref (gr g h0 4), .ref (gr g h0 5), .ref (gr g h0 6), .ref (gr g h0 7), .ref (gr g h0 8), .ref (gr g h0 9), .int z10, .ref (gr g h0 11), .int z12, .int y_6, .int y_31, .int y_23, .long y_174, .int z17, .int z18, .ref (gr g h0 19), .ref (gr g h0 20), .ref (gr g h0 21), .ref (gr g h0 22), .int z23, .long z24, .long z25, .long z26]) := by rw [e_176]; exact va_up_self _ _ _
                        have k_179 : f_175 (gr g h0 11) = .inl (gc g 0, 200, .inl q_128) := by rw [e_176, va_up_ne _ _ (ik_ne i_126 i_h0 (by decide))]; exact k_127
                        have kp_177 := Kp.put kp_34 i_h0 (by decide) e_176
                        refine lv_aload_n hx hb dX12_next_230 rfl (lv_at hl 0 rfl) ?_
                        refine lv_dup hx hb dX12_next_231 rfl ?_
                        refine k_get (ci := 12) (v := .int y_31) (C := RX12) (T := TX12) (N := 27) hx hb hts (fun _ h0_ => List.mem_cons_of_mem _ (List.mem_append_right _ (List.mem_append_left _ h0_))) hown hK hI i_h0.1 k_178 rfl 14 (by decide) (hts (.fieldLink RX12 174 "DeadlineShareModel" "to" "I") (List.mem_cons_of_mem _ (List.mem_append_left _ (List.mem_of_getElem? (i := 0) rfl)))) (fun _ h9 => h9) rfl dX12_next_232 ?_
                        refine lv_iconst (v := 1) hx hb dX12_next_235 (by decide) ?_
                        refine lv_iadd hx hb dX12_next_236 ?_
                        refine lv_topi (fun v_180 ev_180 => ?_)
                        have tv_180 := k_ad y_31 1
                        rw [← ev_180, show Int32.toInt 1 = 1 from by decide] at tv_180
                        refine k_put (ci := 12) (v := .int v_180) (ty := .int) (C := RX12) (T := TX12) (N := 27) hx hb hts (fun _ h0_ => List.mem_cons_of_mem _ (List.mem_append_right _ (List.mem_append_left _ h0_))) tyX12 tyX12_ok nmX12 hown hK hI hS i_h0.1 k_178 rfl 14 (by decide) (hts (.fieldLink RX12 174 "DeadlineShareModel" "to" "I") (List.mem_cons_of_mem _ (List.mem_append_left _ (List.mem_of_getElem? (i := 0) rfl)))) (fun _ h9 => h9) rfl (by decide +kernel) rfl rfl (Nat.le_of_ble_eq_true rfl) rfl (cl_12 i_h0 (by omega) (by omega) (by omega)) dX12_next_237 (fun f_181 H locs e_182 hI hS => ?_)
                        have k_184 : f_181 h0 = .inr (12, [.int z0, .int z1, .ref (gr g h0 2), .ref (gr g h0 3), .ref (gr g h0 4), .ref (gr g h0 5), .ref (gr g h0 6), .ref (gr g h0 7), .ref (gr g h0 8), .ref (gr g h0 9), .int z10, .ref (gr g h0 11), .int z12, .int y_6, .int v_180, .int y_23, .long y_174, .int z17, .int z18, .ref (gr g h0 19), .ref (gr g h0 20), .ref (gr g h0 21), .ref (gr g h0 22), .int z23, .long z24, .long z25, .long z26]) := by rw [e_182]; exact va_up_self _ _ _
                        have k_185 : f_181 (gr g h0 11) = .inl (gc g 0, 200, .inl q_128) := by rw [e_182, va_up_ne _ _ (ik_ne i_126 i_h0 (by decide))]; exact k_179
                        have kp_183 := Kp.put kp_177 i_h0 (by decide) e_182
                        refine lv_goto (tgt := 149) hx hb dX12_next_240 (by decide) ?_
                        exact ih_149 v_180 y_174 f_181 _ _ _ (by omega) hI hS k_184 kp_183 (by first | omega | decide | exact Or.inl (by decide)) (lv_sub hl [0] rfl)
                      refine lv_icmp_ge (tgt := 224) hx hb dX12_next_195 (by decide) (fun c_186 => ?_) (fun c_186 => ?_)
                      · have c_186 := kc_le (by decide : Int32.toInt 10 = 10) rfl c_186
                        refine lv_ldc2 hx hb hown (hts (.constantLong RX12 65 (-1)) (List.mem_cons_of_mem _ (List.mem_append_left _ (List.mem_of_getElem? (i := 14) rfl)))) dX12_next_224 ?_
                        exact J_227 (-1) _ _ _ hI hS  (lv_sub hl [0] rfl)
                      · have c_186 := kn_le (by decide : Int32.toInt 10 = 10) rfl c_186
                        refine lv_aload_n hx hb dX12_next_198 rfl (lv_at hl 0 rfl) ?_
                        refine k_get (ci := 12) (v := .long y_32) (C := RX12) (T := TX12) (N := 27) hx hb hts (fun _ h0_ => List.mem_cons_of_mem _ (List.mem_append_right _ (List.mem_append_left _ h0_))) hown hK hI i_h0.1 k_33 rfl 16 (by decide) (hts (.fieldLink RX12 180 "DeadlineShareModel" "worth" "J") (List.mem_cons_of_mem _ (List.mem_append_left _ (List.mem_of_getElem? (i := 3) rfl)))) (fun _ h9 => h9) rfl dX12_next_199 ?_
                        refine lv_ldc2 hx hb hown (hts (.constantLong RX12 193 (32)) (List.mem_cons_of_mem _ (List.mem_append_left _ (List.mem_of_getElem? (i := 15) rfl)))) dX12_next_202 ?_
                        refine lv_lmul hx hb dX12_next_205 ?_
                        refine lv_topl (fun v_187 ev_187 => ?_)
                        refine lv_aload_n hx hb dX12_next_206 rfl (lv_at hl 0 rfl) ?_
                        refine k_get (ci := 12) (v := .ref (gr g h0 11)) (C := RX12) (T := TX12) (N := 27) hx hb hts (fun _ h0_ => List.mem_cons_of_mem _ (List.mem_append_right _ (List.mem_append_left _ h0_))) hown hK hI i_h0.1 k_33 rfl 11 (by decide) (hts (.fieldLink RX12 36 "DeadlineShareModel" "tape" "[I") (List.mem_cons_of_mem _ (List.mem_append_left _ (List.mem_of_getElem? (i := 5) rfl)))) (fun _ h9 => h9) rfl dX12_next_207 ?_
                        refine lv_aload_n hx hb dX12_next_210 rfl (lv_at hl 0 rfl) ?_
                        refine k_get (ci := 12) (v := .int y_31) (C := RX12) (T := TX12) (N := 27) hx hb hts (fun _ h0_ => List.mem_cons_of_mem _ (List.mem_append_right _ (List.mem_append_left _ h0_))) hown hK hI i_h0.1 k_33 rfl 14 (by decide) (hts (.fieldLink RX12 174 "DeadlineShareModel" "to" "I") (List.mem_cons_of_mem _ (List.mem_append_left _ (List.mem_of_getElem? (i := 0) rfl)))) (fun _ h9 => h9) rfl dX12_next_211 ?_
                        refine k_iald hx hb hK hI i_126.1 0 k_127 rfl (vp_in_iff.mpr (by omega)) dX12_next_214 ?_
                        refine lv_topi (fun v_190 ev_190 => ?_)
                        refine lv_i2l (v := v_190.toInt64) hx hb dX12_next_215 rfl ?_
                        have t_191 := Int32.toInt_toInt64 v_190
                        refine lv_ladd hx hb dX12_next_216 ?_
                        refine lv_topl (fun v_192 ev_192 => ?_)
                        have tv_192 := l_ad v_187 v_190.toInt64
                        rw [← ev_192] at tv_192
                        refine lv_ldc2 hx hb hown (hts (.constantLong RX12 195 (96)) (List.mem_cons_of_mem _ (List.mem_append_left _ (List.mem_of_getElem? (i := 16) rfl)))) dX12_next_217 ?_
                        refine lv_lsub hx hb dX12_next_220 ?_
                        refine lv_topl (fun v_193 ev_193 => ?_)
                        have tv_193 := l_sb v_192 96
                        rw [← ev_193, show Int64.toInt 96 = 96 from by decide] at tv_193
                        refine lv_goto (tgt := 227) hx hb dX12_next_221 (by decide) ?_
                        exact J_227 v_193 _ _ _ hI hS  (lv_sub hl [0] rfl)
            exact K_149 _ y_6 0 f_25 _ _ _ (Nat.lt_succ_self _) hI hS k_28 kp_27 (by first | omega | decide | exact Or.inl (by decide) | (simp only [show Int64.toInt 0 = 0 from by decide] <;> omega)) (lv_sub hl [0] rfl)
          · have c_29 := kc_eq rfl (by decide : Int32.toInt 3 = 3) c_29
            refine lv_aload_n hx hb dX12_next_125 rfl (lv_at hl 0 rfl) ?_
            refine lv_aload_n hx hb dX12_next_126 rfl (lv_at hl 0 rfl) ?_
            refine k_get (ci := 12) (v := .ref (gr g h0 11)) (C := RX12) (T := TX12) (N := 27) hx hb hts (fun _ h0_ => List.mem_cons_of_mem _ (List.mem_append_right _ (List.mem_append_left _ h0_))) hown hK hI i_h0.1 k_28 rfl 11 (by decide) (hts (.fieldLink RX12 36 "DeadlineShareModel" "tape" "[I") (List.mem_cons_of_mem _ (List.mem_append_left _ (List.mem_of_getElem? (i := 5) rfl)))) (fun _ h9 => h9) rfl dX12_next_127 ?_
            have i_195 := kw_12_11 hG i_h0
            refine lv_aload_n hx hb dX12_next_130 rfl (lv_at hl 0 rfl) ?_
            refine k_get (ci := 12) (v := .int y_6) (C := RX12) (T := TX12) (N := 27) hx hb hts (fun _ h0_ => List.mem_cons_of_mem _ (List.mem_append_right _ (List.mem_append_left _ h0_))) hown hK hI i_h0.1 k_28 rfl 13 (by decide) (hts (.fieldLink RX12 177 "DeadlineShareModel" "from" "I") (List.mem_cons_of_mem _ (List.mem_append_left _ (List.mem_of_getElem? (i := 1) rfl)))) (fun _ h9 => h9) rfl dX12_next_131 ?_
            obtain ⟨q_197, k_196⟩ := op_38 hI i_195
            refine k_iald hx hb hK hI i_195.1 0 k_196 rfl (vp_in_iff.mpr (by omega)) dX12_next_134 ?_
            refine lv_topi (fun v_198 ev_198 => ?_)
            refine lv_i2l (v := v_198.toInt64) hx hb dX12_next_135 rfl ?_
            have t_199 := Int32.toInt_toInt64 v_198
            refine k_put (ci := 12) (v := .long v_198.toInt64) (ty := .long) (C := RX12) (T := TX12) (N := 27) hx hb hts (fun _ h0_ => List.mem_cons_of_mem _ (List.mem_append_right _ (List.mem_append_left _ h0_))) tyX12 tyX12_ok nmX12 hown hK hI hS i_h0.1 k_28 rfl 16 (by decide) (hts (.fieldLink RX12 180 "DeadlineShareModel" "worth" "J") (List.mem_cons_of_mem _ (List.mem_append_left _ (List.mem_of_getElem? (i := 3) rfl)))) (fun _ h9 => h9) rfl (by decide +kernel) rfl rfl (Nat.le_of_ble_eq_true rfl) rfl (cl_12 i_h0 (by omega) (by omega) (by omega)) dX12_next_136 (fun f_200 H locs e_201 hI hS => ?_)
            have k_203 : f_200 h0 = .inr (12, [.int z0, .int z1, .ref (gr g h0 2), .ref (gr g h0 3), .ref (gr g h0 4), .ref (gr g h0 5), .ref (gr g h0 6), .ref (gr g h0 7), .ref (gr g h0 8), .ref (gr g h0 9), .int z10, .ref (gr g h0 11), .int z12, .int y_6, .int y_6, .int y_23, .long v_198.toInt64, .int z17, .int z18, .ref (gr g h0 19), .ref (gr g h0 20), .ref (gr g h0 21), .ref (gr g h0 22), .int z23, .long z24, .long z25, .long z26]) := by rw [e_201]; exact va_up_self _ _ _
            have k_204 : f_200 (gr g h0 11) = .inl (gc g 0, 200, .inl q_197) := by rw [e_201, va_up_ne _ _ (ik_ne i_195 i_h0 (by decide))]; exact k_196
            have kp_202 := Kp.put kp_27 i_h0 (by decide) e_201
            refine lv_aload_n hx hb dX12_next_139 rfl (lv_at hl 0 rfl) ?_
            refine lv_dup hx hb dX12_next_140 rfl ?_
            refine k_get (ci := 12) (v := .int y_6) (C := RX12) (T := TX12) (N := 27) hx hb hts (fun _ h0_ => List.mem_cons_of_mem _ (List.mem_append_right _ (List.mem_append_left _ h0_))) hown hK hI i_h0.1 k_203 rfl 14 (by decide) (hts (.fieldLink RX12 174 "DeadlineShareModel" "to" "I") (List.mem_cons_of_mem _ (List.mem_append_left _ (List.mem_of_getElem? (i := 0) rfl)))) (fun _ h9 => h9) rfl dX12_next_141 ?_
            refine lv_iconst (v := 1) hx hb dX12_next_144 (by decide) ?_
            refine lv_iadd hx hb dX12_next_145 ?_
            refine lv_topi (fun v_205 ev_205 => ?_)
            have tv_205 := k_ad y_6 1
            rw [← ev_205, show Int32.toInt 1 = 1 from by decide] at tv_205
            refine k_put (ci := 12) (v := .int v_205) (ty := .int) (C := RX12) (T := TX12) (N := 27) hx hb hts (fun _ h0_ => List.mem_cons_of_mem _ (List.mem_append_right _ (List.mem_append_left _ h0_))) tyX12 tyX12_ok nmX12 hown hK hI hS i_h0.1 k_203 rfl 14 (by decide) (hts (.fieldLink RX12 174 "DeadlineShareModel" "to" "I") (List.mem_cons_of_mem _ (List.mem_append_left _ (List.mem_of_getElem? (i := 0) rfl)))) (fun _ h9 => h9) rfl (by decide +kernel) rfl rfl (Nat.le_of_ble_eq_true rfl) rfl (cl_12 i_h0 (by omega) (by omega) (by omega)) dX12_next_146 (fun f_206 H locs e_207 hI hS => ?_)
            have k_209 : f_206 h0 = .inr (12, [.int z0, .int z1, .ref (gr g h0 2), .ref (gr g h0 3), .ref (gr g h0 4), .ref (gr g h0 5), .ref (gr g h0 6), .ref (gr g h0 7), .ref (gr g h0 8), .ref (gr g h0 9), .int z10, .ref (gr g h0 11), .int z12, .int y_6, .int v_205, .int y_23, .long v_198.toInt64, .int z17, .int z18, .ref (gr g h0 19), .ref (gr g h0 20), .ref (gr g h0 21), .ref (gr g h0 22), .int z23, .long z24, .long z25, .long z26]) := by rw [e_207]; exact va_up_self _ _ _
            have k_210 : f_206 (gr g h0 11) = .inl (gc g 0, 200, .inl q_197) := by rw [e_207, va_up_ne _ _ (ik_ne i_195 i_h0 (by decide))]; exact k_204
            have kp_208 := Kp.put kp_202 i_h0 (by decide) e_207
            have K_149 : ∀ (nn : Nat) (y_212 : Int32) (y_213 : Int64) (f_211 : Nat → va_E) (H : Heap) (locs : List Loc) (ls : Array Slot), (z12.toInt - y_212.toInt).toNat < nn → Iv dC dI g A f_211 H → va_S A s.heap H locs → f_211 h0 = .inr (12, [.int z0, .int z1, .ref (gr g h0 2), .ref (gr g h0 3), .ref (gr g h0 4), .ref (gr g h0 5), .ref (gr g h0 6), .ref (gr g h0 7), .ref (gr g h0 8), .ref (gr g h0 9), .int z10, .ref (gr g h0 11), .int z12, .int y_6, .int y_212, .int y_23, .long y_213, .int z17, .int z18, .ref (gr g h0 19), .ref (gr g h0 20), .ref (gr g h0 21), .ref (gr g h0 22), .int z23, .long z24, .long z25, .long z26]) → f_211 (gr g h0 11) = .inl (gc g 0, 200, .inl q_197) → Kp g [12] f f_211 → (0 ≤ y_212.toInt ∧ y_212.toInt ≤ z12.toInt) → lv_has ls 1 [(0, .ref h0)] → W p l e (headSpec wq_c_X12_next ({ frames := 1, cells := 0, slots := 0, locals := 20 } : Room)).room s m ([.ref h0].toArray) below meth c H locs 0 0 (MQ below (va_Qv (fun (_ : Unit) => True) (fun (_ : Unit) t => ∃ f1 : Nat → va_E, Iv dC dI g A f1 t.heap ∧ Kp g [12] f f1 ∧ ∃ (w13 : Int32) (w14 : Int32) (w15 : Int32) (w16 : Int64), (f1 h0 = .inr (12, [.int z0, .int z1, .ref (gr g h0 2), .ref (gr g h0 3), .ref (gr g h0 4), .ref (gr g h0 5), .ref (gr g h0 6), .ref (gr g h0 7), .ref (gr g h0 8), .ref (gr g h0 9), .int z10, .ref (gr g h0 11), .int z12, .int w13, .int w14, .int w15, .long w16, .int z17, .int z18, .ref (gr g h0 19), .ref (gr g h0 20), .ref (gr g h0 21), .ref (gr g h0 22), .int z23, .long z24, .long z25, .long z26])) ∧ (0 ≤ w14.toInt ∧ w14.toInt ≤ z12.toInt)) A) ([.ref h0].toArray) s 0 0 A) (F0 m 149 ls []) := by
              intro nn_149
              induction nn_149 with
              | zero => intro y_212 y_213 f_211 H locs ls m_218; exact absurd m_218 (Nat.not_lt_zero _)
              | succ nn_149 ih_149 =>
                intro y_212 y_213 f_211 H locs ls m_218 hI hS k_214 k_215 kp_216 t_217 hl
                have g_219 := Int32.toInt_lt y_212
                have g_220 := Int32.le_toInt y_212
                have g_221 := Int32.toInt_lt z12
                have g_222 := Int32.le_toInt z12
                refine lv_aload_n hx hb dX12_next_149 rfl (lv_at hl 0 rfl) ?_
                refine k_get (ci := 12) (v := .int y_23) (C := RX12) (T := TX12) (N := 27) hx hb hts (fun _ h0_ => List.mem_cons_of_mem _ (List.mem_append_right _ (List.mem_append_left _ h0_))) hown hK hI i_h0.1 k_214 rfl 15 (by decide) (hts (.fieldLink RX12 190 "DeadlineShareModel" "sort" "I") (List.mem_cons_of_mem _ (List.mem_append_left _ (List.mem_of_getElem? (i := 4) rfl)))) (fun _ h9 => h9) rfl dX12_next_150 ?_
                refine lv_iconst (v := 1) hx hb dX12_next_153 (by decide) ?_
                refine lv_icmp_ne (tgt := 243) hx hb dX12_next_154 (by decide) (fun c_223 => ?_) (fun c_223 => ?_)
                · have c_223 := kn_eq rfl (by decide : Int32.toInt 1 = 1) c_223
                  have K_243 : ∀ (nn : Nat) (y_225 : Int32) (y_226 : Int64) (f_224 : Nat → va_E) (H : Heap) (locs : List Loc) (ls : Array Slot), (z12.toInt - y_225.toInt).toNat < nn → Iv dC dI g A f_224 H → va_S A s.heap H locs → f_224 h0 = .inr (12, [.int z0, .int z1, .ref (gr g h0 2), .ref (gr g h0 3), .ref (gr g h0 4), .ref (gr g h0 5), .ref (gr g h0 6), .ref (gr g h0 7), .ref (gr g h0 8), .ref (gr g h0 9), .int z10, .ref (gr g h0 11), .int z12, .int y_6, .int y_225, .int y_23, .long y_226, .int z17, .int z18, .ref (gr g h0 19), .ref (gr g h0 20), .ref (gr g h0 21), .ref (gr g h0 22), .int z23, .long z24, .long z25, .long z26]) → f_224 (gr g h0 11) = .inl (gc g 0, 200, .inl q_197) → Kp g [12] f f_224 → (0 ≤ y_225.toInt ∧ y_225.toInt ≤ z12.toInt) → lv_has ls 1 [(0, .ref h0)] → W p l e (headSpec wq_c_X12_next ({ frames := 1, cells := 0, slots := 0, locals := 20 } : Room)).room s m ([.ref h0].toArray) below meth c H locs 0 0 (MQ below (va_Qv (fun (_ : Unit) => True) (fun (_ : Unit) t => ∃ f1 : Nat → va_E, Iv dC dI g A f1 t.heap ∧ Kp g [12] f f1 ∧ ∃ (w13 : Int32) (w14 : Int32) (w15 : Int32) (w16 : Int64), (f1 h0 = .inr (12, [.int z0, .int z1, .ref (gr g h0 2), .ref (gr g h0 3), .ref (gr g h0 4), .ref (gr g h0 5), .ref (gr g h0 6), .ref (gr g h0 7), .ref (gr g h0 8), .ref (gr g h0 9), .int z10, .ref (gr g h0 11), .int z12, .int w13, .int w14, .int w15, .long w16, .int z17, .int z18, .ref (gr g h0 19), .ref (gr g h0 20), .ref (gr g h0 21), .ref (gr g h0 22), .int z23, .long z24, .long z25, .long z26])) ∧ (0 ≤ w14.toInt ∧ w14.toInt ≤ z12.toInt)) A) ([.ref h0].toArray) s 0 0 A) (F0 m 243 ls []) := by
                    intro nn_243
                    induction nn_243 with
                    | zero => intro y_225 y_226 f_224 H locs ls m_231; exact absurd m_231 (Nat.not_lt_zero _)
                    | succ nn_243 ih_243 =>
                      intro y_225 y_226 f_224 H locs ls m_231 hI hS k_227 k_228 kp_229 t_230 hl
                      have g_232 := Int32.toInt_lt y_225
                      have g_233 := Int32.le_toInt y_225
                      have g_234 := Int32.toInt_lt z12
                      have g_235 := Int32.le_toInt z12
                      refine lv_aload_n hx hb dX12_next_243 rfl (lv_at hl 0 rfl) ?_
                      refine k_get (ci := 12) (v := .int y_23) (C := RX12) (T := TX12) (N := 27) hx hb hts (fun _ h0_ => List.mem_cons_of_mem _ (List.mem_append_right _ (List.mem_append_left _ h0_))) hown hK hI i_h0.1 k_227 rfl 15 (by decide) (hts (.fieldLink RX12 190 "DeadlineShareModel" "sort" "I") (List.mem_cons_of_mem _ (List.mem_append_left _ (List.mem_of_getElem? (i := 4) rfl)))) (fun _ h9 => h9) rfl dX12_next_244 ?_
                      refine lv_iconst (v := 2) hx hb dX12_next_247 (by decide) ?_
                      refine lv_icmp_ne (tgt := 335) hx hb dX12_next_248 (by decide) (fun c_236 => ?_) (fun c_236 => ?_)
                      · have c_236 := kn_eq rfl (by decide : Int32.toInt 2 = 2) c_236
                        exact W.vret hx hb hr (fun t ht hW => ⟨⟨(), rfl, trivial, ⟨f_224, k_ret ht hI, kp_229, y_6, y_225, y_23, y_226, k_227, (by first | omega | decide)⟩⟩, hS.F ht⟩) hS.2.2 dX12_next_335
                      · have c_236 := kc_eq rfl (by decide : Int32.toInt 2 = 2) c_236
                        refine lv_aload_n hx hb dX12_next_251 rfl (lv_at hl 0 rfl) ?_
                        refine k_get (ci := 12) (v := .int y_225) (C := RX12) (T := TX12) (N := 27) hx hb hts (fun _ h0_ => List.mem_cons_of_mem _ (List.mem_append_right _ (List.mem_append_left _ h0_))) hown hK hI i_h0.1 k_227 rfl 14 (by decide) (hts (.fieldLink RX12 174 "DeadlineShareModel" "to" "I") (List.mem_cons_of_mem _ (List.mem_append_left _ (List.mem_of_getElem? (i := 0) rfl)))) (fun _ h9 => h9) rfl dX12_next_252 ?_
                        refine lv_aload_n hx hb dX12_next_255 rfl (lv_at hl 0 rfl) ?_
                        refine k_get (ci := 12) (v := .int z12) (C := RX12) (T := TX12) (N := 27) hx hb hts (fun _ h0_ => List.mem_cons_of_mem _ (List.mem_append_right _ (List.mem_append_left _ h0_))) hown hK hI i_h0.1 k_227 rfl 12 (by decide) (hts (.fieldLink RX12 128 "DeadlineShareModel" "taped" "I") (List.mem_cons_of_mem _ (List.mem_append_left _ (List.mem_of_getElem? (i := 2) rfl)))) (fun _ h9 => h9) rfl dX12_next_256 ?_
                        refine lv_icmp_ge (tgt := 335) hx hb dX12_next_259 (by decide) (fun c_237 => ?_) (fun c_237 => ?_)
                        · have c_237 := kc_le rfl rfl c_237
                          exact W.vret hx hb hr (fun t ht hW => ⟨⟨(), rfl, trivial, ⟨f_224, k_ret ht hI, kp_229, y_6, y_225, y_23, y_226, k_227, (by first | omega | decide)⟩⟩, hS.F ht⟩) hS.2.2 dX12_next_335
                        · have c_237 := kn_le rfl rfl c_237
                          refine lv_aload_n hx hb dX12_next_262 rfl (lv_at hl 0 rfl) ?_
                          refine k_get (ci := 12) (v := .ref (gr g h0 11)) (C := RX12) (T := TX12) (N := 27) hx hb hts (fun _ h0_ => List.mem_cons_of_mem _ (List.mem_append_right _ (List.mem_append_left _ h0_))) hown hK hI i_h0.1 k_227 rfl 11 (by decide) (hts (.fieldLink RX12 36 "DeadlineShareModel" "tape" "[I") (List.mem_cons_of_mem _ (List.mem_append_left _ (List.mem_of_getElem? (i := 5) rfl)))) (fun _ h9 => h9) rfl dX12_next_263 ?_
                          refine lv_aload_n hx hb dX12_next_266 rfl (lv_at hl 0 rfl) ?_
                          refine k_get (ci := 12) (v := .int y_225) (C := RX12) (T := TX12) (N := 27) hx hb hts (fun _ h0_ => List.mem_cons_of_mem _ (List.mem_append_right _ (List.mem_append_left _ h0_))) hown hK hI i_h0.1 k_227 rfl 14 (by decide) (hts (.fieldLink RX12 174 "DeadlineShareModel" "to" "I") (List.mem_cons_of_mem _ (List.mem_append_left _ (List.mem_of_getElem? (i := 0) rfl)))) (fun _ h9 => h9) rfl dX12_next_267 ?_
                          refine k_iald hx hb hK hI i_195.1 0 k_228 rfl (vp_in_iff.mpr (by omega)) dX12_next_270 ?_
                          refine lv_topi (fun v_240 ev_240 => ?_)
                          refine va_calli (va_runS (As := [.int v_240]) (rest := []) ⟨hx, hb, hml, hown, hts⟩ (c_X12_isDigit l dC dI g A hG f_224 v_240) (va_cwS 1 hts (gi_S (fun w_ h0_ => ⟨List.mem_cons_of_mem _ (List.mem_append_right _ (List.mem_append_right _ (List.mem_append_left _ h0_))), (tb_c_X12_isDigit w_ h0_).2⟩) (List.mem_cons_of_mem _ (List.mem_append_left _ (List.mem_of_getElem? (i := 6) rfl))) (List.mem_cons_of_mem _ (List.mem_append_left _ (List.mem_of_getElem? (i := 7) rfl))) (List.mem_cons_of_mem _ (List.mem_append_left _ (List.mem_of_getElem? (i := 8) rfl)))) rfl rfl rfl (by decide +kernel) ⟨Nat.le_of_ble_eq_true rfl, Nat.le_of_ble_eq_true rfl⟩) ⟨fun a U g mk q => ⟨q.1, q.2.calling rfl rfl⟩, fun U hU hW => ⟨rfl, kIn.of hI hK hE hS hU hW⟩⟩ rfl rfl hl.1 rfl (lv_room (Nat.le_of_ble_eq_true rfl)) dX12_next_271 ⟨Nat.le_of_ble_eq_true rfl, Nat.le_of_ble_eq_true rfl⟩) hS (fun q _ h => h) (fun q h => h) (fun r_242 u t H1 locs ht hvm w_241 hB hz1 hk1 hS => ?_)
                          have hI : Iv dC dI g A f_224 t.heap := hB
                          rw [ht] at hI
                          generalize H1 = H at hI hS ⊢
                          refine W.widen (k := 0) (n := 0) (Nat.le_of_ble_eq_true rfl) (Nat.le_of_ble_eq_true rfl) ?_
                          refine lv_if_eq (tgt := 335) hx hb dX12_next_274 (by decide) (fun c_243 => ?_) (fun c_243 => ?_)
                          · have c_243 := kc_eq rfl (by decide : Int32.toInt 0 = 0) c_243
                            exact W.vret hx hb hr (fun t ht hW => ⟨⟨(), rfl, trivial, ⟨f_224, k_ret ht hI, kp_229, y_6, y_225, y_23, y_226, k_227, (by first | omega | decide)⟩⟩, hS.F ht⟩) hS.2.2 dX12_next_335
                          · have c_243 := kn_eq rfl (by decide : Int32.toInt 0 = 0) c_243
                            refine lv_aload_n hx hb dX12_next_277 rfl (lv_at hl 0 rfl) ?_
                            refine lv_aload_n hx hb dX12_next_278 rfl (lv_at hl 0 rfl) ?_
                            refine k_get (ci := 12) (v := .long y_226) (C := RX12) (T := TX12) (N := 27) hx hb hts (fun _ h0_ => List.mem_cons_of_mem _ (List.mem_append_right _ (List.mem_append_left _ h0_))) hown hK hI i_h0.1 k_227 rfl 16 (by decide) (hts (.fieldLink RX12 180 "DeadlineShareModel" "worth" "J") (List.mem_cons_of_mem _ (List.mem_append_left _ (List.mem_of_getElem? (i := 3) rfl)))) (fun _ h9 => h9) rfl dX12_next_279 ?_
                            refine lv_ldc2 hx hb hown (hts (.constantLong RX12 126 (1000000)) (List.mem_cons_of_mem _ (List.mem_append_left _ (List.mem_of_getElem? (i := 9) rfl)))) dX12_next_282 ?_
                            refine W.lcmp hx hb dX12_next_285 ?_
                            have J_319 : ∀ (y_244 : Int64) (H : Heap) (locs : List Loc) (ls : Array Slot), Iv dC dI g A f_224 H → va_S A s.heap H locs → lv_has ls 1 [(0, .ref h0)] → W p l e (headSpec wq_c_X12_next ({ frames := 1, cells := 0, slots := 0, locals := 20 } : Room)).room s m ([.ref h0].toArray) below meth c H locs 0 0 (MQ below (va_Qv (fun (_ : Unit) => True) (fun (_ : Unit) t => ∃ f1 : Nat → va_E, Iv dC dI g A f1 t.heap ∧ Kp g [12] f f1 ∧ ∃ (w13 : Int32) (w14 : Int32) (w15 : Int32) (w16 : Int64), (f1 h0 = .inr (12, [.int z0, .int z1, .ref (gr g h0 2), .ref (gr g h0 3), .ref (gr g h0 4), .ref (gr g h0 5), .ref (gr g h0 6), .ref (gr g h0 7), .ref (gr g h0 8), .ref (gr g h0 9), .int z10, .ref (gr g h0 11), .int z12, .int w13, .int w14, .int w15, .long w16, .int z17, .int z18, .ref (gr g h0 19), .ref (gr g h0 20), .ref (gr g h0 21), .ref (gr g h0 22), .int z23, .long z24, .long z25, .long z26])) ∧ (0 ≤ w14.toInt ∧ w14.toInt ≤ z12.toInt)) A) ([.ref h0].toArray) s 0 0 A) (F0 m 319 ls [.long y_244, .ref h0]) := by
                              intro y_244 H locs ls hI hS  hl
                              refine k_put (ci := 12) (v := .long y_244) (ty := .long) (C := RX12) (T := TX12) (N := 27) hx hb hts (fun _ h0_ => List.mem_cons_of_mem _ (List.mem_append_right _ (List.mem_append_left _ h0_))) tyX12 tyX12_ok nmX12 hown hK hI hS i_h0.1 k_227 rfl 16 (by decide) (hts (.fieldLink RX12 180 "DeadlineShareModel" "worth" "J") (List.mem_cons_of_mem _ (List.mem_append_left _ (List.mem_of_getElem? (i := 3) rfl)))) (fun _ h9 => h9) rfl (by decide +kernel) rfl rfl (Nat.le_of_ble_eq_true rfl) rfl (cl_12 i_h0 (by omega) (by omega) (by omega)) dX12_next_319 (fun f_245 H locs e_246 hI hS => ?_)
                              have k_248 : f_245 h0 = .inr (12, [.int z0, .int z1, .ref (gr g h0 2), .ref (gr g h0 3), .ref (gr g h0 4), .ref (gr g h0 5), .ref (gr g h0 6), .ref (gr g h0 7), .ref (gr g h0 8), .ref (gr g h0 9), .int z10, .ref (gr g h0 11), .int z12, .int y_6, .int y_225, .int y_23, .long y_244, .int z17, .int z18, .ref (gr g h0 19), .ref (gr g h0 20), .ref (gr g h0 21), .ref (gr g h0 22), .int z23, .long z24, .long z25, .long z26]) := by rw [e_246]; exact va_up_self _ _ _
                              have k_249 : f_245 (gr g h0 11) = .inl (gc g 0, 200, .inl q_197) := by rw [e_246, va_up_ne _ _ (ik_ne i_195 i_h0 (by decide))]; exact k_228
                              have kp_247 := Kp.put kp_229 i_h0 (by decide) e_246
                              refine lv_aload_n hx hb dX12_next_322 rfl (lv_at hl 0 rfl) ?_
                              refine lv_dup hx hb dX12_next_323 rfl ?_
                              refine k_get (ci := 12) (v := .int y_225) (C := RX12) (T := TX12) (N := 27) hx hb hts (fun _ h0_ => List.mem_cons_of_mem _ (List.mem_append_right _ (List.mem_append_left _ h0_))) hown hK hI i_h0.1 k_248 rfl 14 (by decide) (hts (.fieldLink RX12 174 "DeadlineShareModel" "to" "I") (List.mem_cons_of_mem _ (List.mem_append_left _ (List.mem_of_getElem? (i := 0) rfl)))) (fun _ h9 => h9) rfl dX12_next_324 ?_
                              refine lv_iconst (v := 1) hx hb dX12_next_327 (by decide) ?_
                              refine lv_iadd hx hb dX12_next_328 ?_
                              refine lv_topi (fun v_250 ev_250 => ?_)
                              have tv_250 := k_ad y_225 1
                              rw [← ev_250, show Int32.toInt 1 = 1 from by decide] at tv_250
                              refine k_put (ci := 12) (v := .int v_250) (ty := .int) (C := RX12) (T := TX12) (N := 27) hx hb hts (fun _ h0_ => List.mem_cons_of_mem _ (List.mem_append_right _ (List.mem_append_left _ h0_))) tyX12 tyX12_ok nmX12 hown hK hI hS i_h0.1 k_248 rfl 14 (by decide) (hts (.fieldLink RX12 174 "DeadlineShareModel" "to" "I") (List.mem_cons_of_mem _ (List.mem_append_left _ (List.mem_of_getElem? (i := 0) rfl)))) (fun _ h9 => h9) rfl (by decide +kernel) rfl rfl (Nat.le_of_ble_eq_true rfl) rfl (cl_12 i_h0 (by omega) (by omega) (by omega)) dX12_next_329 (fun f_251 H locs e_252 hI hS => ?_)
                              have k_254 : f_251 h0 = .inr (12, [.int z0, .int z1, .ref (gr g h0 2), .ref (gr g h0 3), .ref (gr g h0 4), .ref (gr g h0 5), .ref (gr g h0 6), .ref (gr g h0 7), .ref (gr g h0 8), .ref (gr g h0 9), .int z10, .ref (gr g h0 11), .int z12, .int y_6, .int v_250, .int y_23, .long y_244, .int z17, .int z18, .ref (gr g h0 19), .ref (gr g h0 20), .ref (gr g h0 21), .ref (gr g h0 22), .int z23, .long z24, .long z25, .long z26]) := by rw [e_252]; exact va_up_self _ _ _
                              have k_255 : f_251 (gr g h0 11) = .inl (gc g 0, 200, .inl q_197) := by rw [e_252, va_up_ne _ _ (ik_ne i_195 i_h0 (by decide))]; exact k_249
                              have kp_253 := Kp.put kp_247 i_h0 (by decide) e_252
                              refine lv_goto (tgt := 243) hx hb dX12_next_332 (by decide) ?_
                              exact ih_243 v_250 y_244 f_251 _ _ _ (by omega) hI hS k_254 k_255 kp_253 (by first | omega | decide | exact Or.inl (by decide)) (lv_sub hl [0] rfl)
                            refine lv_if_le (tgt := 296) hx hb dX12_next_286 (by decide) (fun c_256 => ?_) (fun c_256 => ?_)
                            · have c_256 := lc_le rfl (by decide : Int64.toInt 1000000 = 1000000) ((lg_cmp_le _ _).mp c_256)
                              refine lv_aload_n hx hb dX12_next_296 rfl (lv_at hl 0 rfl) ?_
                              refine k_get (ci := 12) (v := .long y_226) (C := RX12) (T := TX12) (N := 27) hx hb hts (fun _ h0_ => List.mem_cons_of_mem _ (List.mem_append_right _ (List.mem_append_left _ h0_))) hown hK hI i_h0.1 k_227 rfl 16 (by decide) (hts (.fieldLink RX12 180 "DeadlineShareModel" "worth" "J") (List.mem_cons_of_mem _ (List.mem_append_left _ (List.mem_of_getElem? (i := 3) rfl)))) (fun _ h9 => h9) rfl dX12_next_297 ?_
                              refine lv_ldc2 hx hb hown (hts (.constantLong RX12 197 (10)) (List.mem_cons_of_mem _ (List.mem_append_left _ (List.mem_of_getElem? (i := 10) rfl)))) dX12_next_300 ?_
                              refine lv_lmul hx hb dX12_next_303 ?_
                              refine lv_topl (fun v_257 ev_257 => ?_)
                              refine lv_aload_n hx hb dX12_next_304 rfl (lv_at hl 0 rfl) ?_
                              refine k_get (ci := 12) (v := .ref (gr g h0 11)) (C := RX12) (T := TX12) (N := 27) hx hb hts (fun _ h0_ => List.mem_cons_of_mem _ (List.mem_append_right _ (List.mem_append_left _ h0_))) hown hK hI i_h0.1 k_227 rfl 11 (by decide) (hts (.fieldLink RX12 36 "DeadlineShareModel" "tape" "[I") (List.mem_cons_of_mem _ (List.mem_append_left _ (List.mem_of_getElem? (i := 5) rfl)))) (fun _ h9 => h9) rfl dX12_next_305 ?_
                              refine lv_aload_n hx hb dX12_next_308 rfl (lv_at hl 0 rfl) ?_
                              refine k_get (ci := 12) (v := .int y_225) (C := RX12) (T := TX12) (N := 27) hx hb hts (fun _ h0_ => List.mem_cons_of_mem _ (List.mem_append_right _ (List.mem_append_left _ h0_))) hown hK hI i_h0.1 k_227 rfl 14 (by decide) (hts (.fieldLink RX12 174 "DeadlineShareModel" "to" "I") (List.mem_cons_of_mem _ (List.mem_append_left _ (List.mem_of_getElem? (i := 0) rfl)))) (fun _ h9 => h9) rfl dX12_next_309 ?_
                              refine k_iald hx hb hK hI i_195.1 0 k_228 rfl (vp_in_iff.mpr (by omega)) dX12_next_312 ?_
                              refine lv_topi (fun v_260 ev_260 => ?_)
                              refine lv_i2l (v := v_260.toInt64) hx hb dX12_next_313 rfl ?_
                              have t_261 := Int32.toInt_toInt64 v_260
                              refine lv_ladd hx hb dX12_next_314 ?_
                              refine lv_topl (fun v_262 ev_262 => ?_)
                              have tv_262 := l_ad v_257 v_260.toInt64
                              rw [← ev_262] at tv_262
                              refine lv_ldc2 hx hb hown (hts (.constantLong RX12 199 (48)) (List.mem_cons_of_mem _ (List.mem_append_left _ (List.mem_of_getElem? (i := 11) rfl)))) dX12_next_315 ?_
                              refine lv_lsub hx hb dX12_next_318 ?_
                              refine lv_topl (fun v_263 ev_263 => ?_)
                              have tv_263 := l_sb v_262 48
                              rw [← ev_263, show Int64.toInt 48 = 48 from by decide] at tv_263
                              exact J_319 v_263 _ _ _ hI hS  (lv_sub hl [0] rfl)
                            · have c_256 := ln_le rfl (by decide : Int64.toInt 1000000 = 1000000) (fun h9 => c_256 ((lg_cmp_le _ _).mpr h9))
                              refine lv_aload_n hx hb dX12_next_289 rfl (lv_at hl 0 rfl) ?_
                              refine k_get (ci := 12) (v := .long y_226) (C := RX12) (T := TX12) (N := 27) hx hb hts (fun _ h0_ => List.mem_cons_of_mem _ (List.mem_append_right _ (List.mem_append_left _ h0_))) hown hK hI i_h0.1 k_227 rfl 16 (by decide) (hts (.fieldLink RX12 180 "DeadlineShareModel" "worth" "J") (List.mem_cons_of_mem _ (List.mem_append_left _ (List.mem_of_getElem? (i := 3) rfl)))) (fun _ h9 => h9) rfl dX12_next_290 ?_
                              refine lv_goto (tgt := 319) hx hb dX12_next_293 (by decide) ?_
                              exact J_319 y_226 _ _ _ hI hS  (lv_sub hl [0] rfl)
                  exact K_243 _ y_212 y_213 f_211 _ _ _ (Nat.lt_succ_self _) hI hS k_214 k_215 kp_216 (by first | omega | decide | exact Or.inl (by decide)) (lv_sub hl [0] rfl)
                · have c_223 := kc_eq rfl (by decide : Int32.toInt 1 = 1) c_223
                  refine lv_aload_n hx hb dX12_next_157 rfl (lv_at hl 0 rfl) ?_
                  refine k_get (ci := 12) (v := .int y_212) (C := RX12) (T := TX12) (N := 27) hx hb hts (fun _ h0_ => List.mem_cons_of_mem _ (List.mem_append_right _ (List.mem_append_left _ h0_))) hown hK hI i_h0.1 k_214 rfl 14 (by decide) (hts (.fieldLink RX12 174 "DeadlineShareModel" "to" "I") (List.mem_cons_of_mem _ (List.mem_append_left _ (List.mem_of_getElem? (i := 0) rfl)))) (fun _ h9 => h9) rfl dX12_next_158 ?_
                  refine lv_aload_n hx hb dX12_next_161 rfl (lv_at hl 0 rfl) ?_
                  refine k_get (ci := 12) (v := .int z12) (C := RX12) (T := TX12) (N := 27) hx hb hts (fun _ h0_ => List.mem_cons_of_mem _ (List.mem_append_right _ (List.mem_append_left _ h0_))) hown hK hI i_h0.1 k_214 rfl 12 (by decide) (hts (.fieldLink RX12 128 "DeadlineShareModel" "taped" "I") (List.mem_cons_of_mem _ (List.mem_append_left _ (List.mem_of_getElem? (i := 2) rfl)))) (fun _ h9 => h9) rfl dX12_next_162 ?_
                  refine lv_icmp_ge (tgt := 243) hx hb dX12_next_165 (by decide) (fun c_264 => ?_) (fun c_264 => ?_)
                  · have c_264 := kc_le rfl rfl c_264
                    have K_243 : ∀ (nn : Nat) (y_266 : Int32) (y_267 : Int64) (f_265 : Nat → va_E) (H : Heap) (locs : List Loc) (ls : Array Slot), (z12.toInt - y_266.toInt).toNat < nn → Iv dC dI g A f_265 H → va_S A s.heap H locs → f_265 h0 = .inr (12, [.int z0, .int z1, .ref (gr g h0 2), .ref (gr g h0 3), .ref (gr g h0 4), .ref (gr g h0 5), .ref (gr g h0 6), .ref (gr g h0 7), .ref (gr g h0 8), .ref (gr g h0 9), .int z10, .ref (gr g h0 11), .int z12, .int y_6, .int y_266, .int y_23, .long y_267, .int z17, .int z18, .ref (gr g h0 19), .ref (gr g h0 20), .ref (gr g h0 21), .ref (gr g h0 22), .int z23, .long z24, .long z25, .long z26]) → f_265 (gr g h0 11) = .inl (gc g 0, 200, .inl q_197) → Kp g [12] f f_265 → (0 ≤ y_266.toInt ∧ y_266.toInt ≤ z12.toInt) → lv_has ls 1 [(0, .ref h0)] → W p l e (headSpec wq_c_X12_next ({ frames := 1, cells := 0, slots := 0, locals := 20 } : Room)).room s m ([.ref h0].toArray) below meth c H locs 0 0 (MQ below (va_Qv (fun (_ : Unit) => True) (fun (_ : Unit) t => ∃ f1 : Nat → va_E, Iv dC dI g A f1 t.heap ∧ Kp g [12] f f1 ∧ ∃ (w13 : Int32) (w14 : Int32) (w15 : Int32) (w16 : Int64), (f1 h0 = .inr (12, [.int z0, .int z1, .ref (gr g h0 2), .ref (gr g h0 3), .ref (gr g h0 4), .ref (gr g h0 5), .ref (gr g h0 6), .ref (gr g h0 7), .ref (gr g h0 8), .ref (gr g h0 9), .int z10, .ref (gr g h0 11), .int z12, .int w13, .int w14, .int w15, .long w16, .int z17, .int z18, .ref (gr g h0 19), .ref (gr g h0 20), .ref (gr g h0 21), .ref (gr g h0 22), .int z23, .long z24, .long z25, .long z26])) ∧ (0 ≤ w14.toInt ∧ w14.toInt ≤ z12.toInt)) A) ([.ref h0].toArray) s 0 0 A) (F0 m 243 ls []) := by
                      intro nn_243
                      induction nn_243 with
                      | zero => intro y_266 y_267 f_265 H locs ls m_272; exact absurd m_272 (Nat.not_lt_zero _)
                      | succ nn_243 ih_243 =>
                        intro y_266 y_267 f_265 H locs ls m_272 hI hS k_268 k_269 kp_270 t_271 hl
                        have g_273 := Int32.toInt_lt y_266
                        have g_274 := Int32.le_toInt y_266
                        have g_275 := Int32.toInt_lt z12
                        have g_276 := Int32.le_toInt z12
                        refine lv_aload_n hx hb dX12_next_243 rfl (lv_at hl 0 rfl) ?_
                        refine k_get (ci := 12) (v := .int y_23) (C := RX12) (T := TX12) (N := 27) hx hb hts (fun _ h0_ => List.mem_cons_of_mem _ (List.mem_append_right _ (List.mem_append_left _ h0_))) hown hK hI i_h0.1 k_268 rfl 15 (by decide) (hts (.fieldLink RX12 190 "DeadlineShareModel" "sort" "I") (List.mem_cons_of_mem _ (List.mem_append_left _ (List.mem_of_getElem? (i := 4) rfl)))) (fun _ h9 => h9) rfl dX12_next_244 ?_
                        refine lv_iconst (v := 2) hx hb dX12_next_247 (by decide) ?_
                        refine lv_icmp_ne (tgt := 335) hx hb dX12_next_248 (by decide) (fun c_277 => ?_) (fun c_277 => ?_)
                        · have c_277 := kn_eq rfl (by decide : Int32.toInt 2 = 2) c_277
                          exact W.vret hx hb hr (fun t ht hW => ⟨⟨(), rfl, trivial, ⟨f_265, k_ret ht hI, kp_270, y_6, y_266, y_23, y_267, k_268, (by first | omega | decide)⟩⟩, hS.F ht⟩) hS.2.2 dX12_next_335
                        · have c_277 := kc_eq rfl (by decide : Int32.toInt 2 = 2) c_277
                          refine lv_aload_n hx hb dX12_next_251 rfl (lv_at hl 0 rfl) ?_
                          refine k_get (ci := 12) (v := .int y_266) (C := RX12) (T := TX12) (N := 27) hx hb hts (fun _ h0_ => List.mem_cons_of_mem _ (List.mem_append_right _ (List.mem_append_left _ h0_))) hown hK hI i_h0.1 k_268 rfl 14 (by decide) (hts (.fieldLink RX12 174 "DeadlineShareModel" "to" "I") (List.mem_cons_of_mem _ (List.mem_append_left _ (List.mem_of_getElem? (i := 0) rfl)))) (fun _ h9 => h9) rfl dX12_next_252 ?_
                          refine lv_aload_n hx hb dX12_next_255 rfl (lv_at hl 0 rfl) ?_
                          refine k_get (ci := 12) (v := .int z12) (C := RX12) (T := TX12) (N := 27) hx hb hts (fun _ h0_ => List.mem_cons_of_mem _ (List.mem_append_right _ (List.mem_append_left _ h0_))) hown hK hI i_h0.1 k_268 rfl 12 (by decide) (hts (.fieldLink RX12 128 "DeadlineShareModel" "taped" "I") (List.mem_cons_of_mem _ (List.mem_append_left _ (List.mem_of_getElem? (i := 2) rfl)))) (fun _ h9 => h9) rfl dX12_next_256 ?_
                          refine lv_icmp_ge (tgt := 335) hx hb dX12_next_259 (by decide) (fun c_278 => ?_) (fun c_278 => ?_)
                          · have c_278 := kc_le rfl rfl c_278
                            exact W.vret hx hb hr (fun t ht hW => ⟨⟨(), rfl, trivial, ⟨f_265, k_ret ht hI, kp_270, y_6, y_266, y_23, y_267, k_268, (by first | omega | decide)⟩⟩, hS.F ht⟩) hS.2.2 dX12_next_335
                          · have c_278 := kn_le rfl rfl c_278
                            refine lv_aload_n hx hb dX12_next_262 rfl (lv_at hl 0 rfl) ?_
                            refine k_get (ci := 12) (v := .ref (gr g h0 11)) (C := RX12) (T := TX12) (N := 27) hx hb hts (fun _ h0_ => List.mem_cons_of_mem _ (List.mem_append_right _ (List.mem_append_left _ h0_))) hown hK hI i_h0.1 k_268 rfl 11 (by decide) (hts (.fieldLink RX12 36 "DeadlineShareModel" "tape" "[I") (List.mem_cons_of_mem _ (List.mem_append_left _ (List.mem_of_getElem? (i := 5) rfl)))) (fun _ h9 => h9) rfl dX12_next_263 ?_
                            refine lv_aload_n hx hb dX12_next_266 rfl (lv_at hl 0 rfl) ?_
                            refine k_get (ci := 12) (v := .int y_266) (C := RX12) (T := TX12) (N := 27) hx hb hts (fun _ h0_ => List.mem_cons_of_mem _ (List.mem_append_right _ (List.mem_append_left _ h0_))) hown hK hI i_h0.1 k_268 rfl 14 (by decide) (hts (.fieldLink RX12 174 "DeadlineShareModel" "to" "I") (List.mem_cons_of_mem _ (List.mem_append_left _ (List.mem_of_getElem? (i := 0) rfl)))) (fun _ h9 => h9) rfl dX12_next_267 ?_
                            refine k_iald hx hb hK hI i_195.1 0 k_269 rfl (vp_in_iff.mpr (by omega)) dX12_next_270 ?_
                            refine lv_topi (fun v_281 ev_281 => ?_)
                            refine va_calli (va_runS (As := [.int v_281]) (rest := []) ⟨hx, hb, hml, hown, hts⟩ (c_X12_isDigit l dC dI g A hG f_265 v_281) (va_cwS 1 hts (gi_S (fun w_ h0_ => ⟨List.mem_cons_of_mem _ (List.mem_append_right _ (List.mem_append_right _ (List.mem_append_left _ h0_))), (tb_c_X12_isDigit w_ h0_).2⟩) (List.mem_cons_of_mem _ (List.mem_append_left _ (List.mem_of_getElem? (i := 6) rfl))) (List.mem_cons_of_mem _ (List.mem_append_left _ (List.mem_of_getElem? (i := 7) rfl))) (List.mem_cons_of_mem _ (List.mem_append_left _ (List.mem_of_getElem? (i := 8) rfl)))) rfl rfl rfl (by decide +kernel) ⟨Nat.le_of_ble_eq_true rfl, Nat.le_of_ble_eq_true rfl⟩) ⟨fun a U g mk q => ⟨q.1, q.2.calling rfl rfl⟩, fun U hU hW => ⟨rfl, kIn.of hI hK hE hS hU hW⟩⟩ rfl rfl hl.1 rfl (lv_room (Nat.le_of_ble_eq_true rfl)) dX12_next_271 ⟨Nat.le_of_ble_eq_true rfl, Nat.le_of_ble_eq_true rfl⟩) hS (fun q _ h => h) (fun q h => h) (fun r_283 u t H1 locs ht hvm w_282 hB hz1 hk1 hS => ?_)
                            have hI : Iv dC dI g A f_265 t.heap := hB
                            rw [ht] at hI
                            generalize H1 = H at hI hS ⊢
                            refine W.widen (k := 0) (n := 0) (Nat.le_of_ble_eq_true rfl) (Nat.le_of_ble_eq_true rfl) ?_
                            refine lv_if_eq (tgt := 335) hx hb dX12_next_274 (by decide) (fun c_284 => ?_) (fun c_284 => ?_)
                            · have c_284 := kc_eq rfl (by decide : Int32.toInt 0 = 0) c_284
                              exact W.vret hx hb hr (fun t ht hW => ⟨⟨(), rfl, trivial, ⟨f_265, k_ret ht hI, kp_270, y_6, y_266, y_23, y_267, k_268, (by first | omega | decide)⟩⟩, hS.F ht⟩) hS.2.2 dX12_next_335
                            · have c_284 := kn_eq rfl (by decide : Int32.toInt 0 = 0) c_284
                              refine lv_aload_n hx hb dX12_next_277 rfl (lv_at hl 0 rfl) ?_
                              refine lv_aload_n hx hb dX12_next_278 rfl (lv_at hl 0 rfl) ?_
                              refine k_get (ci := 12) (v := .long y_267) (C := RX12) (T := TX12) (N := 27) hx hb hts (fun _ h0_ => List.mem_cons_of_mem _ (List.mem_append_right _ (List.mem_append_left _ h0_))) hown hK hI i_h0.1 k_268 rfl 16 (by decide) (hts (.fieldLink RX12 180 "DeadlineShareModel" "worth" "J") (List.mem_cons_of_mem _ (List.mem_append_left _ (List.mem_of_getElem? (i := 3) rfl)))) (fun _ h9 => h9) rfl dX12_next_279 ?_
                              refine lv_ldc2 hx hb hown (hts (.constantLong RX12 126 (1000000)) (List.mem_cons_of_mem _ (List.mem_append_left _ (List.mem_of_getElem? (i := 9) rfl)))) dX12_next_282 ?_
                              refine W.lcmp hx hb dX12_next_285 ?_
                              have J_319 : ∀ (y_285 : Int64) (H : Heap) (locs : List Loc) (ls : Array Slot), Iv dC dI g A f_265 H → va_S A s.heap H locs → lv_has ls 1 [(0, .ref h0)] → W p l e (headSpec wq_c_X12_next ({ frames := 1, cells := 0, slots := 0, locals := 20 } : Room)).room s m ([.ref h0].toArray) below meth c H locs 0 0 (MQ below (va_Qv (fun (_ : Unit) => True) (fun (_ : Unit) t => ∃ f1 : Nat → va_E, Iv dC dI g A f1 t.heap ∧ Kp g [12] f f1 ∧ ∃ (w13 : Int32) (w14 : Int32) (w15 : Int32) (w16 : Int64), (f1 h0 = .inr (12, [.int z0, .int z1, .ref (gr g h0 2), .ref (gr g h0 3), .ref (gr g h0 4), .ref (gr g h0 5), .ref (gr g h0 6), .ref (gr g h0 7), .ref (gr g h0 8), .ref (gr g h0 9), .int z10, .ref (gr g h0 11), .int z12, .int w13, .int w14, .int w15, .long w16, .int z17, .int z18, .ref (gr g h0 19), .ref (gr g h0 20), .ref (gr g h0 21), .ref (gr g h0 22), .int z23, .long z24, .long z25, .long z26])) ∧ (0 ≤ w14.toInt ∧ w14.toInt ≤ z12.toInt)) A) ([.ref h0].toArray) s 0 0 A) (F0 m 319 ls [.long y_285, .ref h0]) := by
                                intro y_285 H locs ls hI hS  hl
                                refine k_put (ci := 12) (v := .long y_285) (ty := .long) (C := RX12) (T := TX12) (N := 27) hx hb hts (fun _ h0_ => List.mem_cons_of_mem _ (List.mem_append_right _ (List.mem_append_left _ h0_))) tyX12 tyX12_ok nmX12 hown hK hI hS i_h0.1 k_268 rfl 16 (by decide) (hts (.fieldLink RX12 180 "DeadlineShareModel" "worth" "J") (List.mem_cons_of_mem _ (List.mem_append_left _ (List.mem_of_getElem? (i := 3) rfl)))) (fun _ h9 => h9) rfl (by decide +kernel) rfl rfl (Nat.le_of_ble_eq_true rfl) rfl (cl_12 i_h0 (by omega) (by omega) (by omega)) dX12_next_319 (fun f_286 H locs e_287 hI hS => ?_)
                                have k_289 : f_286 h0 = .inr (12, [.int z0, .int z1, .ref (gr g h0 2), .ref (gr g h0 3), .ref (gr g h0 4), .ref (gr g h0 5), .ref (gr g h0 6), .ref (gr g h0 7), .ref (gr g h0 8), .ref (gr g h0 9), .int z10, .ref (gr g h0 11), .int z12, .int y_6, .int y_266, .int y_23, .long y_285, .int z17, .int z18, .ref (gr g h0 19), .ref (gr g h0 20), .ref (gr g h0 21), .ref (gr g h0 22), .int z23, .long z24, .long z25, .long z26]) := by rw [e_287]; exact va_up_self _ _ _
                                have k_290 : f_286 (gr g h0 11) = .inl (gc g 0, 200, .inl q_197) := by rw [e_287, va_up_ne _ _ (ik_ne i_195 i_h0 (by decide))]; exact k_269
                                have kp_288 := Kp.put kp_270 i_h0 (by decide) e_287
                                refine lv_aload_n hx hb dX12_next_322 rfl (lv_at hl 0 rfl) ?_
                                refine lv_dup hx hb dX12_next_323 rfl ?_
                                refine k_get (ci := 12) (v := .int y_266) (C := RX12) (T := TX12) (N := 27) hx hb hts (fun _ h0_ => List.mem_cons_of_mem _ (List.mem_append_right _ (List.mem_append_left _ h0_))) hown hK hI i_h0.1 k_289 rfl 14 (by decide) (hts (.fieldLink RX12 174 "DeadlineShareModel" "to" "I") (List.mem_cons_of_mem _ (List.mem_append_left _ (List.mem_of_getElem? (i := 0) rfl)))) (fun _ h9 => h9) rfl dX12_next_324 ?_
                                refine lv_iconst (v := 1) hx hb dX12_next_327 (by decide) ?_
                                refine lv_iadd hx hb dX12_next_328 ?_
                                refine lv_topi (fun v_291 ev_291 => ?_)
                                have tv_291 := k_ad y_266 1
                                rw [← ev_291, show Int32.toInt 1 = 1 from by decide] at tv_291
                                refine k_put (ci := 12) (v := .int v_291) (ty := .int) (C := RX12) (T := TX12) (N := 27) hx hb hts (fun _ h0_ => List.mem_cons_of_mem _ (List.mem_append_right _ (List.mem_append_left _ h0_))) tyX12 tyX12_ok nmX12 hown hK hI hS i_h0.1 k_289 rfl 14 (by decide) (hts (.fieldLink RX12 174 "DeadlineShareModel" "to" "I") (List.mem_cons_of_mem _ (List.mem_append_left _ (List.mem_of_getElem? (i := 0) rfl)))) (fun _ h9 => h9) rfl (by decide +kernel) rfl rfl (Nat.le_of_ble_eq_true rfl) rfl (cl_12 i_h0 (by omega) (by omega) (by omega)) dX12_next_329 (fun f_292 H locs e_293 hI hS => ?_)
                                have k_295 : f_292 h0 = .inr (12, [.int z0, .int z1, .ref (gr g h0 2), .ref (gr g h0 3), .ref (gr g h0 4), .ref (gr g h0 5), .ref (gr g h0 6), .ref (gr g h0 7), .ref (gr g h0 8), .ref (gr g h0 9), .int z10, .ref (gr g h0 11), .int z12, .int y_6, .int v_291, .int y_23, .long y_285, .int z17, .int z18, .ref (gr g h0 19), .ref (gr g h0 20), .ref (gr g h0 21), .ref (gr g h0 22), .int z23, .long z24, .long z25, .long z26]) := by rw [e_293]; exact va_up_self _ _ _
                                have k_296 : f_292 (gr g h0 11) = .inl (gc g 0, 200, .inl q_197) := by rw [e_293, va_up_ne _ _ (ik_ne i_195 i_h0 (by decide))]; exact k_290
                                have kp_294 := Kp.put kp_288 i_h0 (by decide) e_293
                                refine lv_goto (tgt := 243) hx hb dX12_next_332 (by decide) ?_
                                exact ih_243 v_291 y_285 f_292 _ _ _ (by omega) hI hS k_295 k_296 kp_294 (by first | omega | decide | exact Or.inl (by decide)) (lv_sub hl [0] rfl)
                              refine lv_if_le (tgt := 296) hx hb dX12_next_286 (by decide) (fun c_297 => ?_) (fun c_297 => ?_)
                              · have c_297 := lc_le rfl (by decide : Int64.toInt 1000000 = 1000000) ((lg_cmp_le _ _).mp c_297)
                                refine lv_aload_n hx hb dX12_next_296 rfl (lv_at hl 0 rfl) ?_
                                refine k_get (ci := 12) (v := .long y_267) (C := RX12) (T := TX12) (N := 27) hx hb hts (fun _ h0_ => List.mem_cons_of_mem _ (List.mem_append_right _ (List.mem_append_left _ h0_))) hown hK hI i_h0.1 k_268 rfl 16 (by decide) (hts (.fieldLink RX12 180 "DeadlineShareModel" "worth" "J") (List.mem_cons_of_mem _ (List.mem_append_left _ (List.mem_of_getElem? (i := 3) rfl)))) (fun _ h9 => h9) rfl dX12_next_297 ?_
                                refine lv_ldc2 hx hb hown (hts (.constantLong RX12 197 (10)) (List.mem_cons_of_mem _ (List.mem_append_left _ (List.mem_of_getElem? (i := 10) rfl)))) dX12_next_300 ?_
                                refine lv_lmul hx hb dX12_next_303 ?_
                                refine lv_topl (fun v_298 ev_298 => ?_)
                                refine lv_aload_n hx hb dX12_next_304 rfl (lv_at hl 0 rfl) ?_
                                refine k_get (ci := 12) (v := .ref (gr g h0 11)) (C := RX12) (T := TX12) (N := 27) hx hb hts (fun _ h0_ => List.mem_cons_of_mem _ (List.mem_append_right _ (List.mem_append_left _ h0_))) hown hK hI i_h0.1 k_268 rfl 11 (by decide) (hts (.fieldLink RX12 36 "DeadlineShareModel" "tape" "[I") (List.mem_cons_of_mem _ (List.mem_append_left _ (List.mem_of_getElem? (i := 5) rfl)))) (fun _ h9 => h9) rfl dX12_next_305 ?_
                                refine lv_aload_n hx hb dX12_next_308 rfl (lv_at hl 0 rfl) ?_
                                refine k_get (ci := 12) (v := .int y_266) (C := RX12) (T := TX12) (N := 27) hx hb hts (fun _ h0_ => List.mem_cons_of_mem _ (List.mem_append_right _ (List.mem_append_left _ h0_))) hown hK hI i_h0.1 k_268 rfl 14 (by decide) (hts (.fieldLink RX12 174 "DeadlineShareModel" "to" "I") (List.mem_cons_of_mem _ (List.mem_append_left _ (List.mem_of_getElem? (i := 0) rfl)))) (fun _ h9 => h9) rfl dX12_next_309 ?_
                                refine k_iald hx hb hK hI i_195.1 0 k_269 rfl (vp_in_iff.mpr (by omega)) dX12_next_312 ?_
                                refine lv_topi (fun v_301 ev_301 => ?_)
                                refine lv_i2l (v := v_301.toInt64) hx hb dX12_next_313 rfl ?_
                                have t_302 := Int32.toInt_toInt64 v_301
                                refine lv_ladd hx hb dX12_next_314 ?_
                                refine lv_topl (fun v_303 ev_303 => ?_)
                                have tv_303 := l_ad v_298 v_301.toInt64
                                rw [← ev_303] at tv_303
                                refine lv_ldc2 hx hb hown (hts (.constantLong RX12 199 (48)) (List.mem_cons_of_mem _ (List.mem_append_left _ (List.mem_of_getElem? (i := 11) rfl)))) dX12_next_315 ?_
                                refine lv_lsub hx hb dX12_next_318 ?_
                                refine lv_topl (fun v_304 ev_304 => ?_)
                                have tv_304 := l_sb v_303 48
                                rw [← ev_304, show Int64.toInt 48 = 48 from by decide] at tv_304
                                exact J_319 v_304 _ _ _ hI hS  (lv_sub hl [0] rfl)
                              · have c_297 := ln_le rfl (by decide : Int64.toInt 1000000 = 1000000) (fun h9 => c_297 ((lg_cmp_le _ _).mpr h9))
                                refine lv_aload_n hx hb dX12_next_289 rfl (lv_at hl 0 rfl) ?_
                                refine k_get (ci := 12) (v := .long y_267) (C := RX12) (T := TX12) (N := 27) hx hb hts (fun _ h0_ => List.mem_cons_of_mem _ (List.mem_append_right _ (List.mem_append_left _ h0_))) hown hK hI i_h0.1 k_268 rfl 16 (by decide) (hts (.fieldLink RX12 180 "DeadlineShareModel" "worth" "J") (List.mem_cons_of_mem _ (List.mem_append_left _ (List.mem_of_getElem? (i := 3) rfl)))) (fun _ h9 => h9) rfl dX12_next_290 ?_
                                refine lv_goto (tgt := 319) hx hb dX12_next_293 (by decide) ?_
                                exact J_319 y_267 _ _ _ hI hS  (lv_sub hl [0] rfl)
                    exact K_243 _ y_212 y_213 f_211 _ _ _ (Nat.lt_succ_self _) hI hS k_214 k_215 kp_216 (by first | omega | decide | exact Or.inl (by decide)) (lv_sub hl [0] rfl)
                  · have c_264 := kn_le rfl rfl c_264
                    refine lv_aload_n hx hb dX12_next_168 rfl (lv_at hl 0 rfl) ?_
                    refine k_get (ci := 12) (v := .ref (gr g h0 11)) (C := RX12) (T := TX12) (N := 27) hx hb hts (fun _ h0_ => List.mem_cons_of_mem _ (List.mem_append_right _ (List.mem_append_left _ h0_))) hown hK hI i_h0.1 k_214 rfl 11 (by decide) (hts (.fieldLink RX12 36 "DeadlineShareModel" "tape" "[I") (List.mem_cons_of_mem _ (List.mem_append_left _ (List.mem_of_getElem? (i := 5) rfl)))) (fun _ h9 => h9) rfl dX12_next_169 ?_
                    refine lv_aload_n hx hb dX12_next_172 rfl (lv_at hl 0 rfl) ?_
                    refine k_get (ci := 12) (v := .int y_212) (C := RX12) (T := TX12) (N := 27) hx hb hts (fun _ h0_ => List.mem_cons_of_mem _ (List.mem_append_right _ (List.mem_append_left _ h0_))) hown hK hI i_h0.1 k_214 rfl 14 (by decide) (hts (.fieldLink RX12 174 "DeadlineShareModel" "to" "I") (List.mem_cons_of_mem _ (List.mem_append_left _ (List.mem_of_getElem? (i := 0) rfl)))) (fun _ h9 => h9) rfl dX12_next_173 ?_
                    refine k_iald hx hb hK hI i_195.1 0 k_215 rfl (vp_in_iff.mpr (by omega)) dX12_next_176 ?_
                    refine lv_topi (fun v_307 ev_307 => ?_)
                    refine va_calli (va_runS (As := [.int v_307]) (rest := []) ⟨hx, hb, hml, hown, hts⟩ (c_X12_isSmall l dC dI g A hG f_211 v_307) (va_cwS 1 hts (gi_S (fun w_ h0_ => ⟨List.mem_cons_of_mem _ (List.mem_append_right _ (List.mem_append_right _ (List.mem_append_right _ (List.mem_append_left _ h0_)))), (tb_c_X12_isSmall w_ h0_).2⟩) (List.mem_cons_of_mem _ (List.mem_append_left _ (List.mem_of_getElem? (i := 12) rfl))) (List.mem_cons_of_mem _ (List.mem_append_left _ (List.mem_of_getElem? (i := 13) rfl))) (List.mem_cons_of_mem _ (List.mem_append_left _ (List.mem_of_getElem? (i := 8) rfl)))) rfl rfl rfl (by decide +kernel) ⟨Nat.le_of_ble_eq_true rfl, Nat.le_of_ble_eq_true rfl⟩) ⟨fun a U g mk q => ⟨q.1, q.2.calling rfl rfl⟩, fun U hU hW => ⟨rfl, kIn.of hI hK hE hS hU hW⟩⟩ rfl rfl hl.1 rfl (lv_room (Nat.le_of_ble_eq_true rfl)) dX12_next_177 ⟨Nat.le_of_ble_eq_true rfl, Nat.le_of_ble_eq_true rfl⟩) hS (fun q _ h => h) (fun q h => h) (fun r_309 u t H1 locs ht hvm w_308 hB hz1 hk1 hS => ?_)
                    have hI : Iv dC dI g A f_211 t.heap := hB
                    rw [ht] at hI
                    generalize H1 = H at hI hS ⊢
                    refine W.widen (k := 0) (n := 0) (Nat.le_of_ble_eq_true rfl) (Nat.le_of_ble_eq_true rfl) ?_
                    refine lv_if_eq (tgt := 243) hx hb dX12_next_180 (by decide) (fun c_310 => ?_) (fun c_310 => ?_)
                    · have c_310 := kc_eq rfl (by decide : Int32.toInt 0 = 0) c_310
                      have K_243 : ∀ (nn : Nat) (y_312 : Int32) (y_313 : Int64) (f_311 : Nat → va_E) (H : Heap) (locs : List Loc) (ls : Array Slot), (z12.toInt - y_312.toInt).toNat < nn → Iv dC dI g A f_311 H → va_S A s.heap H locs → f_311 h0 = .inr (12, [.int z0, .int z1, .ref (gr g h0 2), .ref (gr g h0 3), .ref (gr g h0 4), .ref (gr g h0 5), .ref (gr g h0 6), .ref (gr g h0 7), .ref (gr g h0 8), .ref (gr g h0 9), .int z10, .ref (gr g h0 11), .int z12, .int y_6, .int y_312, .int y_23, .long y_313, .int z17, .int z18, .ref (gr g h0 19), .ref (gr g h0 20), .ref (gr g h0 21), .ref (gr g h0 22), .int z23, .long z24, .long z25, .long z26]) → f_311 (gr g h0 11) = .inl (gc g 0, 200, .inl q_197) → Kp g [12] f f_311 → (0 ≤ y_312.toInt ∧ y_312.toInt ≤ z12.toInt) → lv_has ls 1 [(0, .ref h0)] → W p l e (headSpec wq_c_X12_next ({ frames := 1, cells := 0, slots := 0, locals := 20 } : Room)).room s m ([.ref h0].toArray) below meth c H locs 0 0 (MQ below (va_Qv (fun (_ : Unit) => True) (fun (_ : Unit) t => ∃ f1 : Nat → va_E, Iv dC dI g A f1 t.heap ∧ Kp g [12] f f1 ∧ ∃ (w13 : Int32) (w14 : Int32) (w15 : Int32) (w16 : Int64), (f1 h0 = .inr (12, [.int z0, .int z1, .ref (gr g h0 2), .ref (gr g h0 3), .ref (gr g h0 4), .ref (gr g h0 5), .ref (gr g h0 6), .ref (gr g h0 7), .ref (gr g h0 8), .ref (gr g h0 9), .int z10, .ref (gr g h0 11), .int z12, .int w13, .int w14, .int w15, .long w16, .int z17, .int z18, .ref (gr g h0 19), .ref (gr g h0 20), .ref (gr g h0 21), .ref (gr g h0 22), .int z23, .long z24, .long z25, .long z26])) ∧ (0 ≤ w14.toInt ∧ w14.toInt ≤ z12.toInt)) A) ([.ref h0].toArray) s 0 0 A) (F0 m 243 ls []) := by
                        intro nn_243
                        induction nn_243 with
                        | zero => intro y_312 y_313 f_311 H locs ls m_318; exact absurd m_318 (Nat.not_lt_zero _)
                        | succ nn_243 ih_243 =>
                          intro y_312 y_313 f_311 H locs ls m_318 hI hS k_314 k_315 kp_316 t_317 hl
                          have g_319 := Int32.toInt_lt y_312
                          have g_320 := Int32.le_toInt y_312
                          have g_321 := Int32.toInt_lt z12
                          have g_322 := Int32.le_toInt z12
                          refine lv_aload_n hx hb dX12_next_243 rfl (lv_at hl 0 rfl) ?_
                          refine k_get (ci := 12) (v := .int y_23) (C := RX12) (T := TX12) (N := 27) hx hb hts (fun _ h0_ => List.mem_cons_of_mem _ (List.mem_append_right _ (List.mem_append_left _ h0_))) hown hK hI i_h0.1 k_314 rfl 15 (by decide) (hts (.fieldLink RX12 190 "DeadlineShareModel" "sort" "I") (List.mem_cons_of_mem _ (List.mem_append_left _ (List.mem_of_getElem? (i := 4) rfl)))) (fun _ h9 => h9) rfl dX12_next_244 ?_
                          refine lv_iconst (v := 2) hx hb dX12_next_247 (by decide) ?_
                          refine lv_icmp_ne (tgt := 335) hx hb dX12_next_248 (by decide) (fun c_323 => ?_) (fun c_323 => ?_)
                          · have c_323 := kn_eq rfl (by decide : Int32.toInt 2 = 2) c_323
                            exact W.vret hx hb hr (fun t ht hW => ⟨⟨(), rfl, trivial, ⟨f_311, k_ret ht hI, kp_316, y_6, y_312, y_23, y_313, k_314, (by first | omega | decide)⟩⟩, hS.F ht⟩) hS.2.2 dX12_next_335
                          · have c_323 := kc_eq rfl (by decide : Int32.toInt 2 = 2) c_323
                            refine lv_aload_n hx hb dX12_next_251 rfl (lv_at hl 0 rfl) ?_
                            refine k_get (ci := 12) (v := .int y_312) (C := RX12) (T := TX12) (N := 27) hx hb hts (fun _ h0_ => List.mem_cons_of_mem _ (List.mem_append_right _ (List.mem_append_left _ h0_))) hown hK hI i_h0.1 k_314 rfl 14 (by decide) (hts (.fieldLink RX12 174 "DeadlineShareModel" "to" "I") (List.mem_cons_of_mem _ (List.mem_append_left _ (List.mem_of_getElem? (i := 0) rfl)))) (fun _ h9 => h9) rfl dX12_next_252 ?_
                            refine lv_aload_n hx hb dX12_next_255 rfl (lv_at hl 0 rfl) ?_
                            refine k_get (ci := 12) (v := .int z12) (C := RX12) (T := TX12) (N := 27) hx hb hts (fun _ h0_ => List.mem_cons_of_mem _ (List.mem_append_right _ (List.mem_append_left _ h0_))) hown hK hI i_h0.1 k_314 rfl 12 (by decide) (hts (.fieldLink RX12 128 "DeadlineShareModel" "taped" "I") (List.mem_cons_of_mem _ (List.mem_append_left _ (List.mem_of_getElem? (i := 2) rfl)))) (fun _ h9 => h9) rfl dX12_next_256 ?_
                            refine lv_icmp_ge (tgt := 335) hx hb dX12_next_259 (by decide) (fun c_324 => ?_) (fun c_324 => ?_)
                            · have c_324 := kc_le rfl rfl c_324
                              exact W.vret hx hb hr (fun t ht hW => ⟨⟨(), rfl, trivial, ⟨f_311, k_ret ht hI, kp_316, y_6, y_312, y_23, y_313, k_314, (by first | omega | decide)⟩⟩, hS.F ht⟩) hS.2.2 dX12_next_335
                            · have c_324 := kn_le rfl rfl c_324
                              refine lv_aload_n hx hb dX12_next_262 rfl (lv_at hl 0 rfl) ?_
                              refine k_get (ci := 12) (v := .ref (gr g h0 11)) (C := RX12) (T := TX12) (N := 27) hx hb hts (fun _ h0_ => List.mem_cons_of_mem _ (List.mem_append_right _ (List.mem_append_left _ h0_))) hown hK hI i_h0.1 k_314 rfl 11 (by decide) (hts (.fieldLink RX12 36 "DeadlineShareModel" "tape" "[I") (List.mem_cons_of_mem _ (List.mem_append_left _ (List.mem_of_getElem? (i := 5) rfl)))) (fun _ h9 => h9) rfl dX12_next_263 ?_
                              refine lv_aload_n hx hb dX12_next_266 rfl (lv_at hl 0 rfl) ?_
                              refine k_get (ci := 12) (v := .int y_312) (C := RX12) (T := TX12) (N := 27) hx hb hts (fun _ h0_ => List.mem_cons_of_mem _ (List.mem_append_right _ (List.mem_append_left _ h0_))) hown hK hI i_h0.1 k_314 rfl 14 (by decide) (hts (.fieldLink RX12 174 "DeadlineShareModel" "to" "I") (List.mem_cons_of_mem _ (List.mem_append_left _ (List.mem_of_getElem? (i := 0) rfl)))) (fun _ h9 => h9) rfl dX12_next_267 ?_
                              refine k_iald hx hb hK hI i_195.1 0 k_315 rfl (vp_in_iff.mpr (by omega)) dX12_next_270 ?_
                              refine lv_topi (fun v_327 ev_327 => ?_)
                              refine va_calli (va_runS (As := [.int v_327]) (rest := []) ⟨hx, hb, hml, hown, hts⟩ (c_X12_isDigit l dC dI g A hG f_311 v_327) (va_cwS 1 hts (gi_S (fun w_ h0_ => ⟨List.mem_cons_of_mem _ (List.mem_append_right _ (List.mem_append_right _ (List.mem_append_left _ h0_))), (tb_c_X12_isDigit w_ h0_).2⟩) (List.mem_cons_of_mem _ (List.mem_append_left _ (List.mem_of_getElem? (i := 6) rfl))) (List.mem_cons_of_mem _ (List.mem_append_left _ (List.mem_of_getElem? (i := 7) rfl))) (List.mem_cons_of_mem _ (List.mem_append_left _ (List.mem_of_getElem? (i := 8) rfl)))) rfl rfl rfl (by decide +kernel) ⟨Nat.le_of_ble_eq_true rfl, Nat.le_of_ble_eq_true rfl⟩) ⟨fun a U g mk q => ⟨q.1, q.2.calling rfl rfl⟩, fun U hU hW => ⟨rfl, kIn.of hI hK hE hS hU hW⟩⟩ rfl rfl hl.1 rfl (lv_room (Nat.le_of_ble_eq_true rfl)) dX12_next_271 ⟨Nat.le_of_ble_eq_true rfl, Nat.le_of_ble_eq_true rfl⟩) hS (fun q _ h => h) (fun q h => h) (fun r_329 u t H1 locs ht hvm w_328 hB hz1 hk1 hS => ?_)
                              have hI : Iv dC dI g A f_311 t.heap := hB
                              rw [ht] at hI
                              generalize H1 = H at hI hS ⊢
                              refine W.widen (k := 0) (n := 0) (Nat.le_of_ble_eq_true rfl) (Nat.le_of_ble_eq_true rfl) ?_
                              refine lv_if_eq (tgt := 335) hx hb dX12_next_274 (by decide) (fun c_330 => ?_) (fun c_330 => ?_)
                              · have c_330 := kc_eq rfl (by decide : Int32.toInt 0 = 0) c_330
                                exact W.vret hx hb hr (fun t ht hW => ⟨⟨(), rfl, trivial, ⟨f_311, k_ret ht hI, kp_316, y_6, y_312, y_23, y_313, k_314, (by first | omega | decide)⟩⟩, hS.F ht⟩) hS.2.2 dX12_next_335
                              · have c_330 := kn_eq rfl (by decide : Int32.toInt 0 = 0) c_330
                                refine lv_aload_n hx hb dX12_next_277 rfl (lv_at hl 0 rfl) ?_
                                refine lv_aload_n hx hb dX12_next_278 rfl (lv_at hl 0 rfl) ?_
                                refine k_get (ci := 12) (v := .long y_313) (C := RX12) (T := TX12) (N := 27) hx hb hts (fun _ h0_ => List.mem_cons_of_mem _ (List.mem_append_right _ (List.mem_append_left _ h0_))) hown hK hI i_h0.1 k_314 rfl 16 (by decide) (hts (.fieldLink RX12 180 "DeadlineShareModel" "worth" "J") (List.mem_cons_of_mem _ (List.mem_append_left _ (List.mem_of_getElem? (i := 3) rfl)))) (fun _ h9 => h9) rfl dX12_next_279 ?_
                                refine lv_ldc2 hx hb hown (hts (.constantLong RX12 126 (1000000)) (List.mem_cons_of_mem _ (List.mem_append_left _ (List.mem_of_getElem? (i := 9) rfl)))) dX12_next_282 ?_
                                refine W.lcmp hx hb dX12_next_285 ?_
                                have J_319 : ∀ (y_331 : Int64) (H : Heap) (locs : List Loc) (ls : Array Slot), Iv dC dI g A f_311 H → va_S A s.heap H locs → lv_has ls 1 [(0, .ref h0)] → W p l e (headSpec wq_c_X12_next ({ frames := 1, cells := 0, slots := 0, locals := 20 } : Room)).room s m ([.ref h0].toArray) below meth c H locs 0 0 (MQ below (va_Qv (fun (_ : Unit) => True) (fun (_ : Unit) t => ∃ f1 : Nat → va_E, Iv dC dI g A f1 t.heap ∧ Kp g [12] f f1 ∧ ∃ (w13 : Int32) (w14 : Int32) (w15 : Int32) (w16 : Int64), (f1 h0 = .inr (12, [.int z0, .int z1, .ref (gr g h0 2), .ref (gr g h0 3), .ref (gr g h0 4), .ref (gr g h0 5), .ref (gr g h0 6), .ref (gr g h0 7), .ref (gr g h0 8), .ref (gr g h0 9), .int z10, .ref (gr g h0 11), .int z12, .int w13, .int w14, .int w15, .long w16, .int z17, .int z18, .ref (gr g h0 19), .ref (gr g h0 20), .ref (gr g h0 21), .ref (gr g h0 22), .int z23, .long z24, .long z25, .long z26])) ∧ (0 ≤ w14.toInt ∧ w14.toInt ≤ z12.toInt)) A) ([.ref h0].toArray) s 0 0 A) (F0 m 319 ls [.long y_331, .ref h0]) := by
                                  intro y_331 H locs ls hI hS  hl
                                  refine k_put (ci := 12) (v := .long y_331) (ty := .long) (C := RX12) (T := TX12) (N := 27) hx hb hts (fun _ h0_ => List.mem_cons_of_mem _ (List.mem_append_right _ (List.mem_append_left _ h0_))) tyX12 tyX12_ok nmX12 hown hK hI hS i_h0.1 k_314 rfl 16 (by decide) (hts (.fieldLink RX12 180 "DeadlineShareModel" "worth" "J") (List.mem_cons_of_mem _ (List.mem_append_left _ (List.mem_of_getElem? (i := 3) rfl)))) (fun _ h9 => h9) rfl (by decide +kernel) rfl rfl (Nat.le_of_ble_eq_true rfl) rfl (cl_12 i_h0 (by omega) (by omega) (by omega)) dX12_next_319 (fun f_332 H locs e_333 hI hS => ?_)
                                  have k_335 : f_332 h0 = .inr (12, [.int z0, .int z1, .ref (gr g h0 2), .ref (gr g h0 3), .ref (gr g h0 4), .ref (gr g h0 5), .ref (gr g h0 6), .ref (gr g h0 7), .ref (gr g h0 8), .ref (gr g h0 9), .int z10, .ref (gr g h0 11), .int z12, .int y_6, .int y_312, .int y_23, .long y_331, .int z17, .int z18, .ref (gr g h0 19), .ref (gr g h0 20), .ref (gr g h0 21), .ref (gr g h0 22), .int z23, .long z24, .long z25, .long z26]) := by rw [e_333]; exact va_up_self _ _ _
                                  have k_336 : f_332 (gr g h0 11) = .inl (gc g 0, 200, .inl q_197) := by rw [e_333, va_up_ne _ _ (ik_ne i_195 i_h0 (by decide))]; exact k_315
                                  have kp_334 := Kp.put kp_316 i_h0 (by decide) e_333
                                  refine lv_aload_n hx hb dX12_next_322 rfl (lv_at hl 0 rfl) ?_
                                  refine lv_dup hx hb dX12_next_323 rfl ?_
                                  refine k_get (ci := 12) (v := .int y_312) (C := RX12) (T := TX12) (N := 27) hx hb hts (fun _ h0_ => List.mem_cons_of_mem _ (List.mem_append_right _ (List.mem_append_left _ h0_))) hown hK hI i_h0.1 k_335 rfl 14 (by decide) (hts (.fieldLink RX12 174 "DeadlineShareModel" "to" "I") (List.mem_cons_of_mem _ (List.mem_append_left _ (List.mem_of_getElem? (i := 0) rfl)))) (fun _ h9 => h9) rfl dX12_next_324 ?_
                                  refine lv_iconst (v := 1) hx hb dX12_next_327 (by decide) ?_
                                  refine lv_iadd hx hb dX12_next_328 ?_
                                  refine lv_topi (fun v_337 ev_337 => ?_)
                                  have tv_337 := k_ad y_312 1
                                  rw [← ev_337, show Int32.toInt 1 = 1 from by decide] at tv_337
                                  refine k_put (ci := 12) (v := .int v_337) (ty := .int) (C := RX12) (T := TX12) (N := 27) hx hb hts (fun _ h0_ => List.mem_cons_of_mem _ (List.mem_append_right _ (List.mem_append_left _ h0_))) tyX12 tyX12_ok nmX12 hown hK hI hS i_h0.1 k_335 rfl 14 (by decide) (hts (.fieldLink RX12 174 "DeadlineShareModel" "to" "I") (List.mem_cons_of_mem _ (List.mem_append_left _ (List.mem_of_getElem? (i := 0) rfl)))) (fun _ h9 => h9) rfl (by decide +kernel) rfl rfl (Nat.le_of_ble_eq_true rfl) rfl (cl_12 i_h0 (by omega) (by omega) (by omega)) dX12_next_329 (fun f_338 H locs e_339 hI hS => ?_)
                                  have k_341 : f_338 h0 = .inr (12, [.int z0, .int z1, .ref (gr g h0 2), .ref (gr g h0 3), .ref (gr g h0 4), .ref (gr g h0 5), .ref (gr g h0 6), .ref (gr g h0 7), .ref (gr g h0 8), .ref (gr g h0 9), .int z10, .ref (gr g h0 11), .int z12, .int y_6, .int v_337, .int y_23, .long y_331, .int z17, .int z18, .ref (gr g h0 19), .ref (gr g h0 20), .ref (gr g h0 21), .ref (gr g h0 22), .int z23, .long z24, .long z25, .long z26]) := by rw [e_339]; exact va_up_self _ _ _
                                  have k_342 : f_338 (gr g h0 11) = .inl (gc g 0, 200, .inl q_197) := by rw [e_339, va_up_ne _ _ (ik_ne i_195 i_h0 (by decide))]; exact k_336
                                  have kp_340 := Kp.put kp_334 i_h0 (by decide) e_339
                                  refine lv_goto (tgt := 243) hx hb dX12_next_332 (by decide) ?_
                                  exact ih_243 v_337 y_331 f_338 _ _ _ (by omega) hI hS k_341 k_342 kp_340 (by first | omega | decide | exact Or.inl (by decide)) (lv_sub hl [0] rfl)
                                refine lv_if_le (tgt := 296) hx hb dX12_next_286 (by decide) (fun c_343 => ?_) (fun c_343 => ?_)
                                · have c_343 := lc_le rfl (by decide : Int64.toInt 1000000 = 1000000) ((lg_cmp_le _ _).mp c_343)
                                  refine lv_aload_n hx hb dX12_next_296 rfl (lv_at hl 0 rfl) ?_
                                  refine k_get (ci := 12) (v := .long y_313) (C := RX12) (T := TX12) (N := 27) hx hb hts (fun _ h0_ => List.mem_cons_of_mem _ (List.mem_append_right _ (List.mem_append_left _ h0_))) hown hK hI i_h0.1 k_314 rfl 16 (by decide) (hts (.fieldLink RX12 180 "DeadlineShareModel" "worth" "J") (List.mem_cons_of_mem _ (List.mem_append_left _ (List.mem_of_getElem? (i := 3) rfl)))) (fun _ h9 => h9) rfl dX12_next_297 ?_
                                  refine lv_ldc2 hx hb hown (hts (.constantLong RX12 197 (10)) (List.mem_cons_of_mem _ (List.mem_append_left _ (List.mem_of_getElem? (i := 10) rfl)))) dX12_next_300 ?_
                                  refine lv_lmul hx hb dX12_next_303 ?_
                                  refine lv_topl (fun v_344 ev_344 => ?_)
                                  refine lv_aload_n hx hb dX12_next_304 rfl (lv_at hl 0 rfl) ?_
                                  refine k_get (ci := 12) (v := .ref (gr g h0 11)) (C := RX12) (T := TX12) (N := 27) hx hb hts (fun _ h0_ => List.mem_cons_of_mem _ (List.mem_append_right _ (List.mem_append_left _ h0_))) hown hK hI i_h0.1 k_314 rfl 11 (by decide) (hts (.fieldLink RX12 36 "DeadlineShareModel" "tape" "[I") (List.mem_cons_of_mem _ (List.mem_append_left _ (List.mem_of_getElem? (i := 5) rfl)))) (fun _ h9 => h9) rfl dX12_next_305 ?_
                                  refine lv_aload_n hx hb dX12_next_308 rfl (lv_at hl 0 rfl) ?_
                                  refine k_get (ci := 12) (v := .int y_312) (C := RX12) (T := TX12) (N := 27) hx hb hts (fun _ h0_ => List.mem_cons_of_mem _ (List.mem_append_right _ (List.mem_append_left _ h0_))) hown hK hI i_h0.1 k_314 rfl 14 (by decide) (hts (.fieldLink RX12 174 "DeadlineShareModel" "to" "I") (List.mem_cons_of_mem _ (List.mem_append_left _ (List.mem_of_getElem? (i := 0) rfl)))) (fun _ h9 => h9) rfl dX12_next_309 ?_
                                  refine k_iald hx hb hK hI i_195.1 0 k_315 rfl (vp_in_iff.mpr (by omega)) dX12_next_312 ?_
                                  refine lv_topi (fun v_347 ev_347 => ?_)
                                  refine lv_i2l (v := v_347.toInt64) hx hb dX12_next_313 rfl ?_
                                  have t_348 := Int32.toInt_toInt64 v_347
                                  refine lv_ladd hx hb dX12_next_314 ?_
                                  refine lv_topl (fun v_349 ev_349 => ?_)
                                  have tv_349 := l_ad v_344 v_347.toInt64
                                  rw [← ev_349] at tv_349
                                  refine lv_ldc2 hx hb hown (hts (.constantLong RX12 199 (48)) (List.mem_cons_of_mem _ (List.mem_append_left _ (List.mem_of_getElem? (i := 11) rfl)))) dX12_next_315 ?_
                                  refine lv_lsub hx hb dX12_next_318 ?_
                                  refine lv_topl (fun v_350 ev_350 => ?_)
                                  have tv_350 := l_sb v_349 48
                                  rw [← ev_350, show Int64.toInt 48 = 48 from by decide] at tv_350
                                  exact J_319 v_350 _ _ _ hI hS  (lv_sub hl [0] rfl)
                                · have c_343 := ln_le rfl (by decide : Int64.toInt 1000000 = 1000000) (fun h9 => c_343 ((lg_cmp_le _ _).mpr h9))
                                  refine lv_aload_n hx hb dX12_next_289 rfl (lv_at hl 0 rfl) ?_
                                  refine k_get (ci := 12) (v := .long y_313) (C := RX12) (T := TX12) (N := 27) hx hb hts (fun _ h0_ => List.mem_cons_of_mem _ (List.mem_append_right _ (List.mem_append_left _ h0_))) hown hK hI i_h0.1 k_314 rfl 16 (by decide) (hts (.fieldLink RX12 180 "DeadlineShareModel" "worth" "J") (List.mem_cons_of_mem _ (List.mem_append_left _ (List.mem_of_getElem? (i := 3) rfl)))) (fun _ h9 => h9) rfl dX12_next_290 ?_
                                  refine lv_goto (tgt := 319) hx hb dX12_next_293 (by decide) ?_
                                  exact J_319 y_313 _ _ _ hI hS  (lv_sub hl [0] rfl)
                      exact K_243 _ y_212 y_213 f_211 _ _ _ (Nat.lt_succ_self _) hI hS k_214 k_215 kp_216 (by first | omega | decide | exact Or.inl (by decide)) (lv_sub hl [0] rfl)
                    · have c_310 := kn_eq rfl (by decide : Int32.toInt 0 = 0) c_310
                      refine lv_aload_n hx hb dX12_next_183 rfl (lv_at hl 0 rfl) ?_
                      refine lv_aload_n hx hb dX12_next_184 rfl (lv_at hl 0 rfl) ?_
                      refine k_get (ci := 12) (v := .int y_212) (C := RX12) (T := TX12) (N := 27) hx hb hts (fun _ h0_ => List.mem_cons_of_mem _ (List.mem_append_right _ (List.mem_append_left _ h0_))) hown hK hI i_h0.1 k_214 rfl 14 (by decide) (hts (.fieldLink RX12 174 "DeadlineShareModel" "to" "I") (List.mem_cons_of_mem _ (List.mem_append_left _ (List.mem_of_getElem? (i := 0) rfl)))) (fun _ h9 => h9) rfl dX12_next_185 ?_
                      refine lv_aload_n hx hb dX12_next_188 rfl (lv_at hl 0 rfl) ?_
                      refine k_get (ci := 12) (v := .int y_6) (C := RX12) (T := TX12) (N := 27) hx hb hts (fun _ h0_ => List.mem_cons_of_mem _ (List.mem_append_right _ (List.mem_append_left _ h0_))) hown hK hI i_h0.1 k_214 rfl 13 (by decide) (hts (.fieldLink RX12 177 "DeadlineShareModel" "from" "I") (List.mem_cons_of_mem _ (List.mem_append_left _ (List.mem_of_getElem? (i := 1) rfl)))) (fun _ h9 => h9) rfl dX12_next_189 ?_
                      refine lv_isub hx hb dX12_next_192 ?_
                      refine lv_topi (fun v_351 ev_351 => ?_)
                      have tv_351 := k_sb y_212 y_6
                      rw [← ev_351] at tv_351
                      refine lv_bipush (v := 10) hx hb dX12_next_193 (by decide) ?_
                      have J_227 : ∀ (y_352 : Int64) (H : Heap) (locs : List Loc) (ls : Array Slot), Iv dC dI g A f_211 H → va_S A s.heap H locs → lv_has ls 1 [(0, .ref h0)] → W p l e (headSpec wq_c_X12_next ({ frames := 1, cells := 0, slots := 0, locals := 20 } : Room)).room s m ([.ref h0].toArray) below meth c H locs 0 0 (MQ below (va_Qv (fun (_ : Unit) => True) (fun (_ : Unit) t => ∃ f1 : Nat → va_E, Iv dC dI g A f1 t.heap ∧ Kp g [12] f f1 ∧ ∃ (w13 : Int32) (w14 : Int32) (w15 : Int32) (w16 : Int64), (f1 h0 = .inr (12, [.int z0, .int z1, .ref (gr g h0 2), .ref (gr g h0 3), .ref (gr g h0 4), .ref (gr g h0 5), .ref (gr g h0 6), .ref (gr g h0 7), .ref (gr g h0 8), .ref (gr g h0 9), .int z10, .ref (gr g h0 11), .int z12, .int w13, .int w14, .int w15, .long w16, .int z17, .int z18, .ref (gr g h0 19), .ref (gr g h0 20), .ref (gr g h0 21), .ref (gr g h0 22), .int z23, .long z24, .long z25, .long z26])) ∧ (0 ≤ w14.toInt ∧ w14.toInt ≤ z12.toInt)) A) ([.ref h0].toArray) s 0 0 A) (F0 m 227 ls [.long y_352, .ref h0]) := by
                        intro y_352 H locs ls hI hS  hl
                        refine k_put (ci := 12) (v := .long y_352) (ty := .long) (C := RX12) (T := TX12) (N := 27) hx hb hts (fun _ h0_ => List.mem_cons_of_mem _ (List.mem_append_right _ (List.mem_append_left _ h0_))) tyX12 tyX12_ok nmX12 hown hK hI hS i_h0.1 k_214 rfl 16 (by decide) (hts (.fieldLink RX12 180 "DeadlineShareModel" "worth" "J") (List.mem_cons_of_mem _ (List.mem_append_left _ (List.mem_of_getElem? (i := 3) rfl)))) (fun _ h9 => h9) rfl (by decide +kernel) rfl rfl (Nat.le_of_ble_eq_true rfl) rfl (cl_12 i_h0 (by omega) (by omega) (by omega)) dX12_next_227 (fun f_353 H locs e_354 hI hS => ?_)
                        have k_356 : f_353 h0 = .inr (12, [.int z0, .int z1, .ref (gr g h0 2), .ref (gr g h0 3), .ref (gr g h0 4), .ref (gr g h0 5), .ref (gr g h0 6), .ref (gr g h0 7), .ref (gr g h0 8), .ref (gr g h0 9), .int z10, .ref (gr g h0 11), .int z12, .int y_6, .int y_212, .int y_23, .long y_352, .int z17, .int z18, .ref (gr g h0 19), .ref (gr g h0 20), .ref (gr g h0 21), .ref (gr g h0 22), .int z23, .long z24, .long z25, .long z26]) := by rw [e_354]; exact va_up_self _ _ _
                        have k_357 : f_353 (gr g h0 11) = .inl (gc g 0, 200, .inl q_197) := by rw [e_354, va_up_ne _ _ (ik_ne i_195 i_h0 (by decide))]; exact k_215
                        have kp_355 := Kp.put kp_216 i_h0 (by decide) e_354
                        refine lv_aload_n hx hb dX12_next_230 rfl (lv_at hl 0 rfl) ?_
                        refine lv_dup hx hb dX12_next_231 rfl ?_
                        refine k_get (ci := 12) (v := .int y_212) (C := RX12) (T := TX12) (N := 27) hx hb hts (fun _ h0_ => List.mem_cons_of_mem _ (List.mem_append_right _ (List.mem_append_left _ h0_))) hown hK hI i_h0.1 k_356 rfl 14 (by decide) (hts (.fieldLink RX12 174 "DeadlineShareModel" "to" "I") (List.mem_cons_of_mem _ (List.mem_append_left _ (List.mem_of_getElem? (i := 0) rfl)))) (fun _ h9 => h9) rfl dX12_next_232 ?_
                        refine lv_iconst (v := 1) hx hb dX12_next_235 (by decide) ?_
                        refine lv_iadd hx hb dX12_next_236 ?_
                        refine lv_topi (fun v_358 ev_358 => ?_)
                        have tv_358 := k_ad y_212 1
                        rw [← ev_358, show Int32.toInt 1 = 1 from by decide] at tv_358
                        refine k_put (ci := 12) (v := .int v_358) (ty := .int) (C := RX12) (T := TX12) (N := 27) hx hb hts (fun _ h0_ => List.mem_cons_of_mem _ (List.mem_append_right _ (List.mem_append_left _ h0_))) tyX12 tyX12_ok nmX12 hown hK hI hS i_h0.1 k_356 rfl 14 (by decide) (hts (.fieldLink RX12 174 "DeadlineShareModel" "to" "I") (List.mem_cons_of_mem _ (List.mem_append_left _ (List.mem_of_getElem? (i := 0) rfl)))) (fun _ h9 => h9) rfl (by decide +kernel) rfl rfl (Nat.le_of_ble_eq_true rfl) rfl (cl_12 i_h0 (by omega) (by omega) (by omega)) dX12_next_237 (fun f_359 H locs e_360 hI hS => ?_)
                        have k_362 : f_359 h0 = .inr (12, [.int z0, .int z1, .ref (gr g h0 2), .ref (gr g h0 3), .ref (gr g h0 4), .ref (gr g h0 5), .ref (gr g h0 6), .ref (gr g h0 7), .ref (gr g h0 8), .ref (gr g h0 9), .int z10, .ref (gr g h0 11), .int z12, .int y_6, .int v_358, .int y_23, .long y_352, .int z17, .int z18, .ref (gr g h0 19), .ref (gr g h0 20), .ref (gr g h0 21), .ref (gr g h0 22), .int z23, .long z24, .long z25, .long z26]) := by rw [e_360]; exact va_up_self _ _ _
                        have k_363 : f_359 (gr g h0 11) = .inl (gc g 0, 200, .inl q_197) := by rw [e_360, va_up_ne _ _ (ik_ne i_195 i_h0 (by decide))]; exact k_357
                        have kp_361 := Kp.put kp_355 i_h0 (by decide) e_360
                        refine lv_goto (tgt := 149) hx hb dX12_next_240 (by decide) ?_
                        exact ih_149 v_358 y_352 f_359 _ _ _ (by omega) hI hS k_362 k_363 kp_361 (by first | omega | decide | exact Or.inl (by decide)) (lv_sub hl [0] rfl)
                      refine lv_icmp_ge (tgt := 224) hx hb dX12_next_195 (by decide) (fun c_364 => ?_) (fun c_364 => ?_)
                      · have c_364 := kc_le (by decide : Int32.toInt 10 = 10) rfl c_364
                        refine lv_ldc2 hx hb hown (hts (.constantLong RX12 65 (-1)) (List.mem_cons_of_mem _ (List.mem_append_left _ (List.mem_of_getElem? (i := 14) rfl)))) dX12_next_224 ?_
                        exact J_227 (-1) _ _ _ hI hS  (lv_sub hl [0] rfl)
                      · have c_364 := kn_le (by decide : Int32.toInt 10 = 10) rfl c_364
                        refine lv_aload_n hx hb dX12_next_198 rfl (lv_at hl 0 rfl) ?_
                        refine k_get (ci := 12) (v := .long y_213) (C := RX12) (T := TX12) (N := 27) hx hb hts (fun _ h0_ => List.mem_cons_of_mem _ (List.mem_append_right _ (List.mem_append_left _ h0_))) hown hK hI i_h0.1 k_214 rfl 16 (by decide) (hts (.fieldLink RX12 180 "DeadlineShareModel" "worth" "J") (List.mem_cons_of_mem _ (List.mem_append_left _ (List.mem_of_getElem? (i := 3) rfl)))) (fun _ h9 => h9) rfl dX12_next_199 ?_
                        refine lv_ldc2 hx hb hown (hts (.constantLong RX12 193 (32)) (List.mem_cons_of_mem _ (List.mem_append_left _ (List.mem_of_getElem? (i := 15) rfl)))) dX12_next_202 ?_
                        refine lv_lmul hx hb dX12_next_205 ?_
                        refine lv_topl (fun v_365 ev_365 => ?_)
                        refine lv_aload_n hx hb dX12_next_206 rfl (lv_at hl 0 rfl) ?_
                        refine k_get (ci := 12) (v := .ref (gr g h0 11)) (C := RX12) (T := TX12) (N := 27) hx hb hts (fun _ h0_ => List.mem_cons_of_mem _ (List.mem_append_right _ (List.mem_append_left _ h0_))) hown hK hI i_h0.1 k_214 rfl 11 (by decide) (hts (.fieldLink RX12 36 "DeadlineShareModel" "tape" "[I") (List.mem_cons_of_mem _ (List.mem_append_left _ (List.mem_of_getElem? (i := 5) rfl)))) (fun _ h9 => h9) rfl dX12_next_207 ?_
                        refine lv_aload_n hx hb dX12_next_210 rfl (lv_at hl 0 rfl) ?_
                        refine k_get (ci := 12) (v := .int y_212) (C := RX12) (T := TX12) (N := 27) hx hb hts (fun _ h0_ => List.mem_cons_of_mem _ (List.mem_append_right _ (List.mem_append_left _ h0_))) hown hK hI i_h0.1 k_214 rfl 14 (by decide) (hts (.fieldLink RX12 174 "DeadlineShareModel" "to" "I") (List.mem_cons_of_mem _ (List.mem_append_left _ (List.mem_of_getElem? (i := 0) rfl)))) (fun _ h9 => h9) rfl dX12_next_211 ?_
                        refine k_iald hx hb hK hI i_195.1 0 k_215 rfl (vp_in_iff.mpr (by omega)) dX12_next_214 ?_
                        refine lv_topi (fun v_368 ev_368 => ?_)
                        refine lv_i2l (v := v_368.toInt64) hx hb dX12_next_215 rfl ?_
                        have t_369 := Int32.toInt_toInt64 v_368
                        refine lv_ladd hx hb dX12_next_216 ?_
                        refine lv_topl (fun v_370 ev_370 => ?_)
                        have tv_370 := l_ad v_365 v_368.toInt64
                        rw [← ev_370] at tv_370
                        refine lv_ldc2 hx hb hown (hts (.constantLong RX12 195 (96)) (List.mem_cons_of_mem _ (List.mem_append_left _ (List.mem_of_getElem? (i := 16) rfl)))) dX12_next_217 ?_
                        refine lv_lsub hx hb dX12_next_220 ?_
                        refine lv_topl (fun v_371 ev_371 => ?_)
                        have tv_371 := l_sb v_370 96
                        rw [← ev_371, show Int64.toInt 96 = 96 from by decide] at tv_371
                        refine lv_goto (tgt := 227) hx hb dX12_next_221 (by decide) ?_
                        exact J_227 v_371 _ _ _ hI hS  (lv_sub hl [0] rfl)
            exact K_149 _ v_205 v_198.toInt64 f_206 _ _ _ (Nat.lt_succ_self _) hI hS k_209 k_210 kp_208 (by first | omega | decide | exact Or.inl (by decide)) (lv_sub hl [0] rfl)
        refine lv_icmp_ne (tgt := 75) hx hb dX12_next_68 (by decide) (fun c_372 => ?_) (fun c_372 => ?_)
        · have c_372 := kn_eq rfl rfl c_372
          refine lv_aload_n hx hb dX12_next_75 rfl (lv_at hl 0 rfl) ?_
          refine k_get (ci := 12) (v := .ref (gr g h0 11)) (C := RX12) (T := TX12) (N := 27) hx hb hts (fun _ h0_ => List.mem_cons_of_mem _ (List.mem_append_right _ (List.mem_append_left _ h0_))) hown hK hI i_h0.1 k_22 rfl 11 (by decide) (hts (.fieldLink RX12 36 "DeadlineShareModel" "tape" "[I") (List.mem_cons_of_mem _ (List.mem_append_left _ (List.mem_of_getElem? (i := 5) rfl)))) (fun _ h9 => h9) rfl dX12_next_76 ?_
          have i_374 := kw_12_11 hG i_h0
          refine lv_aload_n hx hb dX12_next_79 rfl (lv_at hl 0 rfl) ?_
          refine k_get (ci := 12) (v := .int y_6) (C := RX12) (T := TX12) (N := 27) hx hb hts (fun _ h0_ => List.mem_cons_of_mem _ (List.mem_append_right _ (List.mem_append_left _ h0_))) hown hK hI i_h0.1 k_22 rfl 13 (by decide) (hts (.fieldLink RX12 177 "DeadlineShareModel" "from" "I") (List.mem_cons_of_mem _ (List.mem_append_left _ (List.mem_of_getElem? (i := 1) rfl)))) (fun _ h9 => h9) rfl dX12_next_80 ?_
          obtain ⟨q_376, k_375⟩ := op_38 hI i_374
          refine k_iald hx hb hK hI i_374.1 0 k_375 rfl (vp_in_iff.mpr (by omega)) dX12_next_83 ?_
          refine lv_topi (fun v_377 ev_377 => ?_)
          refine va_calli (va_runS (As := [.int v_377]) (rest := [.ref h0]) ⟨hx, hb, hml, hown, hts⟩ (c_X12_isSmall l dC dI g A hG f_19 v_377) (va_cwS 1 hts (gi_S (fun w_ h0_ => ⟨List.mem_cons_of_mem _ (List.mem_append_right _ (List.mem_append_right _ (List.mem_append_right _ (List.mem_append_left _ h0_)))), (tb_c_X12_isSmall w_ h0_).2⟩) (List.mem_cons_of_mem _ (List.mem_append_left _ (List.mem_of_getElem? (i := 12) rfl))) (List.mem_cons_of_mem _ (List.mem_append_left _ (List.mem_of_getElem? (i := 13) rfl))) (List.mem_cons_of_mem _ (List.mem_append_left _ (List.mem_of_getElem? (i := 8) rfl)))) rfl rfl rfl (by decide +kernel) ⟨Nat.le_of_ble_eq_true rfl, Nat.le_of_ble_eq_true rfl⟩) ⟨fun a U g mk q => ⟨q.1, q.2.calling rfl rfl⟩, fun U hU hW => ⟨rfl, kIn.of hI hK hE hS hU hW⟩⟩ rfl rfl hl.1 rfl (lv_room (Nat.le_of_ble_eq_true rfl)) dX12_next_84 ⟨Nat.le_of_ble_eq_true rfl, Nat.le_of_ble_eq_true rfl⟩) hS (fun q _ h => h) (fun q h => h) (fun r_379 u t H1 locs ht hvm w_378 hB hz1 hk1 hS => ?_)
          have hI : Iv dC dI g A f_19 t.heap := hB
          rw [ht] at hI
          generalize H1 = H at hI hS ⊢
          refine W.widen (k := 0) (n := 0) (Nat.le_of_ble_eq_true rfl) (Nat.le_of_ble_eq_true rfl) ?_
          refine lv_if_eq (tgt := 94) hx hb dX12_next_87 (by decide) (fun c_380 => ?_) (fun c_380 => ?_)
          · have c_380 := kc_eq rfl (by decide : Int32.toInt 0 = 0) c_380
            refine lv_aload_n hx hb dX12_next_94 rfl (lv_at hl 0 rfl) ?_
            refine k_get (ci := 12) (v := .ref (gr g h0 11)) (C := RX12) (T := TX12) (N := 27) hx hb hts (fun _ h0_ => List.mem_cons_of_mem _ (List.mem_append_right _ (List.mem_append_left _ h0_))) hown hK hI i_h0.1 k_22 rfl 11 (by decide) (hts (.fieldLink RX12 36 "DeadlineShareModel" "tape" "[I") (List.mem_cons_of_mem _ (List.mem_append_left _ (List.mem_of_getElem? (i := 5) rfl)))) (fun _ h9 => h9) rfl dX12_next_95 ?_
            refine lv_aload_n hx hb dX12_next_98 rfl (lv_at hl 0 rfl) ?_
            refine k_get (ci := 12) (v := .int y_6) (C := RX12) (T := TX12) (N := 27) hx hb hts (fun _ h0_ => List.mem_cons_of_mem _ (List.mem_append_right _ (List.mem_append_left _ h0_))) hown hK hI i_h0.1 k_22 rfl 13 (by decide) (hts (.fieldLink RX12 177 "DeadlineShareModel" "from" "I") (List.mem_cons_of_mem _ (List.mem_append_left _ (List.mem_of_getElem? (i := 1) rfl)))) (fun _ h9 => h9) rfl dX12_next_99 ?_
            refine k_iald hx hb hK hI i_374.1 0 k_375 rfl (vp_in_iff.mpr (by omega)) dX12_next_102 ?_
            refine lv_topi (fun v_383 ev_383 => ?_)
            refine va_calli (va_runS (As := [.int v_383]) (rest := [.ref h0]) ⟨hx, hb, hml, hown, hts⟩ (c_X12_isDigit l dC dI g A hG f_19 v_383) (va_cwS 1 hts (gi_S (fun w_ h0_ => ⟨List.mem_cons_of_mem _ (List.mem_append_right _ (List.mem_append_right _ (List.mem_append_left _ h0_))), (tb_c_X12_isDigit w_ h0_).2⟩) (List.mem_cons_of_mem _ (List.mem_append_left _ (List.mem_of_getElem? (i := 6) rfl))) (List.mem_cons_of_mem _ (List.mem_append_left _ (List.mem_of_getElem? (i := 7) rfl))) (List.mem_cons_of_mem _ (List.mem_append_left _ (List.mem_of_getElem? (i := 8) rfl)))) rfl rfl rfl (by decide +kernel) ⟨Nat.le_of_ble_eq_true rfl, Nat.le_of_ble_eq_true rfl⟩) ⟨fun a U g mk q => ⟨q.1, q.2.calling rfl rfl⟩, fun U hU hW => ⟨rfl, kIn.of hI hK hE hS hU hW⟩⟩ rfl rfl hl.1 rfl (lv_room (Nat.le_of_ble_eq_true rfl)) dX12_next_103 ⟨Nat.le_of_ble_eq_true rfl, Nat.le_of_ble_eq_true rfl⟩) hS (fun q _ h => h) (fun q h => h) (fun r_385 u t H1 locs ht hvm w_384 hB hz1 hk1 hS => ?_)
            have hI : Iv dC dI g A f_19 t.heap := hB
            rw [ht] at hI
            generalize H1 = H at hI hS ⊢
            refine W.widen (k := 0) (n := 0) (Nat.le_of_ble_eq_true rfl) (Nat.le_of_ble_eq_true rfl) ?_
            refine lv_if_eq (tgt := 113) hx hb dX12_next_106 (by decide) (fun c_386 => ?_) (fun c_386 => ?_)
            · have c_386 := kc_eq rfl (by decide : Int32.toInt 0 = 0) c_386
              refine lv_iconst (v := 3) hx hb dX12_next_113 (by decide) ?_
              exact J_114 3 _ _ _ hI hS (by first | omega | decide | exact Or.inl (by decide) | (simp only [show Int32.toInt 3 = 3 from by decide] <;> omega)) (lv_sub hl [0] rfl)
            · have c_386 := kn_eq rfl (by decide : Int32.toInt 0 = 0) c_386
              refine lv_iconst (v := 2) hx hb dX12_next_109 (by decide) ?_
              refine lv_goto (tgt := 114) hx hb dX12_next_110 (by decide) ?_
              exact J_114 2 _ _ _ hI hS (by first | omega | decide | exact Or.inl (by decide) | (simp only [show Int32.toInt 2 = 2 from by decide] <;> omega)) (lv_sub hl [0] rfl)
          · have c_380 := kn_eq rfl (by decide : Int32.toInt 0 = 0) c_380
            refine lv_iconst (v := 1) hx hb dX12_next_90 (by decide) ?_
            refine lv_goto (tgt := 114) hx hb dX12_next_91 (by decide) ?_
            exact J_114 1 _ _ _ hI hS (by first | omega | decide | exact Or.inl (by decide) | (simp only [show Int32.toInt 1 = 1 from by decide] <;> omega)) (lv_sub hl [0] rfl)
        · have c_372 := kc_eq rfl rfl c_372
          refine lv_iconst (v := 0) hx hb dX12_next_71 (by decide) ?_
          refine lv_goto (tgt := 114) hx hb dX12_next_72 (by decide) ?_
          exact J_114 0 _ _ _ hI hS (by first | omega | decide | exact Or.inl (by decide) | (simp only [show Int32.toInt 0 = 0 from by decide] <;> omega)) (lv_sub hl [0] rfl)
      refine lv_icmp_ge (tgt := 46) hx hb dX12_next_16 (by decide) (fun c_387 => ?_) (fun c_387 => ?_)
      · have c_387 := kc_le rfl rfl c_387
        exact J_46  _ _ _ hI hS  (lv_sub hl [0] rfl)
      · have c_387 := kn_le rfl rfl c_387
        refine lv_aload_n hx hb dX12_next_19 rfl (lv_at hl 0 rfl) ?_
        refine k_get (ci := 12) (v := .ref (gr g h0 11)) (C := RX12) (T := TX12) (N := 27) hx hb hts (fun _ h0_ => List.mem_cons_of_mem _ (List.mem_append_right _ (List.mem_append_left _ h0_))) hown hK hI i_h0.1 k_7 rfl 11 (by decide) (hts (.fieldLink RX12 36 "DeadlineShareModel" "tape" "[I") (List.mem_cons_of_mem _ (List.mem_append_left _ (List.mem_of_getElem? (i := 5) rfl)))) (fun _ h9 => h9) rfl dX12_next_20 ?_
        have i_389 := kw_12_11 hG i_h0
        refine lv_aload_n hx hb dX12_next_23 rfl (lv_at hl 0 rfl) ?_
        refine k_get (ci := 12) (v := .int y_6) (C := RX12) (T := TX12) (N := 27) hx hb hts (fun _ h0_ => List.mem_cons_of_mem _ (List.mem_append_right _ (List.mem_append_left _ h0_))) hown hK hI i_h0.1 k_7 rfl 13 (by decide) (hts (.fieldLink RX12 177 "DeadlineShareModel" "from" "I") (List.mem_cons_of_mem _ (List.mem_append_left _ (List.mem_of_getElem? (i := 1) rfl)))) (fun _ h9 => h9) rfl dX12_next_24 ?_
        obtain ⟨q_391, k_390⟩ := op_38 hI i_389
        refine k_iald hx hb hK hI i_389.1 0 k_390 rfl (vp_in_iff.mpr (by omega)) dX12_next_27 ?_
        refine lv_topi (fun v_392 ev_392 => ?_)
        refine lv_bipush (v := 32) hx hb dX12_next_28 (by decide) ?_
        refine lv_icmp_ne (tgt := 46) hx hb dX12_next_30 (by decide) (fun c_393 => ?_) (fun c_393 => ?_)
        · have c_393 := kn_eq rfl (by decide : Int32.toInt 32 = 32) c_393
          exact J_46  _ _ _ hI hS  (lv_sub hl [0] rfl)
        · have c_393 := kc_eq rfl (by decide : Int32.toInt 32 = 32) c_393
          refine lv_aload_n hx hb dX12_next_33 rfl (lv_at hl 0 rfl) ?_
          refine lv_dup hx hb dX12_next_34 rfl ?_
          refine k_get (ci := 12) (v := .int y_6) (C := RX12) (T := TX12) (N := 27) hx hb hts (fun _ h0_ => List.mem_cons_of_mem _ (List.mem_append_right _ (List.mem_append_left _ h0_))) hown hK hI i_h0.1 k_7 rfl 13 (by decide) (hts (.fieldLink RX12 177 "DeadlineShareModel" "from" "I") (List.mem_cons_of_mem _ (List.mem_append_left _ (List.mem_of_getElem? (i := 1) rfl)))) (fun _ h9 => h9) rfl dX12_next_35 ?_
          refine lv_iconst (v := 1) hx hb dX12_next_38 (by decide) ?_
          refine lv_iadd hx hb dX12_next_39 ?_
          refine lv_topi (fun v_394 ev_394 => ?_)
          have tv_394 := k_ad y_6 1
          rw [← ev_394, show Int32.toInt 1 = 1 from by decide] at tv_394
          refine k_put (ci := 12) (v := .int v_394) (ty := .int) (C := RX12) (T := TX12) (N := 27) hx hb hts (fun _ h0_ => List.mem_cons_of_mem _ (List.mem_append_right _ (List.mem_append_left _ h0_))) tyX12 tyX12_ok nmX12 hown hK hI hS i_h0.1 k_7 rfl 13 (by decide) (hts (.fieldLink RX12 177 "DeadlineShareModel" "from" "I") (List.mem_cons_of_mem _ (List.mem_append_left _ (List.mem_of_getElem? (i := 1) rfl)))) (fun _ h9 => h9) rfl (by decide +kernel) rfl rfl (Nat.le_of_ble_eq_true rfl) rfl (cl_12 i_h0 (by omega) (by omega) (by omega)) dX12_next_40 (fun f_395 H locs e_396 hI hS => ?_)
          have k_398 : f_395 h0 = .inr (12, [.int z0, .int z1, .ref (gr g h0 2), .ref (gr g h0 3), .ref (gr g h0 4), .ref (gr g h0 5), .ref (gr g h0 6), .ref (gr g h0 7), .ref (gr g h0 8), .ref (gr g h0 9), .int z10, .ref (gr g h0 11), .int z12, .int v_394, .int z14, .int z15, .long z16, .int z17, .int z18, .ref (gr g h0 19), .ref (gr g h0 20), .ref (gr g h0 21), .ref (gr g h0 22), .int z23, .long z24, .long z25, .long z26]) := by rw [e_396]; exact va_up_self _ _ _
          have k_399 : f_395 (gr g h0 11) = .inl (gc g 0, 200, .inl q_391) := by rw [e_396, va_up_ne _ _ (ik_ne i_389 i_h0 (by decide))]; exact k_390
          have kp_397 := Kp.put kp_8 i_h0 (by decide) e_396
          refine lv_goto (tgt := 8) hx hb dX12_next_43 (by decide) ?_
          exact ih v_394 f_395 _ _ _ (by omega) hI hS k_398 kp_397 (by first | omega | decide | exact Or.inl (by decide)) (lv_sub hl [0] rfl)
  exact K_8 _ z14 f_1 _ _ _ (Nat.lt_succ_self _) hI hS k_4 kp_3 (by first | omega | decide | exact Or.inl (by decide)) (lv_sub hl [0] rfl)
