theorem tw_836 : q_g (.selects RX12 yX12_goOn yX12_goOn) := ⟨(List.mem_append_left _ (List.mem_of_getElem? (i := 44) (by decide +kernel))), good_of_word (by decide +kernel)⟩
theorem tw_837 : q_g (.instanceMethod yX12_goOn) := ⟨(List.mem_append_right _ (List.mem_of_getElem? (i := 1367) (by decide +kernel))), good_of_word (by decide +kernel)⟩
theorem tw_838 : q_g (.methodLink RX12 223 yX12_goOn) := ⟨(List.mem_append_right _ (List.mem_of_getElem? (i := 1365) (by decide +kernel))), good_of_word (by decide +kernel)⟩
theorem tw_839 : q_g (.selects RX12 yX12_joins yX12_joins) := ⟨(List.mem_append_left _ (List.mem_of_getElem? (i := 31) (by decide +kernel))), good_of_word (by decide +kernel)⟩
theorem tw_840 : q_g (.instanceMethod yX12_joins) := ⟨(List.mem_append_right _ (List.mem_of_getElem? (i := 1261) (by decide +kernel))), good_of_word (by decide +kernel)⟩
theorem tw_841 : q_g (.methodLink RX12 151 yX12_joins) := ⟨(List.mem_append_right _ (List.mem_of_getElem? (i := 1259) (by decide +kernel))), good_of_word (by decide +kernel)⟩
theorem tw_842 : q_g (.selects RX12 yX12_isSpent yX12_isSpent) := ⟨(List.mem_append_left _ (List.mem_of_getElem? (i := 26) (by decide +kernel))), good_of_word (by decide +kernel)⟩
theorem tw_843 : q_g (.instanceMethod yX12_isSpent) := ⟨(List.mem_append_right _ (List.mem_of_getElem? (i := 1240) (by decide +kernel))), good_of_word (by decide +kernel)⟩
theorem tw_844 : q_g (.methodLink RX12 145 yX12_isSpent) := ⟨(List.mem_append_right _ (List.mem_of_getElem? (i := 1238) (by decide +kernel))), good_of_word (by decide +kernel)⟩
theorem tw_845 : q_g (.selects RX12 yX12_hasRoom yX12_hasRoom) := ⟨(List.mem_append_left _ (List.mem_of_getElem? (i := 27) (by decide +kernel))), good_of_word (by decide +kernel)⟩
theorem tw_846 : q_g (.instanceMethod yX12_hasRoom) := ⟨(List.mem_append_right _ (List.mem_of_getElem? (i := 1244) (by decide +kernel))), good_of_word (by decide +kernel)⟩
theorem tw_847 : q_g (.methodLink RX12 148 yX12_hasRoom) := ⟨(List.mem_append_right _ (List.mem_of_getElem? (i := 1242) (by decide +kernel))), good_of_word (by decide +kernel)⟩
theorem tw_848 : q_g (.code yX12_wake cX12_wake 3 none) := ⟨(List.mem_append_right _ (List.mem_of_getElem? (i := 1404) (by decide +kernel))), good_of_word (by decide +kernel)⟩
def ow_c_X12_wake : List Cond := [.methodLink RX12 87 yX12_at, .static yX12_at, .initialized RX12, .methodLink RX12 148 yX12_hasRoom, .instanceMethod yX12_hasRoom, .selects RX12 yX12_hasRoom yX12_hasRoom, .fieldLink RX12 16 "DeadlineShareModel" "row" "[J", .methodLink RX12 145 yX12_isSpent, .instanceMethod yX12_isSpent, .selects RX12 yX12_isSpent yX12_isSpent, .methodLink RX12 151 yX12_joins, .instanceMethod yX12_joins, .selects RX12 yX12_joins yX12_joins, .methodLink RX12 223 yX12_goOn, .instanceMethod yX12_goOn, .selects RX12 yX12_goOn yX12_goOn]
def wq_c_X12_wake : List Cond := .code yX12_wake cX12_wake 3 none :: (ow_c_X12_wake ++ (wq_c_X12_at ++ (wq_c_X12_hasRoom ++ (u_ws RX12 TX12 27 ++ (wq_c_X12_isSpent ++ (wq_c_X12_joins ++ (wq_c_X12_goOn ++ ([] : List Cond))))))))
theorem tb_c_X12_wake : ∀ w ∈ wq_c_X12_wake, q_g w := by
  unfold wq_c_X12_wake ow_c_X12_wake
  exact q_cons tw_848 (q_app (q_cons tw_734 (q_cons tw_733 (q_cons tw_728 (q_cons tw_847 (q_cons tw_846 (q_cons tw_845 (q_cons tw_731 (q_cons tw_844 (q_cons tw_843 (q_cons tw_842 (q_cons tw_841 (q_cons tw_840 (q_cons tw_839 (q_cons tw_838 (q_cons tw_837 (q_cons tw_836 q_nil)))))))))))))))) (q_app tb_c_X12_at (q_app tb_c_X12_hasRoom (q_app tu_X12 (q_app tb_c_X12_isSpent (q_app tb_c_X12_joins (q_app tb_c_X12_goOn q_nil)))))))
set_option maxHeartbeats 4000000 in
set_option maxRecDepth 100000 in
theorem c_X12_wake (l : Launch) (dC : Nat → ClassId) (dI : Nat → Nat → Nat) (g : kG) (A : Nat → Prop) (hG : kWf g) (f : Nat → va_E) (h0 : Nat) (p1 : Nat) (q : Nat → Int64) (i_h0 : ik g 12 h0) (hc0 : f (gr g h0 4) = .inl (gc g 1, 906, .inr (.inl q))) (hc0_ok : RowOK q) (ht : (p1 : Int) < (q 0).toInt) : Met l yX12_wake wq_c_X12_wake ({ frames := 6, cells := 0, slots := 0, locals := 142 } : Room) (va_Pc [.ref h0, .int (nI p1)] (fun U => kIn dC dI g A f U)) (va_Qv (fun (_ : Unit) => True) (fun (_ : Unit) t => ∃ f1 : Nat → va_E, Iv dC dI g A f1 t.heap ∧ Kp g [32] f f1 ∧ ∃ (q1 : Nat → Int64), (f1 (gr g h0 4) = .inl (gc g 1, 906, .inr (.inl q1))) ∧ (RowOK q1) ∧ ((q1 0).toInt = (q 0).toInt) ∧ ((q1 1).toInt = (q 1).toInt)) A) 0 0 A := by
  refine Met.ofW (cc := cX12_wake) (maxL := 3) (ret := none) (by decide) rfl ?_
  intro p e s m args below meth c s₁ B hml hv
  obtain ⟨rfl, hI, hK, hE⟩ := hv
  have hx := B.exec
  have hb := B.bytes
  have hr := B.returns
  have hts := atoms_spec (ws := wq_c_X12_wake) B.pre
  have hown : s.vm.findClass RX12 = some m.cls := findClass_of_methodNamed B.named
  have hlocks := B.notSynchronized
  have hS : va_S A s.heap s.heap [] := va_S.rf
  have hk0 : Kp g [32] f f := Kp.rf
  have hl := lv_entry ([.ref h0, .int (nI p1)]) (n := 3) (Nat.le_of_ble_eq_true rfl)
  rw [lg_entry_eq]
  generalize (lg_sl ([.ref h0, .int (nI p1)]) ++ List.replicate (3 - (lg_sl ([.ref h0, .int (nI p1)])).length) Slot.unset).toArray = ls at hl ⊢
  have hl : lv_has ls 3 [(0, .ref h0), (1, .int (nI p1))] := hl
  have i_1 := kw_12_4 hG i_h0
  have d_2 := rk_hd hc0_ok
  refine lv_iload_n hx hb dX12_wake_0 rfl (lv_at hl 1 rfl) ?_
  refine va_calli (va_runS (As := [.int (nI p1)]) (rest := []) ⟨hx, hb, hml, hown, hts⟩ (c_X12_at l dC dI g A hG f p1) (va_cwS 1 hts (gi_S (fun w_ h0_ => ⟨List.mem_cons_of_mem _ (List.mem_append_right _ (List.mem_append_left _ h0_)), (tb_c_X12_at w_ h0_).2⟩) (List.mem_cons_of_mem _ (List.mem_append_left _ (List.mem_of_getElem? (i := 0) rfl))) (List.mem_cons_of_mem _ (List.mem_append_left _ (List.mem_of_getElem? (i := 1) rfl))) (List.mem_cons_of_mem _ (List.mem_append_left _ (List.mem_of_getElem? (i := 2) rfl)))) rfl rfl rfl (by decide +kernel) ⟨Nat.le_of_ble_eq_true rfl, Nat.le_of_ble_eq_true rfl⟩) ⟨fun a U g mk q => ⟨q.1, q.2.calling rfl rfl⟩, fun U hU hW => ⟨rfl, kIn.of hI hK hE hS hU hW⟩⟩ rfl rfl hl.1 rfl (lv_room (Nat.le_of_ble_eq_true rfl)) dX12_wake_1 ⟨Nat.le_of_ble_eq_true rfl, Nat.le_of_ble_eq_true rfl⟩) hS (fun q _ h => h) (fun q h => h) (fun r_4 u t H1 locs ht hvm w_3 hB hz1 hk1 hS => ?_)
  have hI : Iv dC dI g A f t.heap := hB
  rw [ht] at hI
  generalize H1 = H at hI hS ⊢
  refine W.widen (k := 0) (n := 0) (Nat.le_of_ble_eq_true rfl) (Nat.le_of_ble_eq_true rfl) ?_
  have w_3 : r_4 = nI (6 + 43 * p1) := w_3
  refine k_topi (y := nI (6 + 43 * p1)) w_3 ?_
  refine lv_istore_n (lv' := [(2, .int (nI (6 + 43 * p1))), (0, .ref h0), (1, .int (nI p1))]) hx hb dX12_wake_4 rfl hl (by decide) rfl (fun ls hl => ?_)
  refine lv_aload_n hx hb dX12_wake_5 rfl (lv_at hl 1 rfl) ?_
  refine lv_iload_n hx hb dX12_wake_6 rfl (lv_at hl 2 rfl) ?_
  obtain ⟨x_6, x_7, x_8, x_9, x_10, x_11, x_12, x_13, x_14, x_15, x_16, x_17, x_18, x_19, k_5, b_20, b_21, b_22, b_23, b_24, b_25⟩ := op_12 hI i_h0
  refine va_calli (va_runV (As := [.int (nI p1)]) (rest := []) ⟨hx, hb, hml, hown, hts⟩ (c_X12_hasRoom l dC dI g A hG f h0 p1 q i_h0 hc0 hc0_ok (by first | omega | decide | (simp only [k_c0, k_c1, k_cm1]; omega))) (cwV 1 hts (gi_V (fun w_ h0_ => ⟨List.mem_cons_of_mem _ (List.mem_append_right _ (List.mem_append_right _ (List.mem_append_left _ h0_))), (tb_c_X12_hasRoom w_ h0_).2⟩) (List.mem_cons_of_mem _ (List.mem_append_left _ (List.mem_of_getElem? (i := 3) rfl))) (List.mem_cons_of_mem _ (List.mem_append_left _ (List.mem_of_getElem? (i := 4) rfl))) (List.mem_cons_of_mem _ (List.mem_append_left _ (List.mem_of_getElem? (i := 5) rfl))) (List.mem_cons_of_mem _ (List.mem_append_left _ (List.mem_of_getElem? (i := 2) rfl)))) rfl rfl rfl (by decide +kernel) ⟨Nat.le_of_ble_eq_true rfl, Nat.le_of_ble_eq_true rfl⟩) ⟨fun a U g mk q => ⟨q.1, q.2.calling rfl rfl⟩, k_recv hK hI i_h0.1 k_5 (ci := 12) rfl, fun U hU hW => ⟨rfl, kIn.of hI hK hE hS hU hW⟩⟩ rfl rfl hl.1 rfl (lv_room (Nat.le_of_ble_eq_true rfl)) dX12_wake_7 ⟨Nat.le_of_ble_eq_true rfl, Nat.le_of_ble_eq_true rfl⟩) hS (fun q _ h => h) (fun q h => h) (fun r_27 u t H1 locs ht hvm w_26 hB hz1 hk1 hS => ?_)
  have hI : Iv dC dI g A f t.heap := hB
  rw [ht] at hI
  generalize H1 = H at hI hS ⊢
  refine W.widen (k := 0) (n := 0) (Nat.le_of_ble_eq_true rfl) (Nat.le_of_ble_eq_true rfl) ?_
  have J_52 : ∀ (H : Heap) (locs : List Loc) (ls : Array Slot), Iv dC dI g A f H → va_S A s.heap H locs → lv_has ls 3 [(2, .int (nI (6 + 43 * p1))), (0, .ref h0), (1, .int (nI p1))] → W p l e (headSpec wq_c_X12_wake ({ frames := 6, cells := 0, slots := 0, locals := 142 } : Room)).room s m ([.ref h0, .int (nI p1)].toArray) below meth c H locs 0 0 (MQ below (va_Qv (fun (_ : Unit) => True) (fun (_ : Unit) t => ∃ f1 : Nat → va_E, Iv dC dI g A f1 t.heap ∧ Kp g [32] f f1 ∧ ∃ (q1 : Nat → Int64), (f1 (gr g h0 4) = .inl (gc g 1, 906, .inr (.inl q1))) ∧ (RowOK q1) ∧ ((q1 0).toInt = (q 0).toInt) ∧ ((q1 1).toInt = (q 1).toInt)) A) ([.ref h0, .int (nI p1)].toArray) s 0 0 A) (F0 m 52 ls []) := by
    intro H locs ls hI hS  hl
    refine lv_aload_n hx hb dX12_wake_52 rfl (lv_at hl 1 rfl) ?_
    refine k_get (ci := 12) (v := .ref (gr g h0 4)) (C := RX12) (T := TX12) (N := 27) hx hb hts (fun _ h0_ => List.mem_cons_of_mem _ (List.mem_append_right _ (List.mem_append_right _ (List.mem_append_right _ (List.mem_append_left _ h0_))))) hown hK hI i_h0.1 k_5 rfl 4 (by decide) (hts (.fieldLink RX12 16 "DeadlineShareModel" "row" "[J") (List.mem_cons_of_mem _ (List.mem_append_left _ (List.mem_of_getElem? (i := 6) rfl)))) (fun _ h9 => h9) rfl dX12_wake_53 ?_
    refine lv_iload_n hx hb dX12_wake_56 rfl (lv_at hl 0 rfl) ?_
    refine lv_bipush (v := 9) hx hb dX12_wake_57 (by decide) ?_
    refine lv_iadd hx hb dX12_wake_59 ?_
    refine k_topi (y := nI (6 + 43 * p1 + 9)) ((nI_add (6 + 43 * p1) 9).trans (congrArg nI (by omega))) ?_
    refine lv_aload_n hx hb dX12_wake_60 rfl (lv_at hl 1 rfl) ?_
    refine k_get (ci := 12) (v := .ref (gr g h0 4)) (C := RX12) (T := TX12) (N := 27) hx hb hts (fun _ h0_ => List.mem_cons_of_mem _ (List.mem_append_right _ (List.mem_append_right _ (List.mem_append_right _ (List.mem_append_left _ h0_))))) hown hK hI i_h0.1 k_5 rfl 4 (by decide) (hts (.fieldLink RX12 16 "DeadlineShareModel" "row" "[J") (List.mem_cons_of_mem _ (List.mem_append_left _ (List.mem_of_getElem? (i := 6) rfl)))) (fun _ h9 => h9) rfl dX12_wake_61 ?_
    refine lv_iconst (v := 1) hx hb dX12_wake_64 (by decide) ?_
    refine k_lald hx hb hK hI i_1.1 1 hc0 rfl (by unfold vp_in; decide) dX12_wake_65 ?_
    refine k_topl (y := q 1) (congrArg q (show Int32.toNatClampNeg 1 = 1 by decide)) ?_
    refine lv_lconst (v := 1) hx hb dX12_wake_66 (by decide) ?_
    refine lv_ladd hx hb dX12_wake_67 ?_
    refine lv_topl (fun v_32 ev_32 => ?_)
    have tv_32 := l_ad (q 1) 1
    rw [← ev_32, show Int64.toInt 1 = 1 from by decide] at tv_32
    refine k_last hx hb hK hI hS i_1.1 1 hc0 rfl (vp_in_nI (by omega) (by omega)) (cl_32 i_1) dX12_wake_68 (fun f_33 H locs e_34 hI hS => ?_)
    generalize eq_35 : vp_updL q (Int32.toNatClampNeg (nI (6 + 43 * p1 + 9))) v_32 = q_35 at e_34
    have k_37 : f_33 (gr g h0 4) = .inl (gc g 1, 906, .inr (.inl q_35)) := by rw [e_34]; exact va_up_self _ _ _
    have k_38 : f_33 h0 = .inr (12, [.int x_6, .int x_7, .ref (gr g h0 2), .ref (gr g h0 3), .ref (gr g h0 4), .ref (gr g h0 5), .ref (gr g h0 6), .ref (gr g h0 7), .ref (gr g h0 8), .ref (gr g h0 9), .int x_8, .ref (gr g h0 11), .int x_9, .int x_10, .int x_11, .int x_12, .long x_13, .int x_14, .int x_15, .ref (gr g h0 19), .ref (gr g h0 20), .ref (gr g h0 21), .ref (gr g h0 22), .int x_16, .long x_17, .long x_18, .long x_19]) := by rw [e_34, va_up_ne _ _ (ik_ne i_h0 i_1 (by decide))]; exact k_5
    have kp_36 := Kp.put hk0 i_1 (by decide) e_34
    have u_39 : vp_updL q (6 + 43 * p1 + 9) v_32 = q_35 := by rw [← eq_35, show Int32.toNatClampNeg (nI (6 + 43 * p1 + 9)) = 6 + 43 * p1 + 9 from (nI_clamp (by omega))]
    have ok_40 : RowOK q_35 := by rw [← u_39]; exact rk_upd hc0_ok (by refine ⟨⟨by omega, by omega, by omega, by omega, by omega⟩, fun t9 ht9 => ⟨by omega, by omega, by omega, by omega, by omega, by omega⟩, fun t9 k9 ht9 hk9 => ⟨by omega, by omega, by omega⟩, by omega⟩)
    have d_41 := rk_hd ok_40
    have n_42 : (q_35 0).toInt = (q 0).toInt := by rw [← u_39, pk_uLn (by omega)]
    have n_43 : (q_35 1).toInt = (q 1).toInt := by rw [← u_39, pk_uLn (by omega)]
    have n_44 : (q_35 3).toInt = (q 3).toInt := by rw [← u_39, pk_uLn (by omega)]
    have n_45 : (q_35 4).toInt = (q 4).toInt := by rw [← u_39, pk_uLn (by omega)]
    have n_46 : (q_35 5).toInt = (q 5).toInt := by rw [← u_39, pk_uLn (by omega)]
    exact W.vret hx hb hr (fun t ht hW => ⟨⟨(), rfl, trivial, ⟨f_33, k_ret ht hI, kp_36, q_35, k_37, ok_40, (by first | omega | decide), (by first | omega | decide)⟩⟩, hS.F ht⟩) hS.2.2 dX12_wake_69
  refine lv_if_eq (tgt := 52) hx hb dX12_wake_10 (by decide) (fun c_47 => ?_) (fun c_47 => ?_)
  · have c_47 := kc_eq rfl (by decide : Int32.toInt 0 = 0) c_47
    exact J_52  _ _ _ hI hS  (lv_sub hl [0, 1, 2] rfl)
  · have c_47 := kn_eq rfl (by decide : Int32.toInt 0 = 0) c_47
    refine lv_aload_n hx hb dX12_wake_13 rfl (lv_at hl 1 rfl) ?_
    refine lv_iload_n hx hb dX12_wake_14 rfl (lv_at hl 2 rfl) ?_
    refine va_calli (va_runV (As := [.int (nI p1)]) (rest := []) ⟨hx, hb, hml, hown, hts⟩ (c_X12_isSpent l dC dI g A hG f h0 p1 q i_h0 hc0 hc0_ok (by first | omega | decide | (simp only [k_c0, k_c1, k_cm1]; omega))) (cwV 1 hts (gi_V (fun w_ h0_ => ⟨List.mem_cons_of_mem _ (List.mem_append_right _ (List.mem_append_right _ (List.mem_append_right _ (List.mem_append_right _ (List.mem_append_left _ h0_))))), (tb_c_X12_isSpent w_ h0_).2⟩) (List.mem_cons_of_mem _ (List.mem_append_left _ (List.mem_of_getElem? (i := 7) rfl))) (List.mem_cons_of_mem _ (List.mem_append_left _ (List.mem_of_getElem? (i := 8) rfl))) (List.mem_cons_of_mem _ (List.mem_append_left _ (List.mem_of_getElem? (i := 9) rfl))) (List.mem_cons_of_mem _ (List.mem_append_left _ (List.mem_of_getElem? (i := 2) rfl)))) rfl rfl rfl (by decide +kernel) ⟨Nat.le_of_ble_eq_true rfl, Nat.le_of_ble_eq_true rfl⟩) ⟨fun a U g mk q => ⟨q.1, q.2.calling rfl rfl⟩, k_recv hK hI i_h0.1 k_5 (ci := 12) rfl, fun U hU hW => ⟨rfl, kIn.of hI hK hE hS hU hW⟩⟩ rfl rfl hl.1 rfl (lv_room (Nat.le_of_ble_eq_true rfl)) dX12_wake_15 ⟨Nat.le_of_ble_eq_true rfl, Nat.le_of_ble_eq_true rfl⟩) hS (fun q _ h => h) (fun q h => h) (fun r_49 u t H1 locs ht hvm w_48 hB hz1 hk1 hS => ?_)
    have hI : Iv dC dI g A f t.heap := hB
    rw [ht] at hI
    generalize H1 = H at hI hS ⊢
    refine W.widen (k := 0) (n := 0) (Nat.le_of_ble_eq_true rfl) (Nat.le_of_ble_eq_true rfl) ?_
    refine lv_if_ne (tgt := 52) hx hb dX12_wake_18 (by decide) (fun c_50 => ?_) (fun c_50 => ?_)
    · have c_50 := kn_eq rfl (by decide : Int32.toInt 0 = 0) c_50
      exact J_52  _ _ _ hI hS  (lv_sub hl [0, 1, 2] rfl)
    · have c_50 := kc_eq rfl (by decide : Int32.toInt 0 = 0) c_50
      refine lv_aload_n hx hb dX12_wake_21 rfl (lv_at hl 1 rfl) ?_
      refine lv_iload_n hx hb dX12_wake_22 rfl (lv_at hl 2 rfl) ?_
      refine va_callv (va_runV (As := [.int (nI p1)]) (rest := []) ⟨hx, hb, hml, hown, hts⟩ (c_X12_joins l dC dI g A hG f h0 p1 q i_h0 hc0 hc0_ok (by first | omega | decide | (simp only [k_c0, k_c1, k_cm1]; omega))) (cwV 1 hts (gi_V (fun w_ h0_ => ⟨List.mem_cons_of_mem _ (List.mem_append_right _ (List.mem_append_right _ (List.mem_append_right _ (List.mem_append_right _ (List.mem_append_right _ (List.mem_append_left _ h0_)))))), (tb_c_X12_joins w_ h0_).2⟩) (List.mem_cons_of_mem _ (List.mem_append_left _ (List.mem_of_getElem? (i := 10) rfl))) (List.mem_cons_of_mem _ (List.mem_append_left _ (List.mem_of_getElem? (i := 11) rfl))) (List.mem_cons_of_mem _ (List.mem_append_left _ (List.mem_of_getElem? (i := 12) rfl))) (List.mem_cons_of_mem _ (List.mem_append_left _ (List.mem_of_getElem? (i := 2) rfl)))) rfl rfl rfl (by decide +kernel) ⟨Nat.le_of_ble_eq_true rfl, Nat.le_of_ble_eq_true rfl⟩) ⟨fun a U g mk q => ⟨q.1, q.2.calling rfl rfl⟩, k_recv hK hI i_h0.1 k_5 (ci := 12) rfl, fun U hU hW => ⟨rfl, kIn.of hI hK hE hS hU hW⟩⟩ rfl rfl hl.1 rfl (lv_room (Nat.le_of_ble_eq_true rfl)) dX12_wake_23 ⟨Nat.le_of_ble_eq_true rfl, Nat.le_of_ble_eq_true rfl⟩) hS (fun q _ h => h) (fun q h => h) (fun u t H1 locs ht hvm _ hB hz1 hk1 hS => ?_)
      obtain ⟨f_51, hI, kc_53, q1_54, k_55, z_56, z_57, z_58⟩ := hB
      rw [ht] at hI
      have k_59 : f_51 h0 = .inr (12, [.int x_6, .int x_7, .ref (gr g h0 2), .ref (gr g h0 3), .ref (gr g h0 4), .ref (gr g h0 5), .ref (gr g h0 6), .ref (gr g h0 7), .ref (gr g h0 8), .ref (gr g h0 9), .int x_8, .ref (gr g h0 11), .int x_9, .int x_10, .int x_11, .int x_12, .long x_13, .int x_14, .int x_15, .ref (gr g h0 19), .ref (gr g h0 20), .ref (gr g h0 21), .ref (gr g h0 22), .int x_16, .long x_17, .long x_18, .long x_19]) := Kp.at kc_53 i_h0 (by decide) k_5
      have z_56 : RowOK q1_54 := z_56
      have d_60 := rk_hd z_56
      have z_57 : (q1_54 0).toInt = (q 0).toInt := z_57
      have z_58 : (q1_54 1).toInt = (q 1).toInt := z_58
      have kp_61 := Kp.call hk0 kc_53 (by decide)
      generalize H1 = H at hI hS ⊢
      refine W.widen (k := 0) (n := 0) (Nat.le_of_ble_eq_true rfl) (Nat.le_of_ble_eq_true rfl) ?_
      refine lv_aload_n hx hb dX12_wake_26 rfl (lv_at hl 1 rfl) ?_
      refine lv_iload_n hx hb dX12_wake_27 rfl (lv_at hl 2 rfl) ?_
      refine lv_aload_n hx hb dX12_wake_28 rfl (lv_at hl 1 rfl) ?_
      refine k_get (ci := 12) (v := .ref (gr g h0 4)) (C := RX12) (T := TX12) (N := 27) hx hb hts (fun _ h0_ => List.mem_cons_of_mem _ (List.mem_append_right _ (List.mem_append_right _ (List.mem_append_right _ (List.mem_append_left _ h0_))))) hown hK hI i_h0.1 k_59 rfl 4 (by decide) (hts (.fieldLink RX12 16 "DeadlineShareModel" "row" "[J") (List.mem_cons_of_mem _ (List.mem_append_left _ (List.mem_of_getElem? (i := 6) rfl)))) (fun _ h9 => h9) rfl dX12_wake_29 ?_
      refine lv_iload_n hx hb dX12_wake_32 rfl (lv_at hl 0 rfl) ?_
      refine lv_bipush (v := 14) hx hb dX12_wake_33 (by decide) ?_
      refine lv_iadd hx hb dX12_wake_35 ?_
      refine k_topi (y := nI (6 + 43 * p1 + 14)) ((nI_add (6 + 43 * p1) 14).trans (congrArg nI (by omega))) ?_
      refine k_lald hx hb hK hI i_1.1 1 k_55 rfl (vp_in_nI (by omega) (by omega)) dX12_wake_36 ?_
      refine k_topl (y := q1_54 (6 + 43 * p1 + 14)) (congrArg q1_54 (nI_clamp (by omega))) ?_
      have d_64 := rk_14 z_56 (t := p1) (by omega)
      refine lv_l2i (v := (q1_54 (6 + 43 * p1 + 14)).toInt32) hx hb dX12_wake_37 rfl ?_
      refine lv_topi (fun v_65 ev_65 => ?_)
      have tv_65 := k_l2i (q1_54 (6 + 43 * p1 + 14))
      rw [← ev_65] at tv_65
      refine lv_iconst (v := 1) hx hb dX12_wake_38 (by decide) ?_
      refine lv_iadd hx hb dX12_wake_39 ?_
      obtain ⟨m_66, em_66, tm_66⟩ := k_nat (x := v_65) (by omega)
      refine k_topi (y := nI (m_66 + 1)) (by rw [em_66]; exact nI_1 m_66) ?_
      refine lv_aload_n hx hb dX12_wake_40 rfl (lv_at hl 1 rfl) ?_
      refine k_get (ci := 12) (v := .ref (gr g h0 4)) (C := RX12) (T := TX12) (N := 27) hx hb hts (fun _ h0_ => List.mem_cons_of_mem _ (List.mem_append_right _ (List.mem_append_right _ (List.mem_append_right _ (List.mem_append_left _ h0_))))) hown hK hI i_h0.1 k_59 rfl 4 (by decide) (hts (.fieldLink RX12 16 "DeadlineShareModel" "row" "[J") (List.mem_cons_of_mem _ (List.mem_append_left _ (List.mem_of_getElem? (i := 6) rfl)))) (fun _ h9 => h9) rfl dX12_wake_41 ?_
      refine lv_iconst (v := 1) hx hb dX12_wake_44 (by decide) ?_
      refine k_lald hx hb hK hI i_1.1 1 k_55 rfl (by unfold vp_in; decide) dX12_wake_45 ?_
      refine k_topl (y := q1_54 1) (congrArg q1_54 (show Int32.toNatClampNeg 1 = 1 by decide)) ?_
      refine va_callv (va_runV (As := [.int (nI p1), .int (nI (m_66 + 1)), .long (q1_54 1)]) (rest := []) ⟨hx, hb, hml, hown, hts⟩ (c_X12_goOn l dC dI g A hG f_51 h0 p1 (m_66 + 1) (q1_54 1) q1_54 i_h0 k_55 z_56 (by first | omega | decide | (simp only [k_c0, k_c1, k_cm1]; omega)) (by first | omega | decide | (simp only [k_c0, k_c1, k_cm1]; omega))) (cwV 3 hts (gi_V (fun w_ h0_ => ⟨List.mem_cons_of_mem _ (List.mem_append_right _ (List.mem_append_right _ (List.mem_append_right _ (List.mem_append_right _ (List.mem_append_right _ (List.mem_append_right _ (List.mem_append_left _ h0_))))))), (tb_c_X12_goOn w_ h0_).2⟩) (List.mem_cons_of_mem _ (List.mem_append_left _ (List.mem_of_getElem? (i := 13) rfl))) (List.mem_cons_of_mem _ (List.mem_append_left _ (List.mem_of_getElem? (i := 14) rfl))) (List.mem_cons_of_mem _ (List.mem_append_left _ (List.mem_of_getElem? (i := 15) rfl))) (List.mem_cons_of_mem _ (List.mem_append_left _ (List.mem_of_getElem? (i := 2) rfl)))) rfl rfl rfl (by decide +kernel) ⟨Nat.le_of_ble_eq_true rfl, Nat.le_of_ble_eq_true rfl⟩) ⟨fun a U g mk q => ⟨q.1, q.2.calling rfl rfl⟩, k_recv hK hI i_h0.1 k_59 (ci := 12) rfl, fun U hU hW => ⟨rfl, kIn.of hI hK hE hS hU hW⟩⟩ rfl rfl hl.1 rfl (lv_room (Nat.le_of_ble_eq_true rfl)) dX12_wake_46 ⟨Nat.le_of_ble_eq_true rfl, Nat.le_of_ble_eq_true rfl⟩) hS (fun q _ h => h) (fun q h => h) (fun u t H1 locs ht hvm _ hB hz1 hk1 hS => ?_)
      obtain ⟨f_69, hI, kc_71, q1_72, k_73, z_74, z_75, z_76⟩ := hB
      rw [ht] at hI
      have k_77 : f_69 h0 = .inr (12, [.int x_6, .int x_7, .ref (gr g h0 2), .ref (gr g h0 3), .ref (gr g h0 4), .ref (gr g h0 5), .ref (gr g h0 6), .ref (gr g h0 7), .ref (gr g h0 8), .ref (gr g h0 9), .int x_8, .ref (gr g h0 11), .int x_9, .int x_10, .int x_11, .int x_12, .long x_13, .int x_14, .int x_15, .ref (gr g h0 19), .ref (gr g h0 20), .ref (gr g h0 21), .ref (gr g h0 22), .int x_16, .long x_17, .long x_18, .long x_19]) := Kp.at kc_71 i_h0 (by decide) k_59
      have z_74 : RowOK q1_72 := z_74
      have d_78 := rk_hd z_74
      have z_75 : (q1_72 0).toInt = (q1_54 0).toInt := z_75
      have z_76 : (q1_72 1).toInt = (q1_54 1).toInt := z_76
      have kp_79 := Kp.call kp_61 kc_71 (by decide)
      generalize H1 = H at hI hS ⊢
      refine W.widen (k := 0) (n := 0) (Nat.le_of_ble_eq_true rfl) (Nat.le_of_ble_eq_true rfl) ?_
      refine lv_goto (tgt := 69) hx hb dX12_wake_49 (by decide) ?_
      exact W.vret hx hb hr (fun t ht hW => ⟨⟨(), rfl, trivial, ⟨f_69, k_ret ht hI, kp_79, q1_72, k_73, z_74, (by first | omega | decide), (by first | omega | decide)⟩⟩, hS.F ht⟩) hS.2.2 dX12_wake_69
theorem tw_849 : q_g (.constantLong RX12 270 (128)) := ⟨(List.mem_append_right _ (List.mem_of_getElem? (i := 1436) (by decide +kernel))), good_of_word (by decide +kernel)⟩
theorem tw_850 : q_g (.code yX12_log cX12_log 4 none) := ⟨(List.mem_append_right _ (List.mem_of_getElem? (i := 1435) (by decide +kernel))), good_of_word (by decide +kernel)⟩
def ow_c_X12_log : List Cond := [.fieldLink RX12 16 "DeadlineShareModel" "row" "[J", .constantLong RX12 270 (128), .methodLink RX12 105 yX12_heavy, .instanceMethod yX12_heavy, .selects RX12 yX12_heavy yX12_heavy, .initialized RX12, .methodLink RX12 90 yX12_isOn, .instanceMethod yX12_isOn, .selects RX12 yX12_isOn yX12_isOn, .methodLink RX12 94 yX12_weight, .instanceMethod yX12_weight, .selects RX12 yX12_weight yX12_weight]
def wq_c_X12_log : List Cond := .code yX12_log cX12_log 4 none :: (ow_c_X12_log ++ (u_ws RX12 TX12 27 ++ (wq_c_X12_heavy ++ (wq_c_X12_isOn ++ (wq_c_X12_weight ++ ([] : List Cond))))))
theorem tb_c_X12_log : ∀ w ∈ wq_c_X12_log, q_g w := by
  unfold wq_c_X12_log ow_c_X12_log
  exact q_cons tw_850 (q_app (q_cons tw_731 (q_cons tw_849 (q_cons tw_752 (q_cons tw_751 (q_cons tw_750 (q_cons tw_728 (q_cons tw_744 (q_cons tw_743 (q_cons tw_742 (q_cons tw_741 (q_cons tw_740 (q_cons tw_739 q_nil)))))))))))) (q_app tu_X12 (q_app tb_c_X12_heavy (q_app tb_c_X12_isOn (q_app tb_c_X12_weight q_nil)))))
set_option maxHeartbeats 4000000 in
set_option maxRecDepth 100000 in
theorem c_X12_log (l : Launch) (dC : Nat → ClassId) (dI : Nat → Nat → Nat) (g : kG) (A : Nat → Prop) (hG : kWf g) (f : Nat → va_E) (h0 : Nat) (p1 : Int32) (q : Nat → Int64) (i_h0 : ik g 12 h0) (hc0 : f (gr g h0 4) = .inl (gc g 1, 906, .inr (.inl q))) (hc0_ok : RowOK q) : Met l yX12_log wq_c_X12_log ({ frames := 3, cells := 0, slots := 0, locals := 64 } : Room) (va_Pc [.ref h0, .int p1] (fun U => kIn dC dI g A f U)) (va_Qv (fun (_ : Unit) => True) (fun (_ : Unit) t => ∃ f1 : Nat → va_E, Iv dC dI g A f1 t.heap ∧ Kp g [32] f f1 ∧ ∃ (q1 : Nat → Int64), (f1 (gr g h0 4) = .inl (gc g 1, 906, .inr (.inl q1))) ∧ (RowOK q1) ∧ ((q1 0).toInt = (q 0).toInt) ∧ ((q1 1).toInt = (q 1).toInt)) A) 0 0 A := by
  refine Met.ofW (cc := cX12_log) (maxL := 4) (ret := none) (by decide) rfl ?_
  intro p e s m args below meth c s₁ B hml hv
  obtain ⟨rfl, hI, hK, hE⟩ := hv
  have hx := B.exec
  have hb := B.bytes
  have hr := B.returns
  have hts := atoms_spec (ws := wq_c_X12_log) B.pre
  have hown : s.vm.findClass RX12 = some m.cls := findClass_of_methodNamed B.named
  have hlocks := B.notSynchronized
  have hS : va_S A s.heap s.heap [] := va_S.rf
  have hk0 : Kp g [32] f f := Kp.rf
  have hl := lv_entry ([.ref h0, .int p1]) (n := 4) (Nat.le_of_ble_eq_true rfl)
  rw [lg_entry_eq]
  generalize (lg_sl ([.ref h0, .int p1]) ++ List.replicate (4 - (lg_sl ([.ref h0, .int p1])).length) Slot.unset).toArray = ls at hl ⊢
  have hl : lv_has ls 4 [(0, .ref h0), (1, .int p1)] := hl
  have i_1 := kw_12_4 hG i_h0
  have d_2 := rk_hd hc0_ok
  refine lv_aload_n hx hb dX12_log_0 rfl (lv_at hl 0 rfl) ?_
  obtain ⟨x_4, x_5, x_6, x_7, x_8, x_9, x_10, x_11, x_12, x_13, x_14, x_15, x_16, x_17, k_3, b_18, b_19, b_20, b_21, b_22, b_23⟩ := op_12 hI i_h0
  refine k_get (ci := 12) (v := .ref (gr g h0 4)) (C := RX12) (T := TX12) (N := 27) hx hb hts (fun _ h0_ => List.mem_cons_of_mem _ (List.mem_append_right _ (List.mem_append_left _ h0_))) hown hK hI i_h0.1 k_3 rfl 4 (by decide) (hts (.fieldLink RX12 16 "DeadlineShareModel" "row" "[J") (List.mem_cons_of_mem _ (List.mem_append_left _ (List.mem_of_getElem? (i := 0) rfl)))) (fun _ h9 => h9) rfl dX12_log_1 ?_
  refine lv_iconst (v := 5) hx hb dX12_log_4 (by decide) ?_
  refine k_lald hx hb hK hI i_1.1 1 hc0 rfl (by unfold vp_in; decide) dX12_log_5 ?_
  refine k_topl (y := q 5) (congrArg q (show Int32.toNatClampNeg 5 = 5 by decide)) ?_
  refine lv_ldc2 hx hb hown (hts (.constantLong RX12 270 (128)) (List.mem_cons_of_mem _ (List.mem_append_left _ (List.mem_of_getElem? (i := 1) rfl)))) dX12_log_6 ?_
  refine W.lcmp hx hb dX12_log_9 ?_
  have J_54 : ∀ (q_27 : Nat → Int64) (f_26 : Nat → va_E) (H : Heap) (locs : List Loc) (ls : Array Slot), Iv dC dI g A f_26 H → va_S A s.heap H locs → f_26 (gr g h0 4) = .inl (gc g 1, 906, .inr (.inl q_27)) → RowOK q_27 → f_26 h0 = .inr (12, [.int x_4, .int x_5, .ref (gr g h0 2), .ref (gr g h0 3), .ref (gr g h0 4), .ref (gr g h0 5), .ref (gr g h0 6), .ref (gr g h0 7), .ref (gr g h0 8), .ref (gr g h0 9), .int x_6, .ref (gr g h0 11), .int x_7, .int x_8, .int x_9, .int x_10, .long x_11, .int x_12, .int x_13, .ref (gr g h0 19), .ref (gr g h0 20), .ref (gr g h0 21), .ref (gr g h0 22), .int x_14, .long x_15, .long x_16, .long x_17]) → Kp g [32] f f_26 → ((q_27 5).toInt < 128) → ((q_27 0).toInt = (q 0).toInt) → ((q_27 1).toInt = (q 1).toInt) → lv_has ls 4 [(0, .ref h0), (1, .int p1)] → W p l e (headSpec wq_c_X12_log ({ frames := 3, cells := 0, slots := 0, locals := 64 } : Room)).room s m ([.ref h0, .int p1].toArray) below meth c H locs 0 0 (MQ below (va_Qv (fun (_ : Unit) => True) (fun (_ : Unit) t => ∃ f1 : Nat → va_E, Iv dC dI g A f1 t.heap ∧ Kp g [32] f f1 ∧ ∃ (q1 : Nat → Int64), (f1 (gr g h0 4) = .inl (gc g 1, 906, .inr (.inl q1))) ∧ (RowOK q1) ∧ ((q1 0).toInt = (q 0).toInt) ∧ ((q1 1).toInt = (q 1).toInt)) A) ([.ref h0, .int p1].toArray) s 0 0 A) (F0 m 54 ls []) := by
    intro q_27 f_26 H locs ls hI hS k_28 ok_29 k_30 kp_31 t_34 t_32 t_33 hl
    have d_35 := rk_hd ok_29
    refine lv_sipush (v := 522) hx hb dX12_log_54 (by decide) ?_
    refine lv_iconst (v := 3) hx hb dX12_log_57 (by decide) ?_
    refine lv_aload_n hx hb dX12_log_58 rfl (lv_at hl 0 rfl) ?_
    refine k_get (ci := 12) (v := .ref (gr g h0 4)) (C := RX12) (T := TX12) (N := 27) hx hb hts (fun _ h0_ => List.mem_cons_of_mem _ (List.mem_append_right _ (List.mem_append_left _ h0_))) hown hK hI i_h0.1 k_30 rfl 4 (by decide) (hts (.fieldLink RX12 16 "DeadlineShareModel" "row" "[J") (List.mem_cons_of_mem _ (List.mem_append_left _ (List.mem_of_getElem? (i := 0) rfl)))) (fun _ h9 => h9) rfl dX12_log_59 ?_
    refine lv_iconst (v := 5) hx hb dX12_log_62 (by decide) ?_
    refine k_lald hx hb hK hI i_1.1 1 k_28 rfl (by unfold vp_in; decide) dX12_log_63 ?_
    refine k_topl (y := q_27 5) (congrArg q_27 (show Int32.toNatClampNeg 5 = 5 by decide)) ?_
    refine lv_l2i (v := (q_27 5).toInt32) hx hb dX12_log_64 rfl ?_
    refine lv_topi (fun v_38 ev_38 => ?_)
    have tv_38 := k_l2i (q_27 5)
    rw [← ev_38] at tv_38
    obtain ⟨m_39, em_39, tm_39⟩ := k_nat (x := v_38) (by omega)
    refine k_topi (y := nI m_39) em_39 ?_
    refine lv_imul hx hb dX12_log_65 ?_
    refine k_topi (y := nI (3 * m_39)) ((pk_mul 3 m_39).trans (congrArg nI (by omega))) ?_
    refine lv_iadd hx hb dX12_log_66 ?_
    refine k_topi (y := nI (522 + 3 * m_39)) ((nI_add 522 (3 * m_39)).trans (congrArg nI (by omega))) ?_
    refine lv_istore_n (lv' := [(2, .int (nI (522 + 3 * m_39))), (0, .ref h0), (1, .int p1)]) hx hb dX12_log_67 rfl hl (by decide) rfl (fun ls hl => ?_)
    refine lv_aload_n hx hb dX12_log_68 rfl (lv_at hl 1 rfl) ?_
    refine k_get (ci := 12) (v := .ref (gr g h0 4)) (C := RX12) (T := TX12) (N := 27) hx hb hts (fun _ h0_ => List.mem_cons_of_mem _ (List.mem_append_right _ (List.mem_append_left _ h0_))) hown hK hI i_h0.1 k_30 rfl 4 (by decide) (hts (.fieldLink RX12 16 "DeadlineShareModel" "row" "[J") (List.mem_cons_of_mem _ (List.mem_append_left _ (List.mem_of_getElem? (i := 0) rfl)))) (fun _ h9 => h9) rfl dX12_log_69 ?_
    refine lv_iload_n hx hb dX12_log_72 rfl (lv_at hl 0 rfl) ?_
    refine lv_iload_n hx hb dX12_log_73 rfl (lv_at hl 2 rfl) ?_
    refine lv_i2l (v := p1.toInt64) hx hb dX12_log_74 rfl ?_
    have t_42 := Int32.toInt_toInt64 p1
    refine k_last hx hb hK hI hS i_1.1 1 k_28 rfl (vp_in_nI (by omega) (by omega)) (cl_32 i_1) dX12_log_75 (fun f_43 H locs e_44 hI hS => ?_)
    generalize eq_45 : vp_updL q_27 (Int32.toNatClampNeg (nI (522 + 3 * m_39))) p1.toInt64 = q_45 at e_44
    have k_47 : f_43 (gr g h0 4) = .inl (gc g 1, 906, .inr (.inl q_45)) := by rw [e_44]; exact va_up_self _ _ _
    have k_48 : f_43 h0 = .inr (12, [.int x_4, .int x_5, .ref (gr g h0 2), .ref (gr g h0 3), .ref (gr g h0 4), .ref (gr g h0 5), .ref (gr g h0 6), .ref (gr g h0 7), .ref (gr g h0 8), .ref (gr g h0 9), .int x_6, .ref (gr g h0 11), .int x_7, .int x_8, .int x_9, .int x_10, .long x_11, .int x_12, .int x_13, .ref (gr g h0 19), .ref (gr g h0 20), .ref (gr g h0 21), .ref (gr g h0 22), .int x_14, .long x_15, .long x_16, .long x_17]) := by rw [e_44, va_up_ne _ _ (ik_ne i_h0 i_1 (by decide))]; exact k_30
    have kp_46 := Kp.put kp_31 i_1 (by decide) e_44
    have u_49 : vp_updL q_27 (522 + 3 * m_39) p1.toInt64 = q_45 := by rw [← eq_45, show Int32.toNatClampNeg (nI (522 + 3 * m_39)) = 522 + 3 * m_39 from (nI_clamp (by omega))]
    have ok_50 : RowOK q_45 := by rw [← u_49]; exact rk_upd ok_29 (by refine ⟨⟨by omega, by omega, by omega, by omega, by omega⟩, fun t9 ht9 => ⟨by omega, by omega, by omega, by omega, by omega, by omega⟩, fun t9 k9 ht9 hk9 => ⟨by omega, by omega, by omega⟩, by omega⟩)
    have d_51 := rk_hd ok_50
    have n_52 : (q_45 0).toInt = (q_27 0).toInt := by rw [← u_49, pk_uLn (by omega)]
    have n_53 : (q_45 1).toInt = (q_27 1).toInt := by rw [← u_49, pk_uLn (by omega)]
    have n_54 : (q_45 3).toInt = (q_27 3).toInt := by rw [← u_49, pk_uLn (by omega)]
    have n_55 : (q_45 4).toInt = (q_27 4).toInt := by rw [← u_49, pk_uLn (by omega)]
    have n_56 : (q_45 5).toInt = (q_27 5).toInt := by rw [← u_49, pk_uLn (by omega)]
    refine lv_aload_n hx hb dX12_log_76 rfl (lv_at hl 1 rfl) ?_
    refine k_get (ci := 12) (v := .ref (gr g h0 4)) (C := RX12) (T := TX12) (N := 27) hx hb hts (fun _ h0_ => List.mem_cons_of_mem _ (List.mem_append_right _ (List.mem_append_left _ h0_))) hown hK hI i_h0.1 k_48 rfl 4 (by decide) (hts (.fieldLink RX12 16 "DeadlineShareModel" "row" "[J") (List.mem_cons_of_mem _ (List.mem_append_left _ (List.mem_of_getElem? (i := 0) rfl)))) (fun _ h9 => h9) rfl dX12_log_77 ?_
    refine lv_iload_n hx hb dX12_log_80 rfl (lv_at hl 0 rfl) ?_
    refine lv_iconst (v := 1) hx hb dX12_log_81 (by decide) ?_
    refine lv_iadd hx hb dX12_log_82 ?_
    refine k_topi (y := nI (522 + 3 * m_39 + 1)) ((nI_add (522 + 3 * m_39) 1).trans (congrArg nI (by omega))) ?_
    refine lv_aload_n hx hb dX12_log_83 rfl (lv_at hl 1 rfl) ?_
    refine va_calll (va_runV (As := []) (rest := [.int (nI (522 + 3 * m_39 + 1)), .ref (gr g h0 4)]) ⟨hx, hb, hml, hown, hts⟩ (c_X12_heavy l dC dI g A hG f_43 h0 q_45 i_h0 k_47 ok_50) (cwV 0 hts (gi_V (fun w_ h0_ => ⟨List.mem_cons_of_mem _ (List.mem_append_right _ (List.mem_append_right _ (List.mem_append_left _ h0_))), (tb_c_X12_heavy w_ h0_).2⟩) (List.mem_cons_of_mem _ (List.mem_append_left _ (List.mem_of_getElem? (i := 2) rfl))) (List.mem_cons_of_mem _ (List.mem_append_left _ (List.mem_of_getElem? (i := 3) rfl))) (List.mem_cons_of_mem _ (List.mem_append_left _ (List.mem_of_getElem? (i := 4) rfl))) (List.mem_cons_of_mem _ (List.mem_append_left _ (List.mem_of_getElem? (i := 5) rfl)))) rfl rfl rfl (by decide +kernel) ⟨Nat.le_of_ble_eq_true rfl, Nat.le_of_ble_eq_true rfl⟩) ⟨fun a U g mk q => ⟨q.1, q.2.calling rfl rfl⟩, k_recv hK hI i_h0.1 k_48 (ci := 12) rfl, fun U hU hW => ⟨rfl, kIn.of hI hK hE hS hU hW⟩⟩ rfl rfl hl.1 rfl (lv_room (Nat.le_of_ble_eq_true rfl)) dX12_log_84 ⟨Nat.le_of_ble_eq_true rfl, Nat.le_of_ble_eq_true rfl⟩) hS (fun q _ h => h) (fun q h => h) (fun r_60 u t H1 locs ht hvm w_59 hB hz1 hk1 hS => ?_)
    have hI : Iv dC dI g A f_43 t.heap := hB
    rw [ht] at hI
    generalize H1 = H at hI hS ⊢
    refine W.widen (k := 0) (n := 0) (Nat.le_of_ble_eq_true rfl) (Nat.le_of_ble_eq_true rfl) ?_
    have w_59 : 0 ≤ r_60.toInt ∧ r_60.toInt ≤ 96 ∧ ∀ t : Nat, (t : Int) < (q_45 0).toInt → (q_45 (6 + 43 * t + 2)).toInt = 1 → 1 ≤ r_60.toInt := w_59
    refine k_last hx hb hK hI hS i_1.1 1 k_47 rfl (vp_in_nI (by omega) (by omega)) (cl_32 i_1) dX12_log_87 (fun f_61 H locs e_62 hI hS => ?_)
    generalize eq_63 : vp_updL q_45 (Int32.toNatClampNeg (nI (522 + 3 * m_39 + 1))) r_60 = q_63 at e_62
    have k_65 : f_61 (gr g h0 4) = .inl (gc g 1, 906, .inr (.inl q_63)) := by rw [e_62]; exact va_up_self _ _ _
    have k_66 : f_61 h0 = .inr (12, [.int x_4, .int x_5, .ref (gr g h0 2), .ref (gr g h0 3), .ref (gr g h0 4), .ref (gr g h0 5), .ref (gr g h0 6), .ref (gr g h0 7), .ref (gr g h0 8), .ref (gr g h0 9), .int x_6, .ref (gr g h0 11), .int x_7, .int x_8, .int x_9, .int x_10, .long x_11, .int x_12, .int x_13, .ref (gr g h0 19), .ref (gr g h0 20), .ref (gr g h0 21), .ref (gr g h0 22), .int x_14, .long x_15, .long x_16, .long x_17]) := by rw [e_62, va_up_ne _ _ (ik_ne i_h0 i_1 (by decide))]; exact k_48
    have kp_64 := Kp.put kp_46 i_1 (by decide) e_62
    have u_67 : vp_updL q_45 (522 + 3 * m_39 + 1) r_60 = q_63 := by rw [← eq_63, show Int32.toNatClampNeg (nI (522 + 3 * m_39 + 1)) = 522 + 3 * m_39 + 1 from (nI_clamp (by omega))]
    have ok_68 : RowOK q_63 := by rw [← u_67]; exact rk_upd ok_50 (by refine ⟨⟨by omega, by omega, by omega, by omega, by omega⟩, fun t9 ht9 => ⟨by omega, by omega, by omega, by omega, by omega, by omega⟩, fun t9 k9 ht9 hk9 => ⟨by omega, by omega, by omega⟩, by omega⟩)
    have d_69 := rk_hd ok_68
    have n_70 : (q_63 0).toInt = (q_45 0).toInt := by rw [← u_67, pk_uLn (by omega)]
    have n_71 : (q_63 1).toInt = (q_45 1).toInt := by rw [← u_67, pk_uLn (by omega)]
    have n_72 : (q_63 3).toInt = (q_45 3).toInt := by rw [← u_67, pk_uLn (by omega)]
    have n_73 : (q_63 4).toInt = (q_45 4).toInt := by rw [← u_67, pk_uLn (by omega)]
    have n_74 : (q_63 5).toInt = (q_45 5).toInt := by rw [← u_67, pk_uLn (by omega)]
    refine lv_aload_n hx hb dX12_log_88 rfl (lv_at hl 1 rfl) ?_
    refine k_get (ci := 12) (v := .ref (gr g h0 4)) (C := RX12) (T := TX12) (N := 27) hx hb hts (fun _ h0_ => List.mem_cons_of_mem _ (List.mem_append_right _ (List.mem_append_left _ h0_))) hown hK hI i_h0.1 k_66 rfl 4 (by decide) (hts (.fieldLink RX12 16 "DeadlineShareModel" "row" "[J") (List.mem_cons_of_mem _ (List.mem_append_left _ (List.mem_of_getElem? (i := 0) rfl)))) (fun _ h9 => h9) rfl dX12_log_89 ?_
    refine lv_iload_n hx hb dX12_log_92 rfl (lv_at hl 0 rfl) ?_
    refine lv_iconst (v := 2) hx hb dX12_log_93 (by decide) ?_
    refine lv_iadd hx hb dX12_log_94 ?_
    refine k_topi (y := nI (522 + 3 * m_39 + 2)) ((nI_add (522 + 3 * m_39) 2).trans (congrArg nI (by omega))) ?_
    refine lv_lconst (v := 0) hx hb dX12_log_95 (by decide) ?_
    refine k_last hx hb hK hI hS i_1.1 1 k_65 rfl (vp_in_nI (by omega) (by omega)) (cl_32 i_1) dX12_log_96 (fun f_77 H locs e_78 hI hS => ?_)
    generalize eq_79 : vp_updL q_63 (Int32.toNatClampNeg (nI (522 + 3 * m_39 + 2))) 0 = q_79 at e_78
    have k_81 : f_77 (gr g h0 4) = .inl (gc g 1, 906, .inr (.inl q_79)) := by rw [e_78]; exact va_up_self _ _ _
    have k_82 : f_77 h0 = .inr (12, [.int x_4, .int x_5, .ref (gr g h0 2), .ref (gr g h0 3), .ref (gr g h0 4), .ref (gr g h0 5), .ref (gr g h0 6), .ref (gr g h0 7), .ref (gr g h0 8), .ref (gr g h0 9), .int x_6, .ref (gr g h0 11), .int x_7, .int x_8, .int x_9, .int x_10, .long x_11, .int x_12, .int x_13, .ref (gr g h0 19), .ref (gr g h0 20), .ref (gr g h0 21), .ref (gr g h0 22), .int x_14, .long x_15, .long x_16, .long x_17]) := by rw [e_78, va_up_ne _ _ (ik_ne i_h0 i_1 (by decide))]; exact k_66
    have kp_80 := Kp.put kp_64 i_1 (by decide) e_78
    have u_83 : vp_updL q_63 (522 + 3 * m_39 + 2) 0 = q_79 := by rw [← eq_79, show Int32.toNatClampNeg (nI (522 + 3 * m_39 + 2)) = 522 + 3 * m_39 + 2 from (nI_clamp (by omega))]
    have ok_84 : RowOK q_79 := by rw [← u_83]; exact rk_upd ok_68 (by rw [show Int64.toInt 0 = 0 from by decide]; refine ⟨⟨by omega, by omega, by omega, by omega, by omega⟩, fun t9 ht9 => ⟨by omega, by omega, by omega, by omega, by omega, by omega⟩, fun t9 k9 ht9 hk9 => ⟨by omega, by omega, by omega⟩, by omega⟩)
    have d_85 := rk_hd ok_84
    have n_86 : (q_79 0).toInt = (q_63 0).toInt := by rw [← u_83, pk_uLn (by omega)]
    have n_87 : (q_79 1).toInt = (q_63 1).toInt := by rw [← u_83, pk_uLn (by omega)]
    have n_88 : (q_79 3).toInt = (q_63 3).toInt := by rw [← u_83, pk_uLn (by omega)]
    have n_89 : (q_79 4).toInt = (q_63 4).toInt := by rw [← u_83, pk_uLn (by omega)]
    have n_90 : (q_79 5).toInt = (q_63 5).toInt := by rw [← u_83, pk_uLn (by omega)]
    refine lv_iconst (v := 0) hx hb dX12_log_97 (by decide) ?_
    refine lv_istore_n (lv' := [(3, .int 0), (2, .int (nI (522 + 3 * m_39))), (0, .ref h0), (1, .int p1)]) hx hb dX12_log_98 rfl hl (by decide) rfl (fun ls hl => ?_)
    have K_99 : ∀ (nn : Nat) (y_91 : Nat) (q_93 : Nat → Int64) (f_92 : Nat → va_E) (H : Heap) (locs : List Loc) (ls : Array Slot), 12 - y_91 < nn → Iv dC dI g A f_92 H → va_S A s.heap H locs → f_92 (gr g h0 4) = .inl (gc g 1, 906, .inr (.inl q_93)) → RowOK q_93 → f_92 h0 = .inr (12, [.int x_4, .int x_5, .ref (gr g h0 2), .ref (gr g h0 3), .ref (gr g h0 4), .ref (gr g h0 5), .ref (gr g h0 6), .ref (gr g h0 7), .ref (gr g h0 8), .ref (gr g h0 9), .int x_6, .ref (gr g h0 11), .int x_7, .int x_8, .int x_9, .int x_10, .long x_11, .int x_12, .int x_13, .ref (gr g h0 19), .ref (gr g h0 20), .ref (gr g h0 21), .ref (gr g h0 22), .int x_14, .long x_15, .long x_16, .long x_17]) → Kp g [32] f f_92 → (y_91 ≤ 12) → (∀ j : Nat, j < 522 → q_93 j = q_45 j) → ((q_93 (522 + 3 * m_39 + 1)).toInt = r_60.toInt) → ((q_93 (522 + 3 * m_39 + 2)).toInt ≠ 0 → 1 ≤ r_60.toInt) → ((q_93 5).toInt = (m_39 : Int)) → ((q_93 0).toInt = (q 0).toInt) → ((q_93 1).toInt = (q 1).toInt) → lv_has ls 4 [(3, .int (nI y_91)), (2, .int (nI (522 + 3 * m_39))), (0, .ref h0), (1, .int p1)] → W p l e (headSpec wq_c_X12_log ({ frames := 3, cells := 0, slots := 0, locals := 64 } : Room)).room s m ([.ref h0, .int p1].toArray) below meth c H locs 0 0 (MQ below (va_Qv (fun (_ : Unit) => True) (fun (_ : Unit) t => ∃ f1 : Nat → va_E, Iv dC dI g A f1 t.heap ∧ Kp g [32] f f1 ∧ ∃ (q1 : Nat → Int64), (f1 (gr g h0 4) = .inl (gc g 1, 906, .inr (.inl q1))) ∧ (RowOK q1) ∧ ((q1 0).toInt = (q 0).toInt) ∧ ((q1 1).toInt = (q 1).toInt)) A) ([.ref h0, .int p1].toArray) s 0 0 A) (F0 m 99 ls []) := by
      intro nn
      induction nn with
      | zero => intro y_91 q_93 f_92 H locs ls m_105; exact absurd m_105 (Nat.not_lt_zero _)
      | succ nn ih =>
        intro y_91 q_93 f_92 H locs ls m_105 hI hS k_94 ok_95 k_96 kp_97 t_100 t_101 t_102 t_103 t_104 t_98 t_99 hl
        have d_106 := rk_hd ok_95
        refine lv_iload_n hx hb dX12_log_99 rfl (lv_at hl 0 rfl) ?_
        refine lv_i2l (v := lN (y_91)) hx hb dX12_log_100 (nI_l (by omega)) ?_
        refine lv_aload_n hx hb dX12_log_101 rfl (lv_at hl 2 rfl) ?_
        refine k_get (ci := 12) (v := .ref (gr g h0 4)) (C := RX12) (T := TX12) (N := 27) hx hb hts (fun _ h0_ => List.mem_cons_of_mem _ (List.mem_append_right _ (List.mem_append_left _ h0_))) hown hK hI i_h0.1 k_96 rfl 4 (by decide) (hts (.fieldLink RX12 16 "DeadlineShareModel" "row" "[J") (List.mem_cons_of_mem _ (List.mem_append_left _ (List.mem_of_getElem? (i := 0) rfl)))) (fun _ h9 => h9) rfl dX12_log_102 ?_
        refine lv_iconst (v := 0) hx hb dX12_log_105 (by decide) ?_
        refine k_lald hx hb hK hI i_1.1 1 k_94 rfl (by unfold vp_in; decide) dX12_log_106 ?_
        refine k_topl (y := q_93 0) (congrArg q_93 (show Int32.toNatClampNeg 0 = 0 by decide)) ?_
        refine W.lcmp hx hb dX12_log_107 ?_
        refine lv_if_ge (tgt := 149) hx hb dX12_log_108 (by decide) (fun c_109 => ?_) (fun c_109 => ?_)
        · have c_109 := lc_le rfl (lN_toInt (n := y_91) (by omega)) ((lg_cmp_ge _ _).mp c_109)
          refine lv_aload_n hx hb dX12_log_149 rfl (lv_at hl 2 rfl) ?_
          refine k_get (ci := 12) (v := .ref (gr g h0 4)) (C := RX12) (T := TX12) (N := 27) hx hb hts (fun _ h0_ => List.mem_cons_of_mem _ (List.mem_append_right _ (List.mem_append_left _ h0_))) hown hK hI i_h0.1 k_96 rfl 4 (by decide) (hts (.fieldLink RX12 16 "DeadlineShareModel" "row" "[J") (List.mem_cons_of_mem _ (List.mem_append_left _ (List.mem_of_getElem? (i := 0) rfl)))) (fun _ h9 => h9) rfl dX12_log_150 ?_
          refine lv_iconst (v := 5) hx hb dX12_log_153 (by decide) ?_
          refine lv_dup2_11 hx hb dX12_log_154 rfl rfl ?_
          refine k_lald hx hb hK hI i_1.1 1 k_94 rfl (by unfold vp_in; decide) dX12_log_155 ?_
          refine k_topl (y := q_93 5) (congrArg q_93 (show Int32.toNatClampNeg 5 = 5 by decide)) ?_
          refine lv_lconst (v := 1) hx hb dX12_log_156 (by decide) ?_
          refine lv_ladd hx hb dX12_log_157 ?_
          refine lv_topl (fun v_112 ev_112 => ?_)
          have tv_112 := l_ad (q_93 5) 1
          rw [← ev_112, show Int64.toInt 1 = 1 from by decide] at tv_112
          refine k_last hx hb hK hI hS i_1.1 1 k_94 rfl (by unfold vp_in; decide) (cl_32 i_1) dX12_log_158 (fun f_113 H locs e_114 hI hS => ?_)
          generalize eq_115 : vp_updL q_93 (Int32.toNatClampNeg 5) v_112 = q_115 at e_114
          have k_117 : f_113 (gr g h0 4) = .inl (gc g 1, 906, .inr (.inl q_115)) := by rw [e_114]; exact va_up_self _ _ _
          have k_118 : f_113 h0 = .inr (12, [.int x_4, .int x_5, .ref (gr g h0 2), .ref (gr g h0 3), .ref (gr g h0 4), .ref (gr g h0 5), .ref (gr g h0 6), .ref (gr g h0 7), .ref (gr g h0 8), .ref (gr g h0 9), .int x_6, .ref (gr g h0 11), .int x_7, .int x_8, .int x_9, .int x_10, .long x_11, .int x_12, .int x_13, .ref (gr g h0 19), .ref (gr g h0 20), .ref (gr g h0 21), .ref (gr g h0 22), .int x_14, .long x_15, .long x_16, .long x_17]) := by rw [e_114, va_up_ne _ _ (ik_ne i_h0 i_1 (by decide))]; exact k_96
          have kp_116 := Kp.put kp_97 i_1 (by decide) e_114
          have u_119 : vp_updL q_93 5 v_112 = q_115 := by rw [← eq_115, show Int32.toNatClampNeg 5 = 5 from (show Int32.toNatClampNeg 5 = 5 by decide)]
          have ok_120 : RowOK q_115 := by rw [← u_119]; exact rk_len ok_95 (by omega) (by omega) (fun l9 h9 h8 h7 => by have e9 : l9 = m_39 := (by omega); subst e9; omega)
          have d_121 := rk_hd ok_120
          have n_122 : (q_115 0).toInt = (q_93 0).toInt := by rw [← u_119, pk_uLn (by omega)]
          have n_123 : (q_115 1).toInt = (q_93 1).toInt := by rw [← u_119, pk_uLn (by omega)]
          have n_124 : (q_115 3).toInt = (q_93 3).toInt := by rw [← u_119, pk_uLn (by omega)]
          have n_125 : (q_115 4).toInt = (q_93 4).toInt := by rw [← u_119, pk_uLn (by omega)]
          have n_126 : (q_115 5).toInt = Int64.toInt v_112 := by rw [← u_119, pk_uLs]
          exact W.vret hx hb hr (fun t ht hW => ⟨⟨(), rfl, trivial, ⟨f_113, k_ret ht hI, kp_116, q_115, k_117, ok_120, (by first | omega | decide), (by first | omega | decide)⟩⟩, hS.F ht⟩) hS.2.2 dX12_log_159
        · have c_109 := ln_le rfl (lN_toInt (n := y_91) (by omega)) (fun h9 => c_109 ((lg_cmp_ge _ _).mpr h9))
          refine lv_aload_n hx hb dX12_log_111 rfl (lv_at hl 2 rfl) ?_
          refine k_get (ci := 12) (v := .ref (gr g h0 4)) (C := RX12) (T := TX12) (N := 27) hx hb hts (fun _ h0_ => List.mem_cons_of_mem _ (List.mem_append_right _ (List.mem_append_left _ h0_))) hown hK hI i_h0.1 k_96 rfl 4 (by decide) (hts (.fieldLink RX12 16 "DeadlineShareModel" "row" "[J") (List.mem_cons_of_mem _ (List.mem_append_left _ (List.mem_of_getElem? (i := 0) rfl)))) (fun _ h9 => h9) rfl dX12_log_112 ?_
          refine lv_iload_n hx hb dX12_log_115 rfl (lv_at hl 1 rfl) ?_
          refine lv_iconst (v := 2) hx hb dX12_log_116 (by decide) ?_
          refine lv_iadd hx hb dX12_log_117 ?_
          refine k_topi (y := nI (522 + 3 * m_39 + 2)) ((nI_add (522 + 3 * m_39) 2).trans (congrArg nI (by omega))) ?_
          refine lv_dup2_11 hx hb dX12_log_118 rfl rfl ?_
          refine k_lald hx hb hK hI i_1.1 1 k_94 rfl (vp_in_nI (by omega) (by omega)) dX12_log_119 ?_
          refine k_topl (y := q_93 (522 + 3 * m_39 + 2)) (congrArg q_93 (nI_clamp (by omega))) ?_
          refine lv_aload_n hx hb dX12_log_120 rfl (lv_at hl 2 rfl) ?_
          refine lv_iload_n hx hb dX12_log_121 rfl (lv_at hl 0 rfl) ?_
          refine va_calli (va_runV (As := [.int (nI y_91)]) (rest := [.long (q_93 (522 + 3 * m_39 + 2)), .int (nI (522 + 3 * m_39 + 2)), .ref (gr g h0 4)]) ⟨hx, hb, hml, hown, hts⟩ (c_X12_isOn l dC dI g A hG f_92 h0 y_91 q_93 i_h0 k_94 ok_95 (by first | omega | decide | (simp only [k_c0, k_c1, k_cm1]; omega))) (cwV 1 hts (gi_V (fun w_ h0_ => ⟨List.mem_cons_of_mem _ (List.mem_append_right _ (List.mem_append_right _ (List.mem_append_right _ (List.mem_append_left _ h0_)))), (tb_c_X12_isOn w_ h0_).2⟩) (List.mem_cons_of_mem _ (List.mem_append_left _ (List.mem_of_getElem? (i := 6) rfl))) (List.mem_cons_of_mem _ (List.mem_append_left _ (List.mem_of_getElem? (i := 7) rfl))) (List.mem_cons_of_mem _ (List.mem_append_left _ (List.mem_of_getElem? (i := 8) rfl))) (List.mem_cons_of_mem _ (List.mem_append_left _ (List.mem_of_getElem? (i := 5) rfl)))) rfl rfl rfl (by decide +kernel) ⟨Nat.le_of_ble_eq_true rfl, Nat.le_of_ble_eq_true rfl⟩) ⟨fun a U g mk q => ⟨q.1, q.2.calling rfl rfl⟩, k_recv hK hI i_h0.1 k_96 (ci := 12) rfl, fun U hU hW => ⟨rfl, kIn.of hI hK hE hS hU hW⟩⟩ rfl rfl hl.1 rfl (lv_room (Nat.le_of_ble_eq_true rfl)) dX12_log_122 ⟨Nat.le_of_ble_eq_true rfl, Nat.le_of_ble_eq_true rfl⟩) hS (fun q _ h => h) (fun q h => h) (fun r_130 u t H1 locs ht hvm w_129 hB hz1 hk1 hS => ?_)
          have hI : Iv dC dI g A f_92 t.heap := hB
          rw [ht] at hI
          generalize H1 = H at hI hS ⊢
          refine W.widen (k := 0) (n := 0) (Nat.le_of_ble_eq_true rfl) (Nat.le_of_ble_eq_true rfl) ?_
          have w_129 : (r_130.toInt = 0 ∧ (q_93 (6 + 43 * y_91 + 2)).toInt ≠ 1) ∨ (r_130.toInt = 1 ∧ (q_93 (6 + 43 * y_91 + 2)).toInt = 1) := w_129
          have J_141 : ∀ (y_131 : Int64) (H : Heap) (locs : List Loc) (ls : Array Slot), Iv dC dI g A f_92 H → va_S A s.heap H locs → (y_131.toInt ≠ 0 → 1 ≤ r_60.toInt) → lv_has ls 4 [(3, .int (nI y_91)), (2, .int (nI (522 + 3 * m_39))), (0, .ref h0), (1, .int p1)] → W p l e (headSpec wq_c_X12_log ({ frames := 3, cells := 0, slots := 0, locals := 64 } : Room)).room s m ([.ref h0, .int p1].toArray) below meth c H locs 0 0 (MQ below (va_Qv (fun (_ : Unit) => True) (fun (_ : Unit) t => ∃ f1 : Nat → va_E, Iv dC dI g A f1 t.heap ∧ Kp g [32] f f1 ∧ ∃ (q1 : Nat → Int64), (f1 (gr g h0 4) = .inl (gc g 1, 906, .inr (.inl q1))) ∧ (RowOK q1) ∧ ((q1 0).toInt = (q 0).toInt) ∧ ((q1 1).toInt = (q 1).toInt)) A) ([.ref h0, .int p1].toArray) s 0 0 A) (F0 m 141 ls [.long y_131, .long (q_93 (522 + 3 * m_39 + 2)), .int (nI (522 + 3 * m_39 + 2)), .ref (gr g h0 4)]) := by
            intro y_131 H locs ls hI hS t_132 hl
            refine lv_lor hx hb dX12_log_141 ?_
            refine lv_topl (fun v_133 ev_133 => ?_)
            have tv_133 := l_or0 (q_93 (522 + 3 * m_39 + 2)) y_131
            rw [← ev_133] at tv_133
            refine k_last hx hb hK hI hS i_1.1 1 k_94 rfl (vp_in_nI (by omega) (by omega)) (cl_32 i_1) dX12_log_142 (fun f_134 H locs e_135 hI hS => ?_)
            generalize eq_136 : vp_updL q_93 (Int32.toNatClampNeg (nI (522 + 3 * m_39 + 2))) v_133 = q_136 at e_135
            have k_138 : f_134 (gr g h0 4) = .inl (gc g 1, 906, .inr (.inl q_136)) := by rw [e_135]; exact va_up_self _ _ _
            have k_139 : f_134 h0 = .inr (12, [.int x_4, .int x_5, .ref (gr g h0 2), .ref (gr g h0 3), .ref (gr g h0 4), .ref (gr g h0 5), .ref (gr g h0 6), .ref (gr g h0 7), .ref (gr g h0 8), .ref (gr g h0 9), .int x_6, .ref (gr g h0 11), .int x_7, .int x_8, .int x_9, .int x_10, .long x_11, .int x_12, .int x_13, .ref (gr g h0 19), .ref (gr g h0 20), .ref (gr g h0 21), .ref (gr g h0 22), .int x_14, .long x_15, .long x_16, .long x_17]) := by rw [e_135, va_up_ne _ _ (ik_ne i_h0 i_1 (by decide))]; exact k_96
            have kp_137 := Kp.put kp_97 i_1 (by decide) e_135
            have u_140 : vp_updL q_93 (522 + 3 * m_39 + 2) v_133 = q_136 := by rw [← eq_136, show Int32.toNatClampNeg (nI (522 + 3 * m_39 + 2)) = 522 + 3 * m_39 + 2 from (nI_clamp (by omega))]
            have ok_141 : RowOK q_136 := by rw [← u_140]; exact rk_upd ok_95 (by refine ⟨⟨by omega, by omega, by omega, by omega, by omega⟩, fun t9 ht9 => ⟨by omega, by omega, by omega, by omega, by omega, by omega⟩, fun t9 k9 ht9 hk9 => ⟨by omega, by omega, by omega⟩, by omega⟩)
            have d_142 := rk_hd ok_141
            have n_143 : (q_136 0).toInt = (q_93 0).toInt := by rw [← u_140, pk_uLn (by omega)]
            have n_144 : (q_136 1).toInt = (q_93 1).toInt := by rw [← u_140, pk_uLn (by omega)]
            have n_145 : (q_136 3).toInt = (q_93 3).toInt := by rw [← u_140, pk_uLn (by omega)]
            have n_146 : (q_136 4).toInt = (q_93 4).toInt := by rw [← u_140, pk_uLn (by omega)]
            have n_147 : (q_136 5).toInt = (q_93 5).toInt := by rw [← u_140, pk_uLn (by omega)]
            refine lv_iinc (v := nI (y_91 + 1)) (lv' := [(3, .int (nI (y_91 + 1))), (2, .int (nI (522 + 3 * m_39))), (0, .ref h0), (1, .int p1)]) hx hb dX12_log_143 hl (k := 0) rfl (nI_1 _) (by decide) rfl (fun ls hl => ?_)
            refine lv_goto (tgt := 99) hx hb dX12_log_146 (by decide) ?_
            exact ih (y_91 + 1) q_136 f_134 _ _ _ (by omega) hI hS k_138 ok_141 k_139 kp_137 (by first | omega | decide) (fun j9 h9 => by rw [← u_140, pk_uLn (by omega)]; exact t_101 j9 h9) (by rw [← u_140, pk_uLn (by omega)]; exact t_102) (by rw [← u_140, pk_uLs]; omega) (by first | omega | decide) (by first | omega | decide) (by first | omega | decide) (lv_sub hl [0, 1, 2, 3] rfl)
          refine lv_if_eq (tgt := 140) hx hb dX12_log_125 (by decide) (fun c_148 => ?_) (fun c_148 => ?_)
          · have c_148 := kc_eq rfl (by decide : Int32.toInt 0 = 0) c_148
            refine lv_lconst (v := 0) hx hb dX12_log_140 (by decide) ?_
            exact J_141 0 _ _ _ hI hS (by first | omega | decide | (simp only [show Int64.toInt 0 = 0 from by decide]; omega)) (lv_sub hl [0, 1, 2, 3] rfl)
          · have c_148 := kn_eq rfl (by decide : Int32.toInt 0 = 0) c_148
            have d_149 := w_59.2.2 y_91 (by rw [← t_101 0 (by omega)]; omega) (by rw [← t_101 _ (by omega)]; omega)
            refine lv_aload_n hx hb dX12_log_128 rfl (lv_at hl 2 rfl) ?_
            refine lv_iload_n hx hb dX12_log_129 rfl (lv_at hl 0 rfl) ?_
            refine va_calll (va_runV (As := [.int (nI y_91)]) (rest := [.long (q_93 (522 + 3 * m_39 + 2)), .int (nI (522 + 3 * m_39 + 2)), .ref (gr g h0 4)]) ⟨hx, hb, hml, hown, hts⟩ (c_X12_weight l dC dI g A hG f_92 h0 y_91 q_93 i_h0 k_94 ok_95 (by first | omega | decide | (simp only [k_c0, k_c1, k_cm1]; omega))) (cwV 1 hts (gi_V (fun w_ h0_ => ⟨List.mem_cons_of_mem _ (List.mem_append_right _ (List.mem_append_right _ (List.mem_append_right _ (List.mem_append_right _ (List.mem_append_left _ h0_))))), (tb_c_X12_weight w_ h0_).2⟩) (List.mem_cons_of_mem _ (List.mem_append_left _ (List.mem_of_getElem? (i := 9) rfl))) (List.mem_cons_of_mem _ (List.mem_append_left _ (List.mem_of_getElem? (i := 10) rfl))) (List.mem_cons_of_mem _ (List.mem_append_left _ (List.mem_of_getElem? (i := 11) rfl))) (List.mem_cons_of_mem _ (List.mem_append_left _ (List.mem_of_getElem? (i := 5) rfl)))) rfl rfl rfl (by decide +kernel) ⟨Nat.le_of_ble_eq_true rfl, Nat.le_of_ble_eq_true rfl⟩) ⟨fun a U g mk q => ⟨q.1, q.2.calling rfl rfl⟩, k_recv hK hI i_h0.1 k_96 (ci := 12) rfl, fun U hU hW => ⟨rfl, kIn.of hI hK hE hS hU hW⟩⟩ rfl rfl hl.1 rfl (lv_room (Nat.le_of_ble_eq_true rfl)) dX12_log_130 ⟨Nat.le_of_ble_eq_true rfl, Nat.le_of_ble_eq_true rfl⟩) hS (fun q _ h => h) (fun q h => h) (fun r_151 u t H1 locs ht hvm w_150 hB hz1 hk1 hS => ?_)
            have hI : Iv dC dI g A f_92 t.heap := hB
            rw [ht] at hI
            generalize H1 = H at hI hS ⊢
            refine W.widen (k := 0) (n := 0) (Nat.le_of_ble_eq_true rfl) (Nat.le_of_ble_eq_true rfl) ?_
            have w_150 : r_151 = q_93 (6 + 43 * y_91) := w_150
            refine k_topl (y := q_93 (6 + 43 * y_91)) w_150 ?_
            have d_152 := rk_0 ok_95 (t := y_91) (by omega)
            refine lv_iconst (v := 4) hx hb dX12_log_133 (by decide) ?_
            refine lv_iload_n hx hb dX12_log_134 rfl (lv_at hl 0 rfl) ?_
            refine lv_imul hx hb dX12_log_135 ?_
            refine k_topi (y := nI (4 * y_91)) ((pk_mul 4 y_91).trans (congrArg nI (by omega))) ?_
            refine lv_lshl hx hb dX12_log_136 rfl ?_
            refine lv_topl (fun v_153 ev_153 => ?_)
            refine lv_goto (tgt := 141) hx hb dX12_log_137 (by decide) ?_
            exact J_141 v_153 _ _ _ hI hS (by first | omega | decide) (lv_sub hl [0, 1, 2, 3] rfl)
    exact K_99 _ 0 q_79 f_77 _ _ _ (Nat.lt_succ_self _) hI hS k_81 ok_84 k_82 kp_80 (by first | omega | decide) (fun j9 h9 => by rw [← u_83, pk_uLn (by omega), ← u_67, pk_uLn (by omega)]) (by rw [← u_83, pk_uLn (by omega), ← u_67, pk_uLs]) (by rw [← u_83, pk_uLs]; intro h9; exact absurd (by decide) h9) (by first | omega | decide) (by first | omega | decide) (by first | omega | decide) (lv_sub hl [0, 1, 2, 3] rfl)
  refine lv_if_ne (tgt := 54) hx hb dX12_log_10 (by decide) (fun c_154 => ?_) (fun c_154 => ?_)
  · have c_154 := ln_eq rfl (by decide : Int64.toInt 128 = 128) (fun h9 => c_154 ((lg_cmp_eq _ _).mpr h9))
    exact J_54 q f _ _ _ hI hS hc0 hc0_ok k_3 hk0 (by first | omega | decide) (by first | omega | decide) (by first | omega | decide) (lv_sub hl [0, 1] rfl)
  · have c_154 := lc_eq rfl (by decide : Int64.toInt 128 = 128) ((lg_cmp_eq _ _).mp c_154)
    refine lv_sipush (v := 522) hx hb dX12_log_13 (by decide) ?_
    refine lv_istore_n (lv' := [(2, .int 522), (0, .ref h0), (1, .int p1)]) hx hb dX12_log_16 rfl hl (by decide) rfl (fun ls hl => ?_)
    have K_17 : ∀ (nn : Nat) (y_155 : Nat) (q_157 : Nat → Int64) (f_156 : Nat → va_E) (H : Heap) (locs : List Loc) (ls : Array Slot), 903 - y_155 < nn → Iv dC dI g A f_156 H → va_S A s.heap H locs → f_156 (gr g h0 4) = .inl (gc g 1, 906, .inr (.inl q_157)) → f_156 h0 = .inr (12, [.int x_4, .int x_5, .ref (gr g h0 2), .ref (gr g h0 3), .ref (gr g h0 4), .ref (gr g h0 5), .ref (gr g h0 6), .ref (gr g h0 7), .ref (gr g h0 8), .ref (gr g h0 9), .int x_6, .ref (gr g h0 11), .int x_7, .int x_8, .int x_9, .int x_10, .long x_11, .int x_12, .int x_13, .ref (gr g h0 19), .ref (gr g h0 20), .ref (gr g h0 21), .ref (gr g h0 22), .int x_14, .long x_15, .long x_16, .long x_17]) → Kp g [32] f f_156 → (522 ≤ y_155 ∧ y_155 ≤ 903) → (∀ j : Nat, 522 ≤ j → j < y_155 → q_157 j = q (j + 3)) → (∀ j : Nat, (j < 522 ∨ y_155 ≤ j) → q_157 j = q j) → lv_has ls 4 [(2, .int (nI y_155)), (0, .ref h0), (1, .int p1)] → W p l e (headSpec wq_c_X12_log ({ frames := 3, cells := 0, slots := 0, locals := 64 } : Room)).room s m ([.ref h0, .int p1].toArray) below meth c H locs 0 0 (MQ below (va_Qv (fun (_ : Unit) => True) (fun (_ : Unit) t => ∃ f1 : Nat → va_E, Iv dC dI g A f1 t.heap ∧ Kp g [32] f f1 ∧ ∃ (q1 : Nat → Int64), (f1 (gr g h0 4) = .inl (gc g 1, 906, .inr (.inl q1))) ∧ (RowOK q1) ∧ ((q1 0).toInt = (q 0).toInt) ∧ ((q1 1).toInt = (q 1).toInt)) A) ([.ref h0, .int p1].toArray) s 0 0 A) (F0 m 17 ls []) := by
      intro nn
      induction nn with
      | zero => intro y_155 q_157 f_156 H locs ls m_164; exact absurd m_164 (Nat.not_lt_zero _)
      | succ nn ih =>
        intro y_155 q_157 f_156 H locs ls m_164 hI hS k_158 k_159 kp_160 t_161 t_162 t_163 hl
        refine lv_iload_n hx hb dX12_log_17 rfl (lv_at hl 0 rfl) ?_
        refine lv_sipush (v := 903) hx hb dX12_log_18 (by decide) ?_
        refine lv_icmp_ge (tgt := 44) hx hb dX12_log_21 (by decide) (fun c_165 => ?_) (fun c_165 => ?_)
        · have c_165 := kc_le (by decide : Int32.toInt 903 = 903) (nI_toInt (n := y_155) (by omega)) c_165
          refine lv_aload_n hx hb dX12_log_44 rfl (lv_at hl 1 rfl) ?_
          refine k_get (ci := 12) (v := .ref (gr g h0 4)) (C := RX12) (T := TX12) (N := 27) hx hb hts (fun _ h0_ => List.mem_cons_of_mem _ (List.mem_append_right _ (List.mem_append_left _ h0_))) hown hK hI i_h0.1 k_159 rfl 4 (by decide) (hts (.fieldLink RX12 16 "DeadlineShareModel" "row" "[J") (List.mem_cons_of_mem _ (List.mem_append_left _ (List.mem_of_getElem? (i := 0) rfl)))) (fun _ h9 => h9) rfl dX12_log_45 ?_
          refine lv_iconst (v := 5) hx hb dX12_log_48 (by decide) ?_
          refine lv_dup2_11 hx hb dX12_log_49 rfl rfl ?_
          refine k_lald hx hb hK hI i_1.1 1 k_158 rfl (by unfold vp_in; decide) dX12_log_50 ?_
          refine k_topl (y := q_157 5) (congrArg q_157 (show Int32.toNatClampNeg 5 = 5 by decide)) ?_
          refine lv_lconst (v := 1) hx hb dX12_log_51 (by decide) ?_
          refine lv_lsub hx hb dX12_log_52 ?_
          refine lv_topl (fun v_168 ev_168 => ?_)
          have tv_168 := l_sb (q_157 5) 1
          rw [← ev_168, show Int64.toInt 1 = 1 from by decide] at tv_168
          refine k_last hx hb hK hI hS i_1.1 1 k_158 rfl (by unfold vp_in; decide) (cl_32 i_1) dX12_log_53 (fun f_169 H locs e_170 hI hS => ?_)
          generalize eq_171 : vp_updL q_157 (Int32.toNatClampNeg 5) v_168 = q_171 at e_170
          have k_173 : f_169 (gr g h0 4) = .inl (gc g 1, 906, .inr (.inl q_171)) := by rw [e_170]; exact va_up_self _ _ _
          have k_174 : f_169 h0 = .inr (12, [.int x_4, .int x_5, .ref (gr g h0 2), .ref (gr g h0 3), .ref (gr g h0 4), .ref (gr g h0 5), .ref (gr g h0 6), .ref (gr g h0 7), .ref (gr g h0 8), .ref (gr g h0 9), .int x_6, .ref (gr g h0 11), .int x_7, .int x_8, .int x_9, .int x_10, .long x_11, .int x_12, .int x_13, .ref (gr g h0 19), .ref (gr g h0 20), .ref (gr g h0 21), .ref (gr g h0 22), .int x_14, .long x_15, .long x_16, .long x_17]) := by rw [e_170, va_up_ne _ _ (ik_ne i_h0 i_1 (by decide))]; exact k_159
          have kp_172 := Kp.put kp_160 i_1 (by decide) e_170
          have u_175 : vp_updL q_157 5 v_168 = q_171 := by rw [← eq_171, show Int32.toNatClampNeg 5 = 5 from (show Int32.toNatClampNeg 5 = 5 by decide)]
          have n_177 : (q_157 0).toInt = (q 0).toInt := by rw [t_163 0 (by omega)]
          have n_178 : (q_157 1).toInt = (q 1).toInt := by rw [t_163 1 (by omega)]
          have n_179 : (q_157 5).toInt = (q 5).toInt := by rw [t_163 5 (by omega)]
          have ok_176 : RowOK q_171 := by rw [← u_175]; exact rk_shift hc0_ok (by omega) (fun j9 h9 h8 => t_162 j9 h9 (by omega)) (fun j9 h9 => t_163 j9 (by omega)) (by omega)
          have d_180 := rk_hd ok_176
          have n_181 : (q_171 0).toInt = (q_157 0).toInt := by rw [← u_175, pk_uLn (by omega)]
          have n_182 : (q_171 1).toInt = (q_157 1).toInt := by rw [← u_175, pk_uLn (by omega)]
          have n_183 : (q_171 3).toInt = (q_157 3).toInt := by rw [← u_175, pk_uLn (by omega)]
          have n_184 : (q_171 4).toInt = (q_157 4).toInt := by rw [← u_175, pk_uLn (by omega)]
          have n_185 : (q_171 5).toInt = Int64.toInt v_168 := by rw [← u_175, pk_uLs]
          exact J_54 q_171 f_169 _ _ _ hI hS k_173 ok_176 k_174 kp_172 (by first | omega | decide) (by first | omega | decide) (by first | omega | decide) (lv_sub hl [1, 2] rfl)
        · have c_165 := kn_le (by decide : Int32.toInt 903 = 903) (nI_toInt (n := y_155) (by omega)) c_165
          refine lv_aload_n hx hb dX12_log_24 rfl (lv_at hl 1 rfl) ?_
          refine k_get (ci := 12) (v := .ref (gr g h0 4)) (C := RX12) (T := TX12) (N := 27) hx hb hts (fun _ h0_ => List.mem_cons_of_mem _ (List.mem_append_right _ (List.mem_append_left _ h0_))) hown hK hI i_h0.1 k_159 rfl 4 (by decide) (hts (.fieldLink RX12 16 "DeadlineShareModel" "row" "[J") (List.mem_cons_of_mem _ (List.mem_append_left _ (List.mem_of_getElem? (i := 0) rfl)))) (fun _ h9 => h9) rfl dX12_log_25 ?_
          refine lv_iload_n hx hb dX12_log_28 rfl (lv_at hl 0 rfl) ?_
          refine lv_aload_n hx hb dX12_log_29 rfl (lv_at hl 1 rfl) ?_
          refine k_get (ci := 12) (v := .ref (gr g h0 4)) (C := RX12) (T := TX12) (N := 27) hx hb hts (fun _ h0_ => List.mem_cons_of_mem _ (List.mem_append_right _ (List.mem_append_left _ h0_))) hown hK hI i_h0.1 k_159 rfl 4 (by decide) (hts (.fieldLink RX12 16 "DeadlineShareModel" "row" "[J") (List.mem_cons_of_mem _ (List.mem_append_left _ (List.mem_of_getElem? (i := 0) rfl)))) (fun _ h9 => h9) rfl dX12_log_30 ?_
          refine lv_iload_n hx hb dX12_log_33 rfl (lv_at hl 0 rfl) ?_
          refine lv_iconst (v := 3) hx hb dX12_log_34 (by decide) ?_
          refine lv_iadd hx hb dX12_log_35 ?_
          refine k_topi (y := nI (y_155 + 3)) ((nI_add y_155 3).trans (congrArg nI (by omega))) ?_
          refine k_lald hx hb hK hI i_1.1 1 k_158 rfl (vp_in_nI (by omega) (by omega)) dX12_log_36 ?_
          refine k_topl (y := q_157 (y_155 + 3)) (congrArg q_157 (nI_clamp (by omega))) ?_
          refine k_last hx hb hK hI hS i_1.1 1 k_158 rfl (vp_in_nI (by omega) (by omega)) (cl_32 i_1) dX12_log_37 (fun f_190 H locs e_191 hI hS => ?_)
          generalize eq_192 : vp_updL q_157 (Int32.toNatClampNeg (nI y_155)) (q_157 (y_155 + 3)) = q_192 at e_191
          have k_194 : f_190 (gr g h0 4) = .inl (gc g 1, 906, .inr (.inl q_192)) := by rw [e_191]; exact va_up_self _ _ _
          have k_195 : f_190 h0 = .inr (12, [.int x_4, .int x_5, .ref (gr g h0 2), .ref (gr g h0 3), .ref (gr g h0 4), .ref (gr g h0 5), .ref (gr g h0 6), .ref (gr g h0 7), .ref (gr g h0 8), .ref (gr g h0 9), .int x_6, .ref (gr g h0 11), .int x_7, .int x_8, .int x_9, .int x_10, .long x_11, .int x_12, .int x_13, .ref (gr g h0 19), .ref (gr g h0 20), .ref (gr g h0 21), .ref (gr g h0 22), .int x_14, .long x_15, .long x_16, .long x_17]) := by rw [e_191, va_up_ne _ _ (ik_ne i_h0 i_1 (by decide))]; exact k_159
          have kp_193 := Kp.put kp_160 i_1 (by decide) e_191
          have u_196 : vp_updL q_157 y_155 (q_157 (y_155 + 3)) = q_192 := by rw [← eq_192, show Int32.toNatClampNeg (nI y_155) = y_155 from (nI_clamp (by omega))]
          refine lv_iinc (v := nI (y_155 + 1)) (lv' := [(2, .int (nI (y_155 + 1))), (0, .ref h0), (1, .int p1)]) hx hb dX12_log_38 hl (k := 0) rfl (nI_1 _) (by decide) rfl (fun ls hl => ?_)
          refine lv_goto (tgt := 17) hx hb dX12_log_41 (by decide) ?_
          exact ih (y_155 + 1) q_192 f_190 _ _ _ (by omega) hI hS k_194 k_195 kp_193 (by first | omega | decide) (fun j9 h9 h8 => by rw [← u_196]; exact if h7 : j9 = y_155 then (by subst h7; rw [pk_uLs]; exact t_163 _ (by omega)) else (by rw [pk_uLn (by omega)]; exact t_162 j9 h9 (by omega))) (fun j9 h9 => by rw [← u_196, pk_uLn (by omega)]; exact t_163 j9 (by omega)) (lv_sub hl [0, 1, 2] rfl)
    exact K_17 _ 522 q f _ _ _ (Nat.lt_succ_self _) hI hS hc0 k_3 hk0 (by first | omega | decide) (fun j9 h9 h8 => by omega) (fun j9 h9 => rfl) (lv_sub hl [0, 1, 2] rfl)
theorem tw_851 : q_g (.selects RX12 yX12_wake yX12_wake) := ⟨(List.mem_append_left _ (List.mem_of_getElem? (i := 49) (by decide +kernel))), good_of_word (by decide +kernel)⟩
theorem tw_852 : q_g (.instanceMethod yX12_wake) := ⟨(List.mem_append_right _ (List.mem_of_getElem? (i := 1403) (by decide +kernel))), good_of_word (by decide +kernel)⟩
theorem tw_853 : q_g (.methodLink RX12 274 yX12_wake) := ⟨(List.mem_append_right _ (List.mem_of_getElem? (i := 1401) (by decide +kernel))), good_of_word (by decide +kernel)⟩
theorem tw_854 : q_g (.constantLong RX12 124 (3)) := ⟨(List.mem_append_right _ (List.mem_of_getElem? (i := 1199) (by decide +kernel))), good_of_word (by decide +kernel)⟩
theorem tw_855 : q_g (.selects RX12 yX12_runs yX12_runs) := ⟨(List.mem_append_left _ (List.mem_of_getElem? (i := 57) (by decide +kernel))), good_of_word (by decide +kernel)⟩
theorem tw_856 : q_g (.instanceMethod yX12_runs) := ⟨(List.mem_append_right _ (List.mem_of_getElem? (i := 1439) (by decide +kernel))), good_of_word (by decide +kernel)⟩
theorem tw_857 : q_g (.methodLink RX12 283 yX12_runs) := ⟨(List.mem_append_right _ (List.mem_of_getElem? (i := 1437) (by decide +kernel))), good_of_word (by decide +kernel)⟩
theorem tw_858 : q_g (.selects RX12 yX12_log yX12_log) := ⟨(List.mem_append_left _ (List.mem_of_getElem? (i := 56) (by decide +kernel))), good_of_word (by decide +kernel)⟩
theorem tw_859 : q_g (.instanceMethod yX12_log) := ⟨(List.mem_append_right _ (List.mem_of_getElem? (i := 1434) (by decide +kernel))), good_of_word (by decide +kernel)⟩
theorem tw_860 : q_g (.methodLink RX12 280 yX12_log) := ⟨(List.mem_append_right _ (List.mem_of_getElem? (i := 1432) (by decide +kernel))), good_of_word (by decide +kernel)⟩
theorem tw_861 : q_g (.selects RX12 yX12_chosen yX12_chosen) := ⟨(List.mem_append_left _ (List.mem_of_getElem? (i := 50) (by decide +kernel))), good_of_word (by decide +kernel)⟩
theorem tw_862 : q_g (.instanceMethod yX12_chosen) := ⟨(List.mem_append_right _ (List.mem_of_getElem? (i := 1407) (by decide +kernel))), good_of_word (by decide +kernel)⟩
theorem tw_863 : q_g (.methodLink RX12 277 yX12_chosen) := ⟨(List.mem_append_right _ (List.mem_of_getElem? (i := 1405) (by decide +kernel))), good_of_word (by decide +kernel)⟩
theorem tw_864 : q_g (.code yX12_tick cX12_tick 4 (some .int)) := ⟨(List.mem_append_right _ (List.mem_of_getElem? (i := 1400) (by decide +kernel))), good_of_word (by decide +kernel)⟩
def ow_c_X12_tick : List Cond := [.fieldLink RX12 16 "DeadlineShareModel" "row" "[J", .methodLink RX12 277 yX12_chosen, .instanceMethod yX12_chosen, .selects RX12 yX12_chosen yX12_chosen, .initialized RX12, .methodLink RX12 280 yX12_log, .instanceMethod yX12_log, .selects RX12 yX12_log yX12_log, .methodLink RX12 283 yX12_runs, .instanceMethod yX12_runs, .selects RX12 yX12_runs yX12_runs, .methodLink RX12 87 yX12_at, .static yX12_at, .methodLink RX12 90 yX12_isOn, .instanceMethod yX12_isOn, .selects RX12 yX12_isOn yX12_isOn, .methodLink RX12 145 yX12_isSpent, .instanceMethod yX12_isSpent, .selects RX12 yX12_isSpent yX12_isSpent, .methodLink RX12 154 yX12_leaves, .instanceMethod yX12_leaves, .selects RX12 yX12_leaves yX12_leaves, .constantLong RX12 124 (3), .methodLink RX12 223 yX12_goOn, .instanceMethod yX12_goOn, .selects RX12 yX12_goOn yX12_goOn, .constantLong RX12 122 (2), .methodLink RX12 274 yX12_wake, .instanceMethod yX12_wake, .selects RX12 yX12_wake yX12_wake, .methodLink RX12 148 yX12_hasRoom, .instanceMethod yX12_hasRoom, .selects RX12 yX12_hasRoom yX12_hasRoom, .methodLink RX12 151 yX12_joins, .instanceMethod yX12_joins, .selects RX12 yX12_joins yX12_joins]
def wq_c_X12_tick : List Cond := .code yX12_tick cX12_tick 4 (some .int) :: (ow_c_X12_tick ++ (u_ws RX12 TX12 27 ++ (wq_c_X12_chosen ++ (wq_c_X12_log ++ (wq_c_X12_runs ++ (wq_c_X12_at ++ (wq_c_X12_isOn ++ (wq_c_X12_isSpent ++ (wq_c_X12_leaves ++ (wq_c_X12_goOn ++ (wq_c_X12_wake ++ (wq_c_X12_hasRoom ++ (wq_c_X12_joins ++ ([] : List Cond))))))))))))))
theorem tb_c_X12_tick : ∀ w ∈ wq_c_X12_tick, q_g w := by
  unfold wq_c_X12_tick ow_c_X12_tick
  exact q_cons tw_864 (q_app (q_cons tw_731 (q_cons tw_863 (q_cons tw_862 (q_cons tw_861 (q_cons tw_728 (q_cons tw_860 (q_cons tw_859 (q_cons tw_858 (q_cons tw_857 (q_cons tw_856 (q_cons tw_855 (q_cons tw_734 (q_cons tw_733 (q_cons tw_744 (q_cons tw_743 (q_cons tw_742 (q_cons tw_844 (q_cons tw_843 (q_cons tw_842 (q_cons tw_834 (q_cons tw_833 (q_cons tw_832 (q_cons tw_854 (q_cons tw_838 (q_cons tw_837 (q_cons tw_836 (q_cons tw_822 (q_cons tw_853 (q_cons tw_852 (q_cons tw_851 (q_cons tw_847 (q_cons tw_846 (q_cons tw_845 (q_cons tw_841 (q_cons tw_840 (q_cons tw_839 q_nil)))))))))))))))))))))))))))))))))))) (q_app tu_X12 (q_app tb_c_X12_chosen (q_app tb_c_X12_log (q_app tb_c_X12_runs (q_app tb_c_X12_at (q_app tb_c_X12_isOn (q_app tb_c_X12_isSpent (q_app tb_c_X12_leaves (q_app tb_c_X12_goOn (q_app tb_c_X12_wake (q_app tb_c_X12_hasRoom (q_app tb_c_X12_joins q_nil)))))))))))))
set_option maxHeartbeats 4000000 in
set_option maxRecDepth 100000 in
theorem c_X12_tick (l : Launch) (dC : Nat → ClassId) (dI : Nat → Nat → Nat) (g : kG) (A : Nat → Prop) (hG : kWf g) (f : Nat → va_E) (h0 : Nat) (p1 : Int32) (z0 : Int32) (z1 : Int32) (z10 : Int32) (z12 : Int32) (z13 : Int32) (z14 : Int32) (z15 : Int32) (z16 : Int64) (z17 : Int32) (z18 : Int32) (z23 : Int32) (z24 : Int64) (z25 : Int64) (z26 : Int64) (q : Nat → Int64) (i_h0 : ik g 12 h0) (hc0 : f h0 = .inr (12, [.int z0, .int z1, .ref (gr g h0 2), .ref (gr g h0 3), .ref (gr g h0 4), .ref (gr g h0 5), .ref (gr g h0 6), .ref (gr g h0 7), .ref (gr g h0 8), .ref (gr g h0 9), .int z10, .ref (gr g h0 11), .int z12, .int z13, .int z14, .int z15, .long z16, .int z17, .int z18, .ref (gr g h0 19), .ref (gr g h0 20), .ref (gr g h0 21), .ref (gr g h0 22), .int z23, .long z24, .long z25, .long z26])) (hc0_10 : 0 ≤ z10.toInt ∧ z10.toInt ≤ 10) (hc0_12 : 0 ≤ z12.toInt ∧ z12.toInt ≤ 200) (hc0_23 : 0 ≤ z23.toInt ∧ z23.toInt ≤ 8) (hc1 : f (gr g h0 4) = .inl (gc g 1, 906, .inr (.inl q))) (hc1_ok : RowOK q) (hT : (q 1).toInt ≤ 9998) : Met l yX12_tick wq_c_X12_tick ({ frames := 7, cells := 0, slots := 0, locals := 164 } : Room) (va_Pc [.ref h0, .int p1] (fun U => kIn dC dI g A f U)) (va_Qi (fun (r : Int32) (_ : Unit) => -1 ≤ r.toInt ∧ r.toInt < (q 0).toInt) (fun (_ : Unit) t => ∃ f1 : Nat → va_E, Iv dC dI g A f1 t.heap ∧ Kp g [12, 32] f f1 ∧ ∃ (w24 : Int64) (q1 : Nat → Int64), (f1 h0 = .inr (12, [.int z0, .int z1, .ref (gr g h0 2), .ref (gr g h0 3), .ref (gr g h0 4), .ref (gr g h0 5), .ref (gr g h0 6), .ref (gr g h0 7), .ref (gr g h0 8), .ref (gr g h0 9), .int z10, .ref (gr g h0 11), .int z12, .int z13, .int z14, .int z15, .long z16, .int z17, .int z18, .ref (gr g h0 19), .ref (gr g h0 20), .ref (gr g h0 21), .ref (gr g h0 22), .int z23, .long w24, .long z25, .long z26])) ∧ (f1 (gr g h0 4) = .inl (gc g 1, 906, .inr (.inl q1))) ∧ (RowOK q1) ∧ ((q1 0).toInt = (q 0).toInt) ∧ ((q1 1).toInt = (q 1).toInt + 1)) A) 0 0 A := by
  refine Met.ofW (cc := cX12_tick) (maxL := 4) (ret := (some .int)) (by decide) rfl ?_
  intro p e s m args below meth c s₁ B hml hv
  obtain ⟨rfl, hI, hK, hE⟩ := hv
  have hx := B.exec
  have hb := B.bytes
  have hr := B.returns
  have hts := atoms_spec (ws := wq_c_X12_tick) B.pre
  have hown : s.vm.findClass RX12 = some m.cls := findClass_of_methodNamed B.named
  have hlocks := B.notSynchronized
  have hS : va_S A s.heap s.heap [] := va_S.rf
  have hk0 : Kp g [12, 32] f f := Kp.rf
  have hl := lv_entry ([.ref h0, .int p1]) (n := 4) (Nat.le_of_ble_eq_true rfl)
  rw [lg_entry_eq]
  generalize (lg_sl ([.ref h0, .int p1]) ++ List.replicate (4 - (lg_sl ([.ref h0, .int p1])).length) Slot.unset).toArray = ls at hl ⊢
  have hl : lv_has ls 4 [(0, .ref h0), (1, .int p1)] := hl
  have i_1 := kw_12_4 hG i_h0
  have d_2 := rk_hd hc1_ok
  refine lv_iconst (v := 0) hx hb dX12_tick_0 (by decide) ?_
  refine lv_istore_n (lv' := [(2, .int 0), (0, .ref h0), (1, .int p1)]) hx hb dX12_tick_1 rfl hl (by decide) rfl (fun ls hl => ?_)
  have K_2 : ∀ (nn : Nat) (y_3 : Nat) (q_5 : Nat → Int64) (f_4 : Nat → va_E) (H : Heap) (locs : List Loc) (ls : Array Slot), 12 - y_3 < nn → Iv dC dI g A f_4 H → va_S A s.heap H locs → f_4 (gr g h0 4) = .inl (gc g 1, 906, .inr (.inl q_5)) → RowOK q_5 → f_4 h0 = .inr (12, [.int z0, .int z1, .ref (gr g h0 2), .ref (gr g h0 3), .ref (gr g h0 4), .ref (gr g h0 5), .ref (gr g h0 6), .ref (gr g h0 7), .ref (gr g h0 8), .ref (gr g h0 9), .int z10, .ref (gr g h0 11), .int z12, .int z13, .int z14, .int z15, .long z16, .int z17, .int z18, .ref (gr g h0 19), .ref (gr g h0 20), .ref (gr g h0 21), .ref (gr g h0 22), .int z23, .long z24, .long z25, .long z26]) → Kp g [12, 32] f f_4 → (y_3 ≤ 12) → ((q_5 0).toInt = (q 0).toInt) → ((q_5 1).toInt = (q 1).toInt) → lv_has ls 4 [(2, .int (nI y_3)), (0, .ref h0), (1, .int p1)] → W p l e (headSpec wq_c_X12_tick ({ frames := 7, cells := 0, slots := 0, locals := 164 } : Room)).room s m ([.ref h0, .int p1].toArray) below meth c H locs 0 0 (MQ below (va_Qi (fun (r : Int32) (_ : Unit) => -1 ≤ r.toInt ∧ r.toInt < (q 0).toInt) (fun (_ : Unit) t => ∃ f1 : Nat → va_E, Iv dC dI g A f1 t.heap ∧ Kp g [12, 32] f f1 ∧ ∃ (w24 : Int64) (q1 : Nat → Int64), (f1 h0 = .inr (12, [.int z0, .int z1, .ref (gr g h0 2), .ref (gr g h0 3), .ref (gr g h0 4), .ref (gr g h0 5), .ref (gr g h0 6), .ref (gr g h0 7), .ref (gr g h0 8), .ref (gr g h0 9), .int z10, .ref (gr g h0 11), .int z12, .int z13, .int z14, .int z15, .long z16, .int z17, .int z18, .ref (gr g h0 19), .ref (gr g h0 20), .ref (gr g h0 21), .ref (gr g h0 22), .int z23, .long w24, .long z25, .long z26])) ∧ (f1 (gr g h0 4) = .inl (gc g 1, 906, .inr (.inl q1))) ∧ (RowOK q1) ∧ ((q1 0).toInt = (q 0).toInt) ∧ ((q1 1).toInt = (q 1).toInt + 1)) A) ([.ref h0, .int p1].toArray) s 0 0 A) (F0 m 2 ls []) := by
    intro nn
    induction nn with
    | zero => intro y_3 q_5 f_4 H locs ls m_13; exact absurd m_13 (Nat.not_lt_zero _)
    | succ nn ih =>
      intro y_3 q_5 f_4 H locs ls m_13 hI hS k_6 ok_7 k_8 kp_9 t_12 t_10 t_11 hl
      have d_14 := rk_hd ok_7
      refine lv_iload_n hx hb dX12_tick_2 rfl (lv_at hl 0 rfl) ?_
      refine lv_i2l (v := lN (y_3)) hx hb dX12_tick_3 (nI_l (by omega)) ?_
      refine lv_aload_n hx hb dX12_tick_4 rfl (lv_at hl 1 rfl) ?_
      refine k_get (ci := 12) (v := .ref (gr g h0 4)) (C := RX12) (T := TX12) (N := 27) hx hb hts (fun _ h0_ => List.mem_cons_of_mem _ (List.mem_append_right _ (List.mem_append_left _ h0_))) hown hK hI i_h0.1 k_8 rfl 4 (by decide) (hts (.fieldLink RX12 16 "DeadlineShareModel" "row" "[J") (List.mem_cons_of_mem _ (List.mem_append_left _ (List.mem_of_getElem? (i := 0) rfl)))) (fun _ h9 => h9) rfl dX12_tick_5 ?_
      refine lv_iconst (v := 0) hx hb dX12_tick_8 (by decide) ?_
      refine k_lald hx hb hK hI i_1.1 1 k_6 rfl (by unfold vp_in; decide) dX12_tick_9 ?_
      refine k_topl (y := q_5 0) (congrArg q_5 (show Int32.toNatClampNeg 0 = 0 by decide)) ?_
      refine W.lcmp hx hb dX12_tick_10 ?_
      refine lv_if_ge (tgt := 90) hx hb dX12_tick_11 (by decide) (fun c_17 => ?_) (fun c_17 => ?_)
      · have c_17 := lc_le rfl (lN_toInt (n := y_3) (by omega)) ((lg_cmp_ge _ _).mp c_17)
        refine lv_iconst (v := 0) hx hb dX12_tick_90 (by decide) ?_
        refine lv_istore_n (lv' := [(2, .int 0), (0, .ref h0), (1, .int p1)]) hx hb dX12_tick_91 rfl hl (by decide) rfl (fun ls hl => ?_)
        have K_92 : ∀ (nn : Nat) (y_18 : Nat) (q_20 : Nat → Int64) (f_19 : Nat → va_E) (H : Heap) (locs : List Loc) (ls : Array Slot), 12 - y_18 < nn → Iv dC dI g A f_19 H → va_S A s.heap H locs → f_19 (gr g h0 4) = .inl (gc g 1, 906, .inr (.inl q_20)) → RowOK q_20 → f_19 h0 = .inr (12, [.int z0, .int z1, .ref (gr g h0 2), .ref (gr g h0 3), .ref (gr g h0 4), .ref (gr g h0 5), .ref (gr g h0 6), .ref (gr g h0 7), .ref (gr g h0 8), .ref (gr g h0 9), .int z10, .ref (gr g h0 11), .int z12, .int z13, .int z14, .int z15, .long z16, .int z17, .int z18, .ref (gr g h0 19), .ref (gr g h0 20), .ref (gr g h0 21), .ref (gr g h0 22), .int z23, .long z24, .long z25, .long z26]) → Kp g [12, 32] f f_19 → (y_18 ≤ 12) → ((q_20 0).toInt = (q 0).toInt) → ((q_20 1).toInt = (q 1).toInt) → lv_has ls 4 [(2, .int (nI y_18)), (0, .ref h0), (1, .int p1)] → W p l e (headSpec wq_c_X12_tick ({ frames := 7, cells := 0, slots := 0, locals := 164 } : Room)).room s m ([.ref h0, .int p1].toArray) below meth c H locs 0 0 (MQ below (va_Qi (fun (r : Int32) (_ : Unit) => -1 ≤ r.toInt ∧ r.toInt < (q 0).toInt) (fun (_ : Unit) t => ∃ f1 : Nat → va_E, Iv dC dI g A f1 t.heap ∧ Kp g [12, 32] f f1 ∧ ∃ (w24 : Int64) (q1 : Nat → Int64), (f1 h0 = .inr (12, [.int z0, .int z1, .ref (gr g h0 2), .ref (gr g h0 3), .ref (gr g h0 4), .ref (gr g h0 5), .ref (gr g h0 6), .ref (gr g h0 7), .ref (gr g h0 8), .ref (gr g h0 9), .int z10, .ref (gr g h0 11), .int z12, .int z13, .int z14, .int z15, .long z16, .int z17, .int z18, .ref (gr g h0 19), .ref (gr g h0 20), .ref (gr g h0 21), .ref (gr g h0 22), .int z23, .long w24, .long z25, .long z26])) ∧ (f1 (gr g h0 4) = .inl (gc g 1, 906, .inr (.inl q1))) ∧ (RowOK q1) ∧ ((q1 0).toInt = (q 0).toInt) ∧ ((q1 1).toInt = (q 1).toInt + 1)) A) ([.ref h0, .int p1].toArray) s 0 0 A) (F0 m 92 ls []) := by
          intro nn
          induction nn with
          | zero => intro y_18 q_20 f_19 H locs ls m_28; exact absurd m_28 (Nat.not_lt_zero _)
          | succ nn ih =>
            intro y_18 q_20 f_19 H locs ls m_28 hI hS k_21 ok_22 k_23 kp_24 t_27 t_25 t_26 hl
            have d_29 := rk_hd ok_22
            refine lv_iload_n hx hb dX12_tick_92 rfl (lv_at hl 0 rfl) ?_
            refine lv_i2l (v := lN (y_18)) hx hb dX12_tick_93 (nI_l (by omega)) ?_
            refine lv_aload_n hx hb dX12_tick_94 rfl (lv_at hl 1 rfl) ?_
            refine k_get (ci := 12) (v := .ref (gr g h0 4)) (C := RX12) (T := TX12) (N := 27) hx hb hts (fun _ h0_ => List.mem_cons_of_mem _ (List.mem_append_right _ (List.mem_append_left _ h0_))) hown hK hI i_h0.1 k_23 rfl 4 (by decide) (hts (.fieldLink RX12 16 "DeadlineShareModel" "row" "[J") (List.mem_cons_of_mem _ (List.mem_append_left _ (List.mem_of_getElem? (i := 0) rfl)))) (fun _ h9 => h9) rfl dX12_tick_95 ?_
            refine lv_iconst (v := 0) hx hb dX12_tick_98 (by decide) ?_
            refine k_lald hx hb hK hI i_1.1 1 k_21 rfl (by unfold vp_in; decide) dX12_tick_99 ?_
            refine k_topl (y := q_20 0) (congrArg q_20 (show Int32.toNatClampNeg 0 = 0 by decide)) ?_
            refine W.lcmp hx hb dX12_tick_100 ?_
            refine lv_if_ge (tgt := 197) hx hb dX12_tick_101 (by decide) (fun c_32 => ?_) (fun c_32 => ?_)
            · have c_32 := lc_le rfl (lN_toInt (n := y_18) (by omega)) ((lg_cmp_ge _ _).mp c_32)
              refine lv_aload_n hx hb dX12_tick_197 rfl (lv_at hl 1 rfl) ?_
              refine lv_iload_n hx hb dX12_tick_198 rfl (lv_at hl 2 rfl) ?_
              refine va_calli (va_runV (As := [.int p1]) (rest := []) ⟨hx, hb, hml, hown, hts⟩ (c_X12_chosen l dC dI g A hG f_19 h0 p1 z0 z1 z10 z12 z13 z14 z15 z16 z17 z18 z23 z24 z25 z26 q_20 i_h0 k_23 (by first | omega | (simp only [k_c0]; omega)) (by first | omega | (simp only [k_c0]; omega)) (by first | omega | (simp only [k_c0]; omega)) k_21 ok_22) (cwV 1 hts (gi_V (fun w_ h0_ => ⟨List.mem_cons_of_mem _ (List.mem_append_right _ (List.mem_append_right _ (List.mem_append_left _ h0_))), (tb_c_X12_chosen w_ h0_).2⟩) (List.mem_cons_of_mem _ (List.mem_append_left _ (List.mem_of_getElem? (i := 1) rfl))) (List.mem_cons_of_mem _ (List.mem_append_left _ (List.mem_of_getElem? (i := 2) rfl))) (List.mem_cons_of_mem _ (List.mem_append_left _ (List.mem_of_getElem? (i := 3) rfl))) (List.mem_cons_of_mem _ (List.mem_append_left _ (List.mem_of_getElem? (i := 4) rfl)))) rfl rfl rfl (by decide +kernel) ⟨Nat.le_of_ble_eq_true rfl, Nat.le_of_ble_eq_true rfl⟩) ⟨fun a U g mk q => ⟨q.1, q.2.calling rfl rfl⟩, k_recv hK hI i_h0.1 k_23 (ci := 12) rfl, fun U hU hW => ⟨rfl, kIn.of hI hK hE hS hU hW⟩⟩ rfl rfl hl.1 rfl (lv_room (Nat.le_of_ble_eq_true rfl)) dX12_tick_199 ⟨Nat.le_of_ble_eq_true rfl, Nat.le_of_ble_eq_true rfl⟩) hS (fun q _ h => h) (fun q h => h) (fun r_35 u t H1 locs ht hvm w_34 hB hz1 hk1 hS => ?_)
              obtain ⟨f_33, hI, kc_36, w24_37, k_38⟩ := hB
              rw [ht] at hI
              have k_39 : f_33 (gr g h0 4) = .inl (gc g 1, 906, .inr (.inl q_20)) := Kp.at kc_36 i_1 (by decide) k_21
              have k_38 : f_33 h0 = .inr (12, [.int z0, .int z1, .ref (gr g h0 2), .ref (gr g h0 3), .ref (gr g h0 4), .ref (gr g h0 5), .ref (gr g h0 6), .ref (gr g h0 7), .ref (gr g h0 8), .ref (gr g h0 9), .int z10, .ref (gr g h0 11), .int z12, .int z13, .int z14, .int z15, .long z16, .int z17, .int z18, .ref (gr g h0 19), .ref (gr g h0 20), .ref (gr g h0 21), .ref (gr g h0 22), .int z23, .long w24_37, .long z25, .long z26]) := k_38
              have kp_40 := Kp.call kp_24 kc_36 (by decide)
              generalize H1 = H at hI hS ⊢
              refine W.widen (k := 0) (n := 0) (Nat.le_of_ble_eq_true rfl) (Nat.le_of_ble_eq_true rfl) ?_
              have w_34 : -1 ≤ r_35.toInt ∧ r_35.toInt < (q_20 0).toInt := w_34
              refine lv_istore_n (lv' := [(2, .int r_35), (0, .ref h0), (1, .int p1)]) hx hb dX12_tick_202 rfl hl (by decide) rfl (fun ls hl => ?_)
              refine lv_aload_n hx hb dX12_tick_203 rfl (lv_at hl 1 rfl) ?_
              refine lv_iload_n hx hb dX12_tick_204 rfl (lv_at hl 0 rfl) ?_
              refine va_callv (va_runV (As := [.int r_35]) (rest := []) ⟨hx, hb, hml, hown, hts⟩ (c_X12_log l dC dI g A hG f_33 h0 r_35 q_20 i_h0 k_39 ok_22) (cwV 1 hts (gi_V (fun w_ h0_ => ⟨List.mem_cons_of_mem _ (List.mem_append_right _ (List.mem_append_right _ (List.mem_append_right _ (List.mem_append_left _ h0_)))), (tb_c_X12_log w_ h0_).2⟩) (List.mem_cons_of_mem _ (List.mem_append_left _ (List.mem_of_getElem? (i := 5) rfl))) (List.mem_cons_of_mem _ (List.mem_append_left _ (List.mem_of_getElem? (i := 6) rfl))) (List.mem_cons_of_mem _ (List.mem_append_left _ (List.mem_of_getElem? (i := 7) rfl))) (List.mem_cons_of_mem _ (List.mem_append_left _ (List.mem_of_getElem? (i := 4) rfl)))) rfl rfl rfl (by decide +kernel) ⟨Nat.le_of_ble_eq_true rfl, Nat.le_of_ble_eq_true rfl⟩) ⟨fun a U g mk q => ⟨q.1, q.2.calling rfl rfl⟩, k_recv hK hI i_h0.1 k_38 (ci := 12) rfl, fun U hU hW => ⟨rfl, kIn.of hI hK hE hS hU hW⟩⟩ rfl rfl hl.1 rfl (lv_room (Nat.le_of_ble_eq_true rfl)) dX12_tick_205 ⟨Nat.le_of_ble_eq_true rfl, Nat.le_of_ble_eq_true rfl⟩) hS (fun q _ h => h) (fun q h => h) (fun u t H1 locs ht hvm _ hB hz1 hk1 hS => ?_)
              obtain ⟨f_41, hI, kc_43, q1_44, k_45, z_46, z_47, z_48⟩ := hB
              rw [ht] at hI
              have k_49 : f_41 h0 = .inr (12, [.int z0, .int z1, .ref (gr g h0 2), .ref (gr g h0 3), .ref (gr g h0 4), .ref (gr g h0 5), .ref (gr g h0 6), .ref (gr g h0 7), .ref (gr g h0 8), .ref (gr g h0 9), .int z10, .ref (gr g h0 11), .int z12, .int z13, .int z14, .int z15, .long z16, .int z17, .int z18, .ref (gr g h0 19), .ref (gr g h0 20), .ref (gr g h0 21), .ref (gr g h0 22), .int z23, .long w24_37, .long z25, .long z26]) := Kp.at kc_43 i_h0 (by decide) k_38
              have z_46 : RowOK q1_44 := z_46
              have d_50 := rk_hd z_46
              have z_47 : (q1_44 0).toInt = (q_20 0).toInt := z_47
              have z_48 : (q1_44 1).toInt = (q_20 1).toInt := z_48
              have kp_51 := Kp.call kp_40 kc_43 (by decide)
              generalize H1 = H at hI hS ⊢
              refine W.widen (k := 0) (n := 0) (Nat.le_of_ble_eq_true rfl) (Nat.le_of_ble_eq_true rfl) ?_
              refine lv_aload_n hx hb dX12_tick_208 rfl (lv_at hl 1 rfl) ?_
              refine k_get (ci := 12) (v := .ref (gr g h0 4)) (C := RX12) (T := TX12) (N := 27) hx hb hts (fun _ h0_ => List.mem_cons_of_mem _ (List.mem_append_right _ (List.mem_append_left _ h0_))) hown hK hI i_h0.1 k_49 rfl 4 (by decide) (hts (.fieldLink RX12 16 "DeadlineShareModel" "row" "[J") (List.mem_cons_of_mem _ (List.mem_append_left _ (List.mem_of_getElem? (i := 0) rfl)))) (fun _ h9 => h9) rfl dX12_tick_209 ?_
              refine lv_iconst (v := 4) hx hb dX12_tick_212 (by decide) ?_
              refine lv_iload_n hx hb dX12_tick_213 rfl (lv_at hl 0 rfl) ?_
              refine lv_i2l (v := r_35.toInt64) hx hb dX12_tick_214 rfl ?_
              have t_54 := Int32.toInt_toInt64 r_35
              refine k_last hx hb hK hI hS i_1.1 1 k_45 rfl (by unfold vp_in; decide) (cl_32 i_1) dX12_tick_215 (fun f_55 H locs e_56 hI hS => ?_)
              generalize eq_57 : vp_updL q1_44 (Int32.toNatClampNeg 4) r_35.toInt64 = q_57 at e_56
              have k_59 : f_55 h0 = .inr (12, [.int z0, .int z1, .ref (gr g h0 2), .ref (gr g h0 3), .ref (gr g h0 4), .ref (gr g h0 5), .ref (gr g h0 6), .ref (gr g h0 7), .ref (gr g h0 8), .ref (gr g h0 9), .int z10, .ref (gr g h0 11), .int z12, .int z13, .int z14, .int z15, .long z16, .int z17, .int z18, .ref (gr g h0 19), .ref (gr g h0 20), .ref (gr g h0 21), .ref (gr g h0 22), .int z23, .long w24_37, .long z25, .long z26]) := by rw [e_56, va_up_ne _ _ (ik_ne i_h0 i_1 (by decide))]; exact k_49
              have k_60 : f_55 (gr g h0 4) = .inl (gc g 1, 906, .inr (.inl q_57)) := by rw [e_56]; exact va_up_self _ _ _
              have kp_58 := Kp.put kp_51 i_1 (by decide) e_56
              have u_61 : vp_updL q1_44 4 r_35.toInt64 = q_57 := by rw [← eq_57, show Int32.toNatClampNeg 4 = 4 from (show Int32.toNatClampNeg 4 = 4 by decide)]
              have ok_62 : RowOK q_57 := by rw [← u_61]; exact rk_upd z_46 (by refine ⟨⟨by omega, by omega, by omega, by omega, by omega⟩, fun t9 ht9 => ⟨by omega, by omega, by omega, by omega, by omega, by omega⟩, fun t9 k9 ht9 hk9 => ⟨by omega, by omega, by omega⟩, by omega⟩)
              have d_63 := rk_hd ok_62
              have n_64 : (q_57 0).toInt = (q1_44 0).toInt := by rw [← u_61, pk_uLn (by omega)]
              have n_65 : (q_57 1).toInt = (q1_44 1).toInt := by rw [← u_61, pk_uLn (by omega)]
              have n_66 : (q_57 3).toInt = (q1_44 3).toInt := by rw [← u_61, pk_uLn (by omega)]
              have n_67 : (q_57 4).toInt = Int64.toInt r_35.toInt64 := by rw [← u_61, pk_uLs]
              have n_68 : (q_57 5).toInt = (q1_44 5).toInt := by rw [← u_61, pk_uLn (by omega)]
              refine lv_iload_n hx hb dX12_tick_216 rfl (lv_at hl 0 rfl) ?_
              refine lv_iconst (v := (-1)) hx hb dX12_tick_217 (by decide) ?_
              refine lv_icmp_eq (tgt := 337) hx hb dX12_tick_218 (by decide) (fun c_69 => ?_) (fun c_69 => ?_)
              · have c_69 := kc_eq rfl (by decide : Int32.toInt (-1) = (-1)) c_69
                refine lv_aload_n hx hb dX12_tick_337 rfl (lv_at hl 1 rfl) ?_
                refine k_get (ci := 12) (v := .ref (gr g h0 4)) (C := RX12) (T := TX12) (N := 27) hx hb hts (fun _ h0_ => List.mem_cons_of_mem _ (List.mem_append_right _ (List.mem_append_left _ h0_))) hown hK hI i_h0.1 k_59 rfl 4 (by decide) (hts (.fieldLink RX12 16 "DeadlineShareModel" "row" "[J") (List.mem_cons_of_mem _ (List.mem_append_left _ (List.mem_of_getElem? (i := 0) rfl)))) (fun _ h9 => h9) rfl dX12_tick_338 ?_
                refine lv_iconst (v := 1) hx hb dX12_tick_341 (by decide) ?_
                refine lv_dup2_11 hx hb dX12_tick_342 rfl rfl ?_
                refine k_lald hx hb hK hI i_1.1 1 k_60 rfl (by unfold vp_in; decide) dX12_tick_343 ?_
                refine k_topl (y := q_57 1) (congrArg q_57 (show Int32.toNatClampNeg 1 = 1 by decide)) ?_
                refine lv_lconst (v := 1) hx hb dX12_tick_344 (by decide) ?_
                refine lv_ladd hx hb dX12_tick_345 ?_
                refine lv_topl (fun v_72 ev_72 => ?_)
                have tv_72 := l_ad (q_57 1) 1
                rw [← ev_72, show Int64.toInt 1 = 1 from by decide] at tv_72
                refine k_last hx hb hK hI hS i_1.1 1 k_60 rfl (by unfold vp_in; decide) (cl_32 i_1) dX12_tick_346 (fun f_73 H locs e_74 hI hS => ?_)
                generalize eq_75 : vp_updL q_57 (Int32.toNatClampNeg 1) v_72 = q_75 at e_74
                have k_77 : f_73 h0 = .inr (12, [.int z0, .int z1, .ref (gr g h0 2), .ref (gr g h0 3), .ref (gr g h0 4), .ref (gr g h0 5), .ref (gr g h0 6), .ref (gr g h0 7), .ref (gr g h0 8), .ref (gr g h0 9), .int z10, .ref (gr g h0 11), .int z12, .int z13, .int z14, .int z15, .long z16, .int z17, .int z18, .ref (gr g h0 19), .ref (gr g h0 20), .ref (gr g h0 21), .ref (gr g h0 22), .int z23, .long w24_37, .long z25, .long z26]) := by rw [e_74, va_up_ne _ _ (ik_ne i_h0 i_1 (by decide))]; exact k_59
                have k_78 : f_73 (gr g h0 4) = .inl (gc g 1, 906, .inr (.inl q_75)) := by rw [e_74]; exact va_up_self _ _ _
                have kp_76 := Kp.put kp_58 i_1 (by decide) e_74
                have u_79 : vp_updL q_57 1 v_72 = q_75 := by rw [← eq_75, show Int32.toNatClampNeg 1 = 1 from (show Int32.toNatClampNeg 1 = 1 by decide)]
                have ok_80 : RowOK q_75 := by rw [← u_79]; exact rk_upd ok_62 (by refine ⟨⟨by omega, by omega, by omega, by omega, by omega⟩, fun t9 ht9 => ⟨by omega, by omega, by omega, by omega, by omega, by omega⟩, fun t9 k9 ht9 hk9 => ⟨by omega, by omega, by omega⟩, by omega⟩)
                have d_81 := rk_hd ok_80
                have n_82 : (q_75 0).toInt = (q_57 0).toInt := by rw [← u_79, pk_uLn (by omega)]
                have n_83 : (q_75 1).toInt = Int64.toInt v_72 := by rw [← u_79, pk_uLs]
                have n_84 : (q_75 3).toInt = (q_57 3).toInt := by rw [← u_79, pk_uLn (by omega)]
                have n_85 : (q_75 4).toInt = (q_57 4).toInt := by rw [← u_79, pk_uLn (by omega)]
                have n_86 : (q_75 5).toInt = (q_57 5).toInt := by rw [← u_79, pk_uLn (by omega)]
                refine lv_iload_n hx hb dX12_tick_347 rfl (lv_at hl 0 rfl) ?_
                have w_87 : -1 ≤ r_35.toInt ∧ r_35.toInt < (q 0).toInt := by omega
                exact W.iret (v := r_35) hx hb hr (fun t ht hW => ⟨⟨r_35, (), rfl, w_87, ⟨f_73, k_ret ht hI, kp_76, w24_37, q_75, k_77, k_78, ok_80, (by first | omega | decide), (by first | omega | decide)⟩⟩, hS.F ht⟩) hS.2.2 dX12_tick_348
              · have c_69 := kn_eq rfl (by decide : Int32.toInt (-1) = (-1)) c_69
                refine lv_aload_n hx hb dX12_tick_221 rfl (lv_at hl 1 rfl) ?_
                obtain ⟨m_88, em_88, tm_88⟩ := k_nat (x := r_35) (by omega)
                refine lv_iload_n hx hb dX12_tick_222 rfl (lv_at hl 0 rfl) ?_
                refine k_topi (y := nI m_88) em_88 ?_
                refine va_callv (va_runV (As := [.int (nI m_88)]) (rest := []) ⟨hx, hb, hml, hown, hts⟩ (c_X12_runs l dC dI g A hG f_55 h0 m_88 q_57 i_h0 k_60 ok_62 (by first | omega | decide | (simp only [k_c0, k_c1, k_cm1]; omega))) (cwV 1 hts (gi_V (fun w_ h0_ => ⟨List.mem_cons_of_mem _ (List.mem_append_right _ (List.mem_append_right _ (List.mem_append_right _ (List.mem_append_right _ (List.mem_append_left _ h0_))))), (tb_c_X12_runs w_ h0_).2⟩) (List.mem_cons_of_mem _ (List.mem_append_left _ (List.mem_of_getElem? (i := 8) rfl))) (List.mem_cons_of_mem _ (List.mem_append_left _ (List.mem_of_getElem? (i := 9) rfl))) (List.mem_cons_of_mem _ (List.mem_append_left _ (List.mem_of_getElem? (i := 10) rfl))) (List.mem_cons_of_mem _ (List.mem_append_left _ (List.mem_of_getElem? (i := 4) rfl)))) rfl rfl rfl (by decide +kernel) ⟨Nat.le_of_ble_eq_true rfl, Nat.le_of_ble_eq_true rfl⟩) ⟨fun a U g mk q => ⟨q.1, q.2.calling rfl rfl⟩, k_recv hK hI i_h0.1 k_59 (ci := 12) rfl, fun U hU hW => ⟨rfl, kIn.of hI hK hE hS hU hW⟩⟩ rfl rfl hl.1 rfl (lv_room (Nat.le_of_ble_eq_true rfl)) dX12_tick_223 ⟨Nat.le_of_ble_eq_true rfl, Nat.le_of_ble_eq_true rfl⟩) hS (fun q _ h => h) (fun q h => h) (fun u t H1 locs ht hvm _ hB hz1 hk1 hS => ?_)
                obtain ⟨f_89, hI, kc_91, q1_92, k_93, z_94, z_95, z_96⟩ := hB
                rw [ht] at hI
                have k_97 : f_89 h0 = .inr (12, [.int z0, .int z1, .ref (gr g h0 2), .ref (gr g h0 3), .ref (gr g h0 4), .ref (gr g h0 5), .ref (gr g h0 6), .ref (gr g h0 7), .ref (gr g h0 8), .ref (gr g h0 9), .int z10, .ref (gr g h0 11), .int z12, .int z13, .int z14, .int z15, .long z16, .int z17, .int z18, .ref (gr g h0 19), .ref (gr g h0 20), .ref (gr g h0 21), .ref (gr g h0 22), .int z23, .long w24_37, .long z25, .long z26]) := Kp.at kc_91 i_h0 (by decide) k_59
                have z_94 : RowOK q1_92 := z_94
                have d_98 := rk_hd z_94
                have z_95 : (q1_92 0).toInt = (q_57 0).toInt := z_95
                have z_96 : (q1_92 1).toInt = (q_57 1).toInt := z_96
                have kp_99 := Kp.call kp_58 kc_91 (by decide)
                generalize H1 = H at hI hS ⊢
                refine W.widen (k := 0) (n := 0) (Nat.le_of_ble_eq_true rfl) (Nat.le_of_ble_eq_true rfl) ?_
                refine lv_aload_n hx hb dX12_tick_226 rfl (lv_at hl 1 rfl) ?_
                refine k_get (ci := 12) (v := .ref (gr g h0 4)) (C := RX12) (T := TX12) (N := 27) hx hb hts (fun _ h0_ => List.mem_cons_of_mem _ (List.mem_append_right _ (List.mem_append_left _ h0_))) hown hK hI i_h0.1 k_97 rfl 4 (by decide) (hts (.fieldLink RX12 16 "DeadlineShareModel" "row" "[J") (List.mem_cons_of_mem _ (List.mem_append_left _ (List.mem_of_getElem? (i := 0) rfl)))) (fun _ h9 => h9) rfl dX12_tick_227 ?_
                refine lv_iconst (v := 3) hx hb dX12_tick_230 (by decide) ?_
                refine lv_iload_n hx hb dX12_tick_231 rfl (lv_at hl 0 rfl) ?_
                refine k_topi (y := nI m_88) em_88 ?_
                refine lv_i2l (v := lN (m_88)) hx hb dX12_tick_232 (nI_l (by omega)) ?_
                refine k_last hx hb hK hI hS i_1.1 1 k_93 rfl (by unfold vp_in; decide) (cl_32 i_1) dX12_tick_233 (fun f_102 H locs e_103 hI hS => ?_)
                generalize eq_104 : vp_updL q1_92 (Int32.toNatClampNeg 3) (lN (m_88)) = q_104 at e_103
                have k_106 : f_102 h0 = .inr (12, [.int z0, .int z1, .ref (gr g h0 2), .ref (gr g h0 3), .ref (gr g h0 4), .ref (gr g h0 5), .ref (gr g h0 6), .ref (gr g h0 7), .ref (gr g h0 8), .ref (gr g h0 9), .int z10, .ref (gr g h0 11), .int z12, .int z13, .int z14, .int z15, .long z16, .int z17, .int z18, .ref (gr g h0 19), .ref (gr g h0 20), .ref (gr g h0 21), .ref (gr g h0 22), .int z23, .long w24_37, .long z25, .long z26]) := by rw [e_103, va_up_ne _ _ (ik_ne i_h0 i_1 (by decide))]; exact k_97
                have k_107 : f_102 (gr g h0 4) = .inl (gc g 1, 906, .inr (.inl q_104)) := by rw [e_103]; exact va_up_self _ _ _
                have kp_105 := Kp.put kp_99 i_1 (by decide) e_103
                have u_108 : vp_updL q1_92 3 (lN (m_88)) = q_104 := by rw [← eq_104, show Int32.toNatClampNeg 3 = 3 from (show Int32.toNatClampNeg 3 = 3 by decide)]
                have g_109 := lN_toInt (n := m_88) (by omega)
                have ok_110 : RowOK q_104 := by rw [← u_108]; exact rk_upd z_94 (by refine ⟨⟨by omega, by omega, by omega, by omega, by omega⟩, fun t9 ht9 => ⟨by omega, by omega, by omega, by omega, by omega, by omega⟩, fun t9 k9 ht9 hk9 => ⟨by omega, by omega, by omega⟩, by omega⟩)
                have d_111 := rk_hd ok_110
                have n_112 : (q_104 0).toInt = (q1_92 0).toInt := by rw [← u_108, pk_uLn (by omega)]
                have n_113 : (q_104 1).toInt = (q1_92 1).toInt := by rw [← u_108, pk_uLn (by omega)]
                have n_114 : (q_104 3).toInt = Int64.toInt (lN (m_88)) := by rw [← u_108, pk_uLs]
                have n_115 : (q_104 4).toInt = (q1_92 4).toInt := by rw [← u_108, pk_uLn (by omega)]
                have n_116 : (q_104 5).toInt = (q1_92 5).toInt := by rw [← u_108, pk_uLn (by omega)]
                refine lv_iload_n hx hb dX12_tick_234 rfl (lv_at hl 0 rfl) ?_
                refine k_topi (y := nI m_88) em_88 ?_
                refine va_calli (va_runS (As := [.int (nI m_88)]) (rest := []) ⟨hx, hb, hml, hown, hts⟩ (c_X12_at l dC dI g A hG f_102 m_88) (va_cwS 1 hts (gi_S (fun w_ h0_ => ⟨List.mem_cons_of_mem _ (List.mem_append_right _ (List.mem_append_right _ (List.mem_append_right _ (List.mem_append_right _ (List.mem_append_right _ (List.mem_append_left _ h0_)))))), (tb_c_X12_at w_ h0_).2⟩) (List.mem_cons_of_mem _ (List.mem_append_left _ (List.mem_of_getElem? (i := 11) rfl))) (List.mem_cons_of_mem _ (List.mem_append_left _ (List.mem_of_getElem? (i := 12) rfl))) (List.mem_cons_of_mem _ (List.mem_append_left _ (List.mem_of_getElem? (i := 4) rfl)))) rfl rfl rfl (by decide +kernel) ⟨Nat.le_of_ble_eq_true rfl, Nat.le_of_ble_eq_true rfl⟩) ⟨fun a U g mk q => ⟨q.1, q.2.calling rfl rfl⟩, fun U hU hW => ⟨rfl, kIn.of hI hK hE hS hU hW⟩⟩ rfl rfl hl.1 rfl (lv_room (Nat.le_of_ble_eq_true rfl)) dX12_tick_235 ⟨Nat.le_of_ble_eq_true rfl, Nat.le_of_ble_eq_true rfl⟩) hS (fun q _ h => h) (fun q h => h) (fun r_118 u t H1 locs ht hvm w_117 hB hz1 hk1 hS => ?_)
                have hI : Iv dC dI g A f_102 t.heap := hB
                rw [ht] at hI
                generalize H1 = H at hI hS ⊢
                refine W.widen (k := 0) (n := 0) (Nat.le_of_ble_eq_true rfl) (Nat.le_of_ble_eq_true rfl) ?_
                have w_117 : r_118 = nI (6 + 43 * m_88) := w_117
                refine k_topi (y := nI (6 + 43 * m_88)) w_117 ?_
                refine lv_istore_n (lv' := [(3, .int (nI (6 + 43 * m_88))), (2, .int r_35), (0, .ref h0), (1, .int p1)]) hx hb dX12_tick_238 rfl hl (by decide) rfl (fun ls hl => ?_)
                refine lv_aload_n hx hb dX12_tick_239 rfl (lv_at hl 2 rfl) ?_
                refine k_get (ci := 12) (v := .ref (gr g h0 4)) (C := RX12) (T := TX12) (N := 27) hx hb hts (fun _ h0_ => List.mem_cons_of_mem _ (List.mem_append_right _ (List.mem_append_left _ h0_))) hown hK hI i_h0.1 k_106 rfl 4 (by decide) (hts (.fieldLink RX12 16 "DeadlineShareModel" "row" "[J") (List.mem_cons_of_mem _ (List.mem_append_left _ (List.mem_of_getElem? (i := 0) rfl)))) (fun _ h9 => h9) rfl dX12_tick_240 ?_
                refine lv_iload_n hx hb dX12_tick_243 rfl (lv_at hl 0 rfl) ?_
                refine lv_bipush (v := 13) hx hb dX12_tick_244 (by decide) ?_
                refine lv_iadd hx hb dX12_tick_246 ?_
                refine k_topi (y := nI (6 + 43 * m_88 + 13)) ((nI_add (6 + 43 * m_88) 13).trans (congrArg nI (by omega))) ?_
                refine k_lald hx hb hK hI i_1.1 1 k_107 rfl (vp_in_nI (by omega) (by omega)) dX12_tick_247 ?_
                refine k_topl (y := q_104 (6 + 43 * m_88 + 13)) (congrArg q_104 (nI_clamp (by omega))) ?_
                have d_121 := rk_13 ok_110 (t := m_88) (by omega)
                refine lv_lconst (v := 0) hx hb dX12_tick_248 (by decide) ?_
                refine W.lcmp hx hb dX12_tick_249 ?_
                have J_305 : ∀ (q_123 : Nat → Int64) (f_122 : Nat → va_E) (H : Heap) (locs : List Loc) (ls : Array Slot), Iv dC dI g A f_122 H → va_S A s.heap H locs → f_122 (gr g h0 4) = .inl (gc g 1, 906, .inr (.inl q_123)) → RowOK q_123 → f_122 h0 = .inr (12, [.int z0, .int z1, .ref (gr g h0 2), .ref (gr g h0 3), .ref (gr g h0 4), .ref (gr g h0 5), .ref (gr g h0 6), .ref (gr g h0 7), .ref (gr g h0 8), .ref (gr g h0 9), .int z10, .ref (gr g h0 11), .int z12, .int z13, .int z14, .int z15, .long z16, .int z17, .int z18, .ref (gr g h0 19), .ref (gr g h0 20), .ref (gr g h0 21), .ref (gr g h0 22), .int z23, .long w24_37, .long z25, .long z26]) → Kp g [12, 32] f f_122 → ((q_123 0).toInt = (q 0).toInt) → ((q_123 1).toInt = (q 1).toInt) → lv_has ls 4 [(3, .int (nI (6 + 43 * m_88))), (2, .int r_35), (0, .ref h0), (1, .int p1)] → W p l e (headSpec wq_c_X12_tick ({ frames := 7, cells := 0, slots := 0, locals := 164 } : Room)).room s m ([.ref h0, .int p1].toArray) below meth c H locs 0 0 (MQ below (va_Qi (fun (r : Int32) (_ : Unit) => -1 ≤ r.toInt ∧ r.toInt < (q 0).toInt) (fun (_ : Unit) t => ∃ f1 : Nat → va_E, Iv dC dI g A f1 t.heap ∧ Kp g [12, 32] f f1 ∧ ∃ (w24 : Int64) (q1 : Nat → Int64), (f1 h0 = .inr (12, [.int z0, .int z1, .ref (gr g h0 2), .ref (gr g h0 3), .ref (gr g h0 4), .ref (gr g h0 5), .ref (gr g h0 6), .ref (gr g h0 7), .ref (gr g h0 8), .ref (gr g h0 9), .int z10, .ref (gr g h0 11), .int z12, .int z13, .int z14, .int z15, .long z16, .int z17, .int z18, .ref (gr g h0 19), .ref (gr g h0 20), .ref (gr g h0 21), .ref (gr g h0 22), .int z23, .long w24, .long z25, .long z26])) ∧ (f1 (gr g h0 4) = .inl (gc g 1, 906, .inr (.inl q1))) ∧ (RowOK q1) ∧ ((q1 0).toInt = (q 0).toInt) ∧ ((q1 1).toInt = (q 1).toInt + 1)) A) ([.ref h0, .int p1].toArray) s 0 0 A) (F0 m 305 ls []) := by
                  intro q_123 f_122 H locs ls hI hS k_124 ok_125 k_126 kp_127 t_128 t_129 hl
                  have d_130 := rk_hd ok_125
                  refine lv_aload_n hx hb dX12_tick_305 rfl (lv_at hl 2 rfl) ?_
                  refine lv_iload_n hx hb dX12_tick_306 rfl (lv_at hl 1 rfl) ?_
                  refine k_topi (y := nI m_88) em_88 ?_
                  refine va_calli (va_runV (As := [.int (nI m_88)]) (rest := []) ⟨hx, hb, hml, hown, hts⟩ (c_X12_isOn l dC dI g A hG f_122 h0 m_88 q_123 i_h0 k_124 ok_125 (by first | omega | decide | (simp only [k_c0, k_c1, k_cm1]; omega))) (cwV 1 hts (gi_V (fun w_ h0_ => ⟨List.mem_cons_of_mem _ (List.mem_append_right _ (List.mem_append_right _ (List.mem_append_right _ (List.mem_append_right _ (List.mem_append_right _ (List.mem_append_right _ (List.mem_append_left _ h0_))))))), (tb_c_X12_isOn w_ h0_).2⟩) (List.mem_cons_of_mem _ (List.mem_append_left _ (List.mem_of_getElem? (i := 13) rfl))) (List.mem_cons_of_mem _ (List.mem_append_left _ (List.mem_of_getElem? (i := 14) rfl))) (List.mem_cons_of_mem _ (List.mem_append_left _ (List.mem_of_getElem? (i := 15) rfl))) (List.mem_cons_of_mem _ (List.mem_append_left _ (List.mem_of_getElem? (i := 4) rfl)))) rfl rfl rfl (by decide +kernel) ⟨Nat.le_of_ble_eq_true rfl, Nat.le_of_ble_eq_true rfl⟩) ⟨fun a U g mk q => ⟨q.1, q.2.calling rfl rfl⟩, k_recv hK hI i_h0.1 k_126 (ci := 12) rfl, fun U hU hW => ⟨rfl, kIn.of hI hK hE hS hU hW⟩⟩ rfl rfl hl.1 rfl (lv_room (Nat.le_of_ble_eq_true rfl)) dX12_tick_307 ⟨Nat.le_of_ble_eq_true rfl, Nat.le_of_ble_eq_true rfl⟩) hS (fun q _ h => h) (fun q h => h) (fun r_132 u t H1 locs ht hvm w_131 hB hz1 hk1 hS => ?_)
                  have hI : Iv dC dI g A f_122 t.heap := hB
                  rw [ht] at hI
                  generalize H1 = H at hI hS ⊢
                  refine W.widen (k := 0) (n := 0) (Nat.le_of_ble_eq_true rfl) (Nat.le_of_ble_eq_true rfl) ?_
                  have w_131 : (r_132.toInt = 0 ∧ (q_123 (6 + 43 * m_88 + 2)).toInt ≠ 1) ∨ (r_132.toInt = 1 ∧ (q_123 (6 + 43 * m_88 + 2)).toInt = 1) := w_131
                  refine lv_if_eq (tgt := 337) hx hb dX12_tick_310 (by decide) (fun c_133 => ?_) (fun c_133 => ?_)
                  · have c_133 := kc_eq rfl (by decide : Int32.toInt 0 = 0) c_133
                    refine lv_aload_n hx hb dX12_tick_337 rfl (lv_at hl 2 rfl) ?_
                    refine k_get (ci := 12) (v := .ref (gr g h0 4)) (C := RX12) (T := TX12) (N := 27) hx hb hts (fun _ h0_ => List.mem_cons_of_mem _ (List.mem_append_right _ (List.mem_append_left _ h0_))) hown hK hI i_h0.1 k_126 rfl 4 (by decide) (hts (.fieldLink RX12 16 "DeadlineShareModel" "row" "[J") (List.mem_cons_of_mem _ (List.mem_append_left _ (List.mem_of_getElem? (i := 0) rfl)))) (fun _ h9 => h9) rfl dX12_tick_338 ?_
                    refine lv_iconst (v := 1) hx hb dX12_tick_341 (by decide) ?_
                    refine lv_dup2_11 hx hb dX12_tick_342 rfl rfl ?_
                    refine k_lald hx hb hK hI i_1.1 1 k_124 rfl (by unfold vp_in; decide) dX12_tick_343 ?_
                    refine k_topl (y := q_123 1) (congrArg q_123 (show Int32.toNatClampNeg 1 = 1 by decide)) ?_
                    refine lv_lconst (v := 1) hx hb dX12_tick_344 (by decide) ?_
                    refine lv_ladd hx hb dX12_tick_345 ?_
                    refine lv_topl (fun v_136 ev_136 => ?_)
                    have tv_136 := l_ad (q_123 1) 1
                    rw [← ev_136, show Int64.toInt 1 = 1 from by decide] at tv_136
                    refine k_last hx hb hK hI hS i_1.1 1 k_124 rfl (by unfold vp_in; decide) (cl_32 i_1) dX12_tick_346 (fun f_137 H locs e_138 hI hS => ?_)
                    generalize eq_139 : vp_updL q_123 (Int32.toNatClampNeg 1) v_136 = q_139 at e_138
                    have k_141 : f_137 (gr g h0 4) = .inl (gc g 1, 906, .inr (.inl q_139)) := by rw [e_138]; exact va_up_self _ _ _
                    have k_142 : f_137 h0 = .inr (12, [.int z0, .int z1, .ref (gr g h0 2), .ref (gr g h0 3), .ref (gr g h0 4), .ref (gr g h0 5), .ref (gr g h0 6), .ref (gr g h0 7), .ref (gr g h0 8), .ref (gr g h0 9), .int z10, .ref (gr g h0 11), .int z12, .int z13, .int z14, .int z15, .long z16, .int z17, .int z18, .ref (gr g h0 19), .ref (gr g h0 20), .ref (gr g h0 21), .ref (gr g h0 22), .int z23, .long w24_37, .long z25, .long z26]) := by rw [e_138, va_up_ne _ _ (ik_ne i_h0 i_1 (by decide))]; exact k_126
                    have kp_140 := Kp.put kp_127 i_1 (by decide) e_138
                    have u_143 : vp_updL q_123 1 v_136 = q_139 := by rw [← eq_139, show Int32.toNatClampNeg 1 = 1 from (show Int32.toNatClampNeg 1 = 1 by decide)]
                    have ok_144 : RowOK q_139 := by rw [← u_143]; exact rk_upd ok_125 (by refine ⟨⟨by omega, by omega, by omega, by omega, by omega⟩, fun t9 ht9 => ⟨by omega, by omega, by omega, by omega, by omega, by omega⟩, fun t9 k9 ht9 hk9 => ⟨by omega, by omega, by omega⟩, by omega⟩)
                    have d_145 := rk_hd ok_144
                    have n_146 : (q_139 0).toInt = (q_123 0).toInt := by rw [← u_143, pk_uLn (by omega)]
                    have n_147 : (q_139 1).toInt = Int64.toInt v_136 := by rw [← u_143, pk_uLs]
                    have n_148 : (q_139 3).toInt = (q_123 3).toInt := by rw [← u_143, pk_uLn (by omega)]
                    have n_149 : (q_139 4).toInt = (q_123 4).toInt := by rw [← u_143, pk_uLn (by omega)]
                    have n_150 : (q_139 5).toInt = (q_123 5).toInt := by rw [← u_143, pk_uLn (by omega)]
                    refine lv_iload_n hx hb dX12_tick_347 rfl (lv_at hl 1 rfl) ?_
                    refine k_topi (y := nI m_88) em_88 ?_
                    have w_151 : -1 ≤ nI m_88.toInt ∧ nI m_88.toInt < (q 0).toInt := by omega
                    exact W.iret (v := (nI m_88)) hx hb hr (fun t ht hW => ⟨⟨nI m_88, (), rfl, w_151, ⟨f_137, k_ret ht hI, kp_140, w24_37, q_139, k_142, k_141, ok_144, (by first | omega | decide), (by first | omega | decide)⟩⟩, hS.F ht⟩) hS.2.2 dX12_tick_348
                  · have c_133 := kn_eq rfl (by decide : Int32.toInt 0 = 0) c_133
                    refine lv_aload_n hx hb dX12_tick_313 rfl (lv_at hl 2 rfl) ?_
                    refine lv_iload_n hx hb dX12_tick_314 rfl (lv_at hl 1 rfl) ?_
                    refine k_topi (y := nI m_88) em_88 ?_
                    refine va_calli (va_runV (As := [.int (nI m_88)]) (rest := []) ⟨hx, hb, hml, hown, hts⟩ (c_X12_isSpent l dC dI g A hG f_122 h0 m_88 q_123 i_h0 k_124 ok_125 (by first | omega | decide | (simp only [k_c0, k_c1, k_cm1]; omega))) (cwV 1 hts (gi_V (fun w_ h0_ => ⟨List.mem_cons_of_mem _ (List.mem_append_right _ (List.mem_append_right _ (List.mem_append_right _ (List.mem_append_right _ (List.mem_append_right _ (List.mem_append_right _ (List.mem_append_right _ (List.mem_append_left _ h0_)))))))), (tb_c_X12_isSpent w_ h0_).2⟩) (List.mem_cons_of_mem _ (List.mem_append_left _ (List.mem_of_getElem? (i := 16) rfl))) (List.mem_cons_of_mem _ (List.mem_append_left _ (List.mem_of_getElem? (i := 17) rfl))) (List.mem_cons_of_mem _ (List.mem_append_left _ (List.mem_of_getElem? (i := 18) rfl))) (List.mem_cons_of_mem _ (List.mem_append_left _ (List.mem_of_getElem? (i := 4) rfl)))) rfl rfl rfl (by decide +kernel) ⟨Nat.le_of_ble_eq_true rfl, Nat.le_of_ble_eq_true rfl⟩) ⟨fun a U g mk q => ⟨q.1, q.2.calling rfl rfl⟩, k_recv hK hI i_h0.1 k_126 (ci := 12) rfl, fun U hU hW => ⟨rfl, kIn.of hI hK hE hS hU hW⟩⟩ rfl rfl hl.1 rfl (lv_room (Nat.le_of_ble_eq_true rfl)) dX12_tick_315 ⟨Nat.le_of_ble_eq_true rfl, Nat.le_of_ble_eq_true rfl⟩) hS (fun q _ h => h) (fun q h => h) (fun r_153 u t H1 locs ht hvm w_152 hB hz1 hk1 hS => ?_)
                    have hI : Iv dC dI g A f_122 t.heap := hB
                    rw [ht] at hI
                    generalize H1 = H at hI hS ⊢
                    refine W.widen (k := 0) (n := 0) (Nat.le_of_ble_eq_true rfl) (Nat.le_of_ble_eq_true rfl) ?_
                    refine lv_if_eq (tgt := 337) hx hb dX12_tick_318 (by decide) (fun c_154 => ?_) (fun c_154 => ?_)
                    · have c_154 := kc_eq rfl (by decide : Int32.toInt 0 = 0) c_154
                      refine lv_aload_n hx hb dX12_tick_337 rfl (lv_at hl 2 rfl) ?_
                      refine k_get (ci := 12) (v := .ref (gr g h0 4)) (C := RX12) (T := TX12) (N := 27) hx hb hts (fun _ h0_ => List.mem_cons_of_mem _ (List.mem_append_right _ (List.mem_append_left _ h0_))) hown hK hI i_h0.1 k_126 rfl 4 (by decide) (hts (.fieldLink RX12 16 "DeadlineShareModel" "row" "[J") (List.mem_cons_of_mem _ (List.mem_append_left _ (List.mem_of_getElem? (i := 0) rfl)))) (fun _ h9 => h9) rfl dX12_tick_338 ?_
                      refine lv_iconst (v := 1) hx hb dX12_tick_341 (by decide) ?_
                      refine lv_dup2_11 hx hb dX12_tick_342 rfl rfl ?_
                      refine k_lald hx hb hK hI i_1.1 1 k_124 rfl (by unfold vp_in; decide) dX12_tick_343 ?_
                      refine k_topl (y := q_123 1) (congrArg q_123 (show Int32.toNatClampNeg 1 = 1 by decide)) ?_
                      refine lv_lconst (v := 1) hx hb dX12_tick_344 (by decide) ?_
                      refine lv_ladd hx hb dX12_tick_345 ?_
                      refine lv_topl (fun v_157 ev_157 => ?_)
                      have tv_157 := l_ad (q_123 1) 1
                      rw [← ev_157, show Int64.toInt 1 = 1 from by decide] at tv_157
                      refine k_last hx hb hK hI hS i_1.1 1 k_124 rfl (by unfold vp_in; decide) (cl_32 i_1) dX12_tick_346 (fun f_158 H locs e_159 hI hS => ?_)
                      generalize eq_160 : vp_updL q_123 (Int32.toNatClampNeg 1) v_157 = q_160 at e_159
                      have k_162 : f_158 (gr g h0 4) = .inl (gc g 1, 906, .inr (.inl q_160)) := by rw [e_159]; exact va_up_self _ _ _
                      have k_163 : f_158 h0 = .inr (12, [.int z0, .int z1, .ref (gr g h0 2), .ref (gr g h0 3), .ref (gr g h0 4), .ref (gr g h0 5), .ref (gr g h0 6), .ref (gr g h0 7), .ref (gr g h0 8), .ref (gr g h0 9), .int z10, .ref (gr g h0 11), .int z12, .int z13, .int z14, .int z15, .long z16, .int z17, .int z18, .ref (gr g h0 19), .ref (gr g h0 20), .ref (gr g h0 21), .ref (gr g h0 22), .int z23, .long w24_37, .long z25, .long z26]) := by rw [e_159, va_up_ne _ _ (ik_ne i_h0 i_1 (by decide))]; exact k_126
                      have kp_161 := Kp.put kp_127 i_1 (by decide) e_159
                      have u_164 : vp_updL q_123 1 v_157 = q_160 := by rw [← eq_160, show Int32.toNatClampNeg 1 = 1 from (show Int32.toNatClampNeg 1 = 1 by decide)]
                      have ok_165 : RowOK q_160 := by rw [← u_164]; exact rk_upd ok_125 (by refine ⟨⟨by omega, by omega, by omega, by omega, by omega⟩, fun t9 ht9 => ⟨by omega, by omega, by omega, by omega, by omega, by omega⟩, fun t9 k9 ht9 hk9 => ⟨by omega, by omega, by omega⟩, by omega⟩)
                      have d_166 := rk_hd ok_165
                      have n_167 : (q_160 0).toInt = (q_123 0).toInt := by rw [← u_164, pk_uLn (by omega)]
                      have n_168 : (q_160 1).toInt = Int64.toInt v_157 := by rw [← u_164, pk_uLs]
                      have n_169 : (q_160 3).toInt = (q_123 3).toInt := by rw [← u_164, pk_uLn (by omega)]
                      have n_170 : (q_160 4).toInt = (q_123 4).toInt := by rw [← u_164, pk_uLn (by omega)]
                      have n_171 : (q_160 5).toInt = (q_123 5).toInt := by rw [← u_164, pk_uLn (by omega)]
                      refine lv_iload_n hx hb dX12_tick_347 rfl (lv_at hl 1 rfl) ?_
                      refine k_topi (y := nI m_88) em_88 ?_
                      have w_172 : -1 ≤ nI m_88.toInt ∧ nI m_88.toInt < (q 0).toInt := by omega
                      exact W.iret (v := (nI m_88)) hx hb hr (fun t ht hW => ⟨⟨nI m_88, (), rfl, w_172, ⟨f_158, k_ret ht hI, kp_161, w24_37, q_160, k_163, k_162, ok_165, (by first | omega | decide), (by first | omega | decide)⟩⟩, hS.F ht⟩) hS.2.2 dX12_tick_348
                    · have c_154 := kn_eq rfl (by decide : Int32.toInt 0 = 0) c_154
                      refine lv_aload_n hx hb dX12_tick_321 rfl (lv_at hl 2 rfl) ?_
                      refine lv_iload_n hx hb dX12_tick_322 rfl (lv_at hl 1 rfl) ?_
                      refine k_topi (y := nI m_88) em_88 ?_
                      refine va_callv (va_runV (As := [.int (nI m_88)]) (rest := []) ⟨hx, hb, hml, hown, hts⟩ (c_X12_leaves l dC dI g A hG f_122 h0 m_88 q_123 i_h0 k_124 ok_125 (by first | omega | decide | (simp only [k_c0, k_c1, k_cm1]; omega))) (cwV 1 hts (gi_V (fun w_ h0_ => ⟨List.mem_cons_of_mem _ (List.mem_append_right _ (List.mem_append_right _ (List.mem_append_right _ (List.mem_append_right _ (List.mem_append_right _ (List.mem_append_right _ (List.mem_append_right _ (List.mem_append_right _ (List.mem_append_left _ h0_))))))))), (tb_c_X12_leaves w_ h0_).2⟩) (List.mem_cons_of_mem _ (List.mem_append_left _ (List.mem_of_getElem? (i := 19) rfl))) (List.mem_cons_of_mem _ (List.mem_append_left _ (List.mem_of_getElem? (i := 20) rfl))) (List.mem_cons_of_mem _ (List.mem_append_left _ (List.mem_of_getElem? (i := 21) rfl))) (List.mem_cons_of_mem _ (List.mem_append_left _ (List.mem_of_getElem? (i := 4) rfl)))) rfl rfl rfl (by decide +kernel) ⟨Nat.le_of_ble_eq_true rfl, Nat.le_of_ble_eq_true rfl⟩) ⟨fun a U g mk q => ⟨q.1, q.2.calling rfl rfl⟩, k_recv hK hI i_h0.1 k_126 (ci := 12) rfl, fun U hU hW => ⟨rfl, kIn.of hI hK hE hS hU hW⟩⟩ rfl rfl hl.1 rfl (lv_room (Nat.le_of_ble_eq_true rfl)) dX12_tick_323 ⟨Nat.le_of_ble_eq_true rfl, Nat.le_of_ble_eq_true rfl⟩) hS (fun q _ h => h) (fun q h => h) (fun u t H1 locs ht hvm _ hB hz1 hk1 hS => ?_)
                      obtain ⟨f_173, hI, kc_175, q1_176, k_177, z_178, z_179, z_180⟩ := hB
                      rw [ht] at hI
                      have k_181 : f_173 h0 = .inr (12, [.int z0, .int z1, .ref (gr g h0 2), .ref (gr g h0 3), .ref (gr g h0 4), .ref (gr g h0 5), .ref (gr g h0 6), .ref (gr g h0 7), .ref (gr g h0 8), .ref (gr g h0 9), .int z10, .ref (gr g h0 11), .int z12, .int z13, .int z14, .int z15, .long z16, .int z17, .int z18, .ref (gr g h0 19), .ref (gr g h0 20), .ref (gr g h0 21), .ref (gr g h0 22), .int z23, .long w24_37, .long z25, .long z26]) := Kp.at kc_175 i_h0 (by decide) k_126
                      have z_178 : RowOK q1_176 := z_178
                      have d_182 := rk_hd z_178
                      have z_179 : (q1_176 0).toInt = (q_123 0).toInt := z_179
                      have z_180 : (q1_176 1).toInt = (q_123 1).toInt := z_180
                      have kp_183 := Kp.call kp_127 kc_175 (by decide)
                      generalize H1 = H at hI hS ⊢
                      refine W.widen (k := 0) (n := 0) (Nat.le_of_ble_eq_true rfl) (Nat.le_of_ble_eq_true rfl) ?_
                      refine lv_aload_n hx hb dX12_tick_326 rfl (lv_at hl 2 rfl) ?_
                      refine k_get (ci := 12) (v := .ref (gr g h0 4)) (C := RX12) (T := TX12) (N := 27) hx hb hts (fun _ h0_ => List.mem_cons_of_mem _ (List.mem_append_right _ (List.mem_append_left _ h0_))) hown hK hI i_h0.1 k_181 rfl 4 (by decide) (hts (.fieldLink RX12 16 "DeadlineShareModel" "row" "[J") (List.mem_cons_of_mem _ (List.mem_append_left _ (List.mem_of_getElem? (i := 0) rfl)))) (fun _ h9 => h9) rfl dX12_tick_327 ?_
                      refine lv_iload_n hx hb dX12_tick_330 rfl (lv_at hl 0 rfl) ?_
                      refine lv_iconst (v := 2) hx hb dX12_tick_331 (by decide) ?_
                      refine lv_iadd hx hb dX12_tick_332 ?_
                      refine k_topi (y := nI (6 + 43 * m_88 + 2)) ((nI_add (6 + 43 * m_88) 2).trans (congrArg nI (by omega))) ?_
                      refine lv_ldc2 hx hb hown (hts (.constantLong RX12 124 (3)) (List.mem_cons_of_mem _ (List.mem_append_left _ (List.mem_of_getElem? (i := 22) rfl)))) dX12_tick_333 ?_
                      refine k_last hx hb hK hI hS i_1.1 1 k_177 rfl (vp_in_nI (by omega) (by omega)) (cl_32 i_1) dX12_tick_336 (fun f_186 H locs e_187 hI hS => ?_)
                      generalize eq_188 : vp_updL q1_176 (Int32.toNatClampNeg (nI (6 + 43 * m_88 + 2))) 3 = q_188 at e_187
                      have k_190 : f_186 h0 = .inr (12, [.int z0, .int z1, .ref (gr g h0 2), .ref (gr g h0 3), .ref (gr g h0 4), .ref (gr g h0 5), .ref (gr g h0 6), .ref (gr g h0 7), .ref (gr g h0 8), .ref (gr g h0 9), .int z10, .ref (gr g h0 11), .int z12, .int z13, .int z14, .int z15, .long z16, .int z17, .int z18, .ref (gr g h0 19), .ref (gr g h0 20), .ref (gr g h0 21), .ref (gr g h0 22), .int z23, .long w24_37, .long z25, .long z26]) := by rw [e_187, va_up_ne _ _ (ik_ne i_h0 i_1 (by decide))]; exact k_181
                      have k_191 : f_186 (gr g h0 4) = .inl (gc g 1, 906, .inr (.inl q_188)) := by rw [e_187]; exact va_up_self _ _ _
                      have kp_189 := Kp.put kp_183 i_1 (by decide) e_187
                      have u_192 : vp_updL q1_176 (6 + 43 * m_88 + 2) 3 = q_188 := by rw [← eq_188, show Int32.toNatClampNeg (nI (6 + 43 * m_88 + 2)) = 6 + 43 * m_88 + 2 from (nI_clamp (by omega))]
                      have ok_193 : RowOK q_188 := by rw [← u_192]; exact rk_upd z_178 (by rw [show Int64.toInt 3 = 3 from by decide]; refine ⟨⟨by omega, by omega, by omega, by omega, by omega⟩, fun t9 ht9 => ⟨by omega, by omega, by omega, by omega, by omega, by omega⟩, fun t9 k9 ht9 hk9 => ⟨by omega, by omega, by omega⟩, by omega⟩)
                      have d_194 := rk_hd ok_193
                      have n_195 : (q_188 0).toInt = (q1_176 0).toInt := by rw [← u_192, pk_uLn (by omega)]
                      have n_196 : (q_188 1).toInt = (q1_176 1).toInt := by rw [← u_192, pk_uLn (by omega)]
                      have n_197 : (q_188 3).toInt = (q1_176 3).toInt := by rw [← u_192, pk_uLn (by omega)]
                      have n_198 : (q_188 4).toInt = (q1_176 4).toInt := by rw [← u_192, pk_uLn (by omega)]
                      have n_199 : (q_188 5).toInt = (q1_176 5).toInt := by rw [← u_192, pk_uLn (by omega)]
                      refine lv_aload_n hx hb dX12_tick_337 rfl (lv_at hl 2 rfl) ?_
                      refine k_get (ci := 12) (v := .ref (gr g h0 4)) (C := RX12) (T := TX12) (N := 27) hx hb hts (fun _ h0_ => List.mem_cons_of_mem _ (List.mem_append_right _ (List.mem_append_left _ h0_))) hown hK hI i_h0.1 k_190 rfl 4 (by decide) (hts (.fieldLink RX12 16 "DeadlineShareModel" "row" "[J") (List.mem_cons_of_mem _ (List.mem_append_left _ (List.mem_of_getElem? (i := 0) rfl)))) (fun _ h9 => h9) rfl dX12_tick_338 ?_
                      refine lv_iconst (v := 1) hx hb dX12_tick_341 (by decide) ?_
                      refine lv_dup2_11 hx hb dX12_tick_342 rfl rfl ?_
                      refine k_lald hx hb hK hI i_1.1 1 k_191 rfl (by unfold vp_in; decide) dX12_tick_343 ?_
                      refine k_topl (y := q_188 1) (congrArg q_188 (show Int32.toNatClampNeg 1 = 1 by decide)) ?_
                      refine lv_lconst (v := 1) hx hb dX12_tick_344 (by decide) ?_
                      refine lv_ladd hx hb dX12_tick_345 ?_
                      refine lv_topl (fun v_202 ev_202 => ?_)
                      have tv_202 := l_ad (q_188 1) 1
                      rw [← ev_202, show Int64.toInt 1 = 1 from by decide] at tv_202
                      refine k_last hx hb hK hI hS i_1.1 1 k_191 rfl (by unfold vp_in; decide) (cl_32 i_1) dX12_tick_346 (fun f_203 H locs e_204 hI hS => ?_)
                      generalize eq_205 : vp_updL q_188 (Int32.toNatClampNeg 1) v_202 = q_205 at e_204
                      have k_207 : f_203 h0 = .inr (12, [.int z0, .int z1, .ref (gr g h0 2), .ref (gr g h0 3), .ref (gr g h0 4), .ref (gr g h0 5), .ref (gr g h0 6), .ref (gr g h0 7), .ref (gr g h0 8), .ref (gr g h0 9), .int z10, .ref (gr g h0 11), .int z12, .int z13, .int z14, .int z15, .long z16, .int z17, .int z18, .ref (gr g h0 19), .ref (gr g h0 20), .ref (gr g h0 21), .ref (gr g h0 22), .int z23, .long w24_37, .long z25, .long z26]) := by rw [e_204, va_up_ne _ _ (ik_ne i_h0 i_1 (by decide))]; exact k_190
                      have k_208 : f_203 (gr g h0 4) = .inl (gc g 1, 906, .inr (.inl q_205)) := by rw [e_204]; exact va_up_self _ _ _
                      have kp_206 := Kp.put kp_189 i_1 (by decide) e_204
                      have u_209 : vp_updL q_188 1 v_202 = q_205 := by rw [← eq_205, show Int32.toNatClampNeg 1 = 1 from (show Int32.toNatClampNeg 1 = 1 by decide)]
                      have ok_210 : RowOK q_205 := by rw [← u_209]; exact rk_upd ok_193 (by refine ⟨⟨by omega, by omega, by omega, by omega, by omega⟩, fun t9 ht9 => ⟨by omega, by omega, by omega, by omega, by omega, by omega⟩, fun t9 k9 ht9 hk9 => ⟨by omega, by omega, by omega⟩, by omega⟩)
                      have d_211 := rk_hd ok_210
                      have n_212 : (q_205 0).toInt = (q_188 0).toInt := by rw [← u_209, pk_uLn (by omega)]
                      have n_213 : (q_205 1).toInt = Int64.toInt v_202 := by rw [← u_209, pk_uLs]
                      have n_214 : (q_205 3).toInt = (q_188 3).toInt := by rw [← u_209, pk_uLn (by omega)]
                      have n_215 : (q_205 4).toInt = (q_188 4).toInt := by rw [← u_209, pk_uLn (by omega)]
                      have n_216 : (q_205 5).toInt = (q_188 5).toInt := by rw [← u_209, pk_uLn (by omega)]
                      refine lv_iload_n hx hb dX12_tick_347 rfl (lv_at hl 1 rfl) ?_
                      refine k_topi (y := nI m_88) em_88 ?_
                      have w_217 : -1 ≤ nI m_88.toInt ∧ nI m_88.toInt < (q 0).toInt := by omega
                      exact W.iret (v := (nI m_88)) hx hb hr (fun t ht hW => ⟨⟨nI m_88, (), rfl, w_217, ⟨f_203, k_ret ht hI, kp_206, w24_37, q_205, k_207, k_208, ok_210, (by first | omega | decide), (by first | omega | decide)⟩⟩, hS.F ht⟩) hS.2.2 dX12_tick_348
                refine lv_if_le (tgt := 305) hx hb dX12_tick_250 (by decide) (fun c_218 => ?_) (fun c_218 => ?_)
                · have c_218 := lc_le rfl (by decide : Int64.toInt 0 = 0) ((lg_cmp_le _ _).mp c_218)
                  exact J_305 q_104 f_102 _ _ _ hI hS k_107 ok_110 k_106 kp_105 (by first | omega | decide) (by first | omega | decide) (lv_sub hl [0, 1, 2, 3] rfl)
                · have c_218 := ln_le rfl (by decide : Int64.toInt 0 = 0) (fun h9 => c_218 ((lg_cmp_le _ _).mpr h9))
                  refine lv_aload_n hx hb dX12_tick_253 rfl (lv_at hl 2 rfl) ?_
                  refine k_get (ci := 12) (v := .ref (gr g h0 4)) (C := RX12) (T := TX12) (N := 27) hx hb hts (fun _ h0_ => List.mem_cons_of_mem _ (List.mem_append_right _ (List.mem_append_left _ h0_))) hown hK hI i_h0.1 k_106 rfl 4 (by decide) (hts (.fieldLink RX12 16 "DeadlineShareModel" "row" "[J") (List.mem_cons_of_mem _ (List.mem_append_left _ (List.mem_of_getElem? (i := 0) rfl)))) (fun _ h9 => h9) rfl dX12_tick_254 ?_
                  refine lv_iload_n hx hb dX12_tick_257 rfl (lv_at hl 0 rfl) ?_
                  refine lv_bipush (v := 15) hx hb dX12_tick_258 (by decide) ?_
                  refine lv_iadd hx hb dX12_tick_260 ?_
                  refine k_topi (y := nI (6 + 43 * m_88 + 15)) ((nI_add (6 + 43 * m_88) 15).trans (congrArg nI (by omega))) ?_
                  refine lv_dup2_11 hx hb dX12_tick_261 rfl rfl ?_
                  refine k_lald hx hb hK hI i_1.1 1 k_107 rfl (vp_in_nI (by omega) (by omega)) dX12_tick_262 ?_
                  refine k_topl (y := q_104 (6 + 43 * m_88 + 15)) (congrArg q_104 (nI_clamp (by omega))) ?_
                  refine lv_lconst (v := 1) hx hb dX12_tick_263 (by decide) ?_
                  refine lv_lsub hx hb dX12_tick_264 ?_
                  refine lv_topl (fun v_221 ev_221 => ?_)
                  have tv_221 := l_sb (q_104 (6 + 43 * m_88 + 15)) 1
                  rw [← ev_221, show Int64.toInt 1 = 1 from by decide] at tv_221
                  refine k_last hx hb hK hI hS i_1.1 1 k_107 rfl (vp_in_nI (by omega) (by omega)) (cl_32 i_1) dX12_tick_265 (fun f_222 H locs e_223 hI hS => ?_)
                  generalize eq_224 : vp_updL q_104 (Int32.toNatClampNeg (nI (6 + 43 * m_88 + 15))) v_221 = q_224 at e_223
                  have k_226 : f_222 h0 = .inr (12, [.int z0, .int z1, .ref (gr g h0 2), .ref (gr g h0 3), .ref (gr g h0 4), .ref (gr g h0 5), .ref (gr g h0 6), .ref (gr g h0 7), .ref (gr g h0 8), .ref (gr g h0 9), .int z10, .ref (gr g h0 11), .int z12, .int z13, .int z14, .int z15, .long z16, .int z17, .int z18, .ref (gr g h0 19), .ref (gr g h0 20), .ref (gr g h0 21), .ref (gr g h0 22), .int z23, .long w24_37, .long z25, .long z26]) := by rw [e_223, va_up_ne _ _ (ik_ne i_h0 i_1 (by decide))]; exact k_106
                  have k_227 : f_222 (gr g h0 4) = .inl (gc g 1, 906, .inr (.inl q_224)) := by rw [e_223]; exact va_up_self _ _ _
                  have kp_225 := Kp.put kp_105 i_1 (by decide) e_223
                  have u_228 : vp_updL q_104 (6 + 43 * m_88 + 15) v_221 = q_224 := by rw [← eq_224, show Int32.toNatClampNeg (nI (6 + 43 * m_88 + 15)) = 6 + 43 * m_88 + 15 from (nI_clamp (by omega))]
                  have ok_229 : RowOK q_224 := by rw [← u_228]; exact rk_upd ok_110 (by refine ⟨⟨by omega, by omega, by omega, by omega, by omega⟩, fun t9 ht9 => ⟨by omega, by omega, by omega, by omega, by omega, by omega⟩, fun t9 k9 ht9 hk9 => ⟨by omega, by omega, by omega⟩, by omega⟩)
                  have d_230 := rk_hd ok_229
                  have n_231 : (q_224 0).toInt = (q_104 0).toInt := by rw [← u_228, pk_uLn (by omega)]
                  have n_232 : (q_224 1).toInt = (q_104 1).toInt := by rw [← u_228, pk_uLn (by omega)]
                  have n_233 : (q_224 3).toInt = (q_104 3).toInt := by rw [← u_228, pk_uLn (by omega)]
                  have n_234 : (q_224 4).toInt = (q_104 4).toInt := by rw [← u_228, pk_uLn (by omega)]
                  have n_235 : (q_224 5).toInt = (q_104 5).toInt := by rw [← u_228, pk_uLn (by omega)]
                  refine lv_aload_n hx hb dX12_tick_266 rfl (lv_at hl 2 rfl) ?_
                  refine k_get (ci := 12) (v := .ref (gr g h0 4)) (C := RX12) (T := TX12) (N := 27) hx hb hts (fun _ h0_ => List.mem_cons_of_mem _ (List.mem_append_right _ (List.mem_append_left _ h0_))) hown hK hI i_h0.1 k_226 rfl 4 (by decide) (hts (.fieldLink RX12 16 "DeadlineShareModel" "row" "[J") (List.mem_cons_of_mem _ (List.mem_append_left _ (List.mem_of_getElem? (i := 0) rfl)))) (fun _ h9 => h9) rfl dX12_tick_267 ?_
                  refine lv_iload_n hx hb dX12_tick_270 rfl (lv_at hl 0 rfl) ?_
                  refine lv_bipush (v := 15) hx hb dX12_tick_271 (by decide) ?_
                  refine lv_iadd hx hb dX12_tick_273 ?_
                  refine k_topi (y := nI (6 + 43 * m_88 + 15)) ((nI_add (6 + 43 * m_88) 15).trans (congrArg nI (by omega))) ?_
                  refine k_lald hx hb hK hI i_1.1 1 k_227 rfl (vp_in_nI (by omega) (by omega)) dX12_tick_274 ?_
                  refine k_topl (y := q_224 (6 + 43 * m_88 + 15)) (congrArg q_224 (nI_clamp (by omega))) ?_
                  refine lv_lconst (v := 0) hx hb dX12_tick_275 (by decide) ?_
                  refine W.lcmp hx hb dX12_tick_276 ?_
                  refine lv_if_ne (tgt := 305) hx hb dX12_tick_277 (by decide) (fun c_238 => ?_) (fun c_238 => ?_)
                  · have c_238 := ln_eq rfl (by decide : Int64.toInt 0 = 0) (fun h9 => c_238 ((lg_cmp_eq _ _).mpr h9))
                    exact J_305 q_224 f_222 _ _ _ hI hS k_227 ok_229 k_226 kp_225 (by first | omega | decide) (by first | omega | decide) (lv_sub hl [0, 1, 2, 3] rfl)
                  · have c_238 := lc_eq rfl (by decide : Int64.toInt 0 = 0) ((lg_cmp_eq _ _).mp c_238)
                    refine lv_aload_n hx hb dX12_tick_280 rfl (lv_at hl 2 rfl) ?_
                    refine lv_iload_n hx hb dX12_tick_281 rfl (lv_at hl 1 rfl) ?_
                    refine k_topi (y := nI m_88) em_88 ?_
                    refine lv_aload_n hx hb dX12_tick_282 rfl (lv_at hl 2 rfl) ?_
                    refine k_get (ci := 12) (v := .ref (gr g h0 4)) (C := RX12) (T := TX12) (N := 27) hx hb hts (fun _ h0_ => List.mem_cons_of_mem _ (List.mem_append_right _ (List.mem_append_left _ h0_))) hown hK hI i_h0.1 k_226 rfl 4 (by decide) (hts (.fieldLink RX12 16 "DeadlineShareModel" "row" "[J") (List.mem_cons_of_mem _ (List.mem_append_left _ (List.mem_of_getElem? (i := 0) rfl)))) (fun _ h9 => h9) rfl dX12_tick_283 ?_
                    refine lv_iload_n hx hb dX12_tick_286 rfl (lv_at hl 0 rfl) ?_
                    refine lv_bipush (v := 14) hx hb dX12_tick_287 (by decide) ?_
                    refine lv_iadd hx hb dX12_tick_289 ?_
                    refine k_topi (y := nI (6 + 43 * m_88 + 14)) ((nI_add (6 + 43 * m_88) 14).trans (congrArg nI (by omega))) ?_
                    refine k_lald hx hb hK hI i_1.1 1 k_227 rfl (vp_in_nI (by omega) (by omega)) dX12_tick_290 ?_
                    refine k_topl (y := q_224 (6 + 43 * m_88 + 14)) (congrArg q_224 (nI_clamp (by omega))) ?_
                    have d_241 := rk_14 ok_229 (t := m_88) (by omega)
                    refine lv_l2i (v := (q_224 (6 + 43 * m_88 + 14)).toInt32) hx hb dX12_tick_291 rfl ?_
                    refine lv_topi (fun v_242 ev_242 => ?_)
                    have tv_242 := k_l2i (q_224 (6 + 43 * m_88 + 14))
                    rw [← ev_242] at tv_242
                    refine lv_iconst (v := 1) hx hb dX12_tick_292 (by decide) ?_
                    refine lv_iadd hx hb dX12_tick_293 ?_
                    obtain ⟨m_243, em_243, tm_243⟩ := k_nat (x := v_242) (by omega)
                    refine k_topi (y := nI (m_243 + 1)) (by rw [em_243]; exact nI_1 m_243) ?_
                    refine lv_aload_n hx hb dX12_tick_294 rfl (lv_at hl 2 rfl) ?_
                    refine k_get (ci := 12) (v := .ref (gr g h0 4)) (C := RX12) (T := TX12) (N := 27) hx hb hts (fun _ h0_ => List.mem_cons_of_mem _ (List.mem_append_right _ (List.mem_append_left _ h0_))) hown hK hI i_h0.1 k_226 rfl 4 (by decide) (hts (.fieldLink RX12 16 "DeadlineShareModel" "row" "[J") (List.mem_cons_of_mem _ (List.mem_append_left _ (List.mem_of_getElem? (i := 0) rfl)))) (fun _ h9 => h9) rfl dX12_tick_295 ?_
                    refine lv_iconst (v := 1) hx hb dX12_tick_298 (by decide) ?_
                    refine k_lald hx hb hK hI i_1.1 1 k_227 rfl (by unfold vp_in; decide) dX12_tick_299 ?_
                    refine k_topl (y := q_224 1) (congrArg q_224 (show Int32.toNatClampNeg 1 = 1 by decide)) ?_
                    refine lv_lconst (v := 1) hx hb dX12_tick_300 (by decide) ?_
                    refine lv_ladd hx hb dX12_tick_301 ?_
                    refine lv_topl (fun v_246 ev_246 => ?_)
                    have tv_246 := l_ad (q_224 1) 1
                    rw [← ev_246, show Int64.toInt 1 = 1 from by decide] at tv_246
                    refine va_callv (va_runV (As := [.int (nI m_88), .int (nI (m_243 + 1)), .long v_246]) (rest := []) ⟨hx, hb, hml, hown, hts⟩ (c_X12_goOn l dC dI g A hG f_222 h0 m_88 (m_243 + 1) v_246 q_224 i_h0 k_227 ok_229 (by first | omega | decide | (simp only [k_c0, k_c1, k_cm1]; omega)) (by first | omega | decide | (simp only [k_c0, k_c1, k_cm1]; omega))) (cwV 3 hts (gi_V (fun w_ h0_ => ⟨List.mem_cons_of_mem _ (List.mem_append_right _ (List.mem_append_right _ (List.mem_append_right _ (List.mem_append_right _ (List.mem_append_right _ (List.mem_append_right _ (List.mem_append_right _ (List.mem_append_right _ (List.mem_append_right _ (List.mem_append_left _ h0_)))))))))), (tb_c_X12_goOn w_ h0_).2⟩) (List.mem_cons_of_mem _ (List.mem_append_left _ (List.mem_of_getElem? (i := 23) rfl))) (List.mem_cons_of_mem _ (List.mem_append_left _ (List.mem_of_getElem? (i := 24) rfl))) (List.mem_cons_of_mem _ (List.mem_append_left _ (List.mem_of_getElem? (i := 25) rfl))) (List.mem_cons_of_mem _ (List.mem_append_left _ (List.mem_of_getElem? (i := 4) rfl)))) rfl rfl rfl (by decide +kernel) ⟨Nat.le_of_ble_eq_true rfl, Nat.le_of_ble_eq_true rfl⟩) ⟨fun a U g mk q => ⟨q.1, q.2.calling rfl rfl⟩, k_recv hK hI i_h0.1 k_226 (ci := 12) rfl, fun U hU hW => ⟨rfl, kIn.of hI hK hE hS hU hW⟩⟩ rfl rfl hl.1 rfl (lv_room (Nat.le_of_ble_eq_true rfl)) dX12_tick_302 ⟨Nat.le_of_ble_eq_true rfl, Nat.le_of_ble_eq_true rfl⟩) hS (fun q _ h => h) (fun q h => h) (fun u t H1 locs ht hvm _ hB hz1 hk1 hS => ?_)
                    obtain ⟨f_247, hI, kc_249, q1_250, k_251, z_252, z_253, z_254⟩ := hB
                    rw [ht] at hI
                    have k_255 : f_247 h0 = .inr (12, [.int z0, .int z1, .ref (gr g h0 2), .ref (gr g h0 3), .ref (gr g h0 4), .ref (gr g h0 5), .ref (gr g h0 6), .ref (gr g h0 7), .ref (gr g h0 8), .ref (gr g h0 9), .int z10, .ref (gr g h0 11), .int z12, .int z13, .int z14, .int z15, .long z16, .int z17, .int z18, .ref (gr g h0 19), .ref (gr g h0 20), .ref (gr g h0 21), .ref (gr g h0 22), .int z23, .long w24_37, .long z25, .long z26]) := Kp.at kc_249 i_h0 (by decide) k_226
                    have z_252 : RowOK q1_250 := z_252
                    have d_256 := rk_hd z_252
                    have z_253 : (q1_250 0).toInt = (q_224 0).toInt := z_253
                    have z_254 : (q1_250 1).toInt = (q_224 1).toInt := z_254
                    have kp_257 := Kp.call kp_225 kc_249 (by decide)
                    generalize H1 = H at hI hS ⊢
                    refine W.widen (k := 0) (n := 0) (Nat.le_of_ble_eq_true rfl) (Nat.le_of_ble_eq_true rfl) ?_
                    exact J_305 q1_250 f_247 _ _ _ hI hS k_251 z_252 k_255 kp_257 (by first | omega | decide) (by first | omega | decide) (lv_sub hl [0, 1, 2, 3] rfl)
            · have c_32 := ln_le rfl (lN_toInt (n := y_18) (by omega)) (fun h9 => c_32 ((lg_cmp_ge _ _).mpr h9))
              refine lv_aload_n hx hb dX12_tick_104 rfl (lv_at hl 1 rfl) ?_
              refine k_get (ci := 12) (v := .ref (gr g h0 4)) (C := RX12) (T := TX12) (N := 27) hx hb hts (fun _ h0_ => List.mem_cons_of_mem _ (List.mem_append_right _ (List.mem_append_left _ h0_))) hown hK hI i_h0.1 k_23 rfl 4 (by decide) (hts (.fieldLink RX12 16 "DeadlineShareModel" "row" "[J") (List.mem_cons_of_mem _ (List.mem_append_left _ (List.mem_of_getElem? (i := 0) rfl)))) (fun _ h9 => h9) rfl dX12_tick_105 ?_
              refine lv_iload_n hx hb dX12_tick_108 rfl (lv_at hl 0 rfl) ?_
              refine va_calli (va_runS (As := [.int (nI y_18)]) (rest := [.ref (gr g h0 4)]) ⟨hx, hb, hml, hown, hts⟩ (c_X12_at l dC dI g A hG f_19 y_18) (va_cwS 1 hts (gi_S (fun w_ h0_ => ⟨List.mem_cons_of_mem _ (List.mem_append_right _ (List.mem_append_right _ (List.mem_append_right _ (List.mem_append_right _ (List.mem_append_right _ (List.mem_append_left _ h0_)))))), (tb_c_X12_at w_ h0_).2⟩) (List.mem_cons_of_mem _ (List.mem_append_left _ (List.mem_of_getElem? (i := 11) rfl))) (List.mem_cons_of_mem _ (List.mem_append_left _ (List.mem_of_getElem? (i := 12) rfl))) (List.mem_cons_of_mem _ (List.mem_append_left _ (List.mem_of_getElem? (i := 4) rfl)))) rfl rfl rfl (by decide +kernel) ⟨Nat.le_of_ble_eq_true rfl, Nat.le_of_ble_eq_true rfl⟩) ⟨fun a U g mk q => ⟨q.1, q.2.calling rfl rfl⟩, fun U hU hW => ⟨rfl, kIn.of hI hK hE hS hU hW⟩⟩ rfl rfl hl.1 rfl (lv_room (Nat.le_of_ble_eq_true rfl)) dX12_tick_109 ⟨Nat.le_of_ble_eq_true rfl, Nat.le_of_ble_eq_true rfl⟩) hS (fun q _ h => h) (fun q h => h) (fun r_261 u t H1 locs ht hvm w_260 hB hz1 hk1 hS => ?_)
              have hI : Iv dC dI g A f_19 t.heap := hB
              rw [ht] at hI
              generalize H1 = H at hI hS ⊢
              refine W.widen (k := 0) (n := 0) (Nat.le_of_ble_eq_true rfl) (Nat.le_of_ble_eq_true rfl) ?_
              have w_260 : r_261 = nI (6 + 43 * y_18) := w_260
              refine k_topi (y := nI (6 + 43 * y_18)) w_260 ?_
              refine lv_iconst (v := 2) hx hb dX12_tick_112 (by decide) ?_
              refine lv_iadd hx hb dX12_tick_113 ?_
              refine k_topi (y := nI (6 + 43 * y_18 + 2)) ((nI_add (6 + 43 * y_18) 2).trans (congrArg nI (by omega))) ?_
              refine k_lald hx hb hK hI i_1.1 1 k_21 rfl (vp_in_nI (by omega) (by omega)) dX12_tick_114 ?_
              refine k_topl (y := q_20 (6 + 43 * y_18 + 2)) (congrArg q_20 (nI_clamp (by omega))) ?_
              refine lv_ldc2 hx hb hown (hts (.constantLong RX12 124 (3)) (List.mem_cons_of_mem _ (List.mem_append_left _ (List.mem_of_getElem? (i := 22) rfl)))) dX12_tick_115 ?_
              refine W.lcmp hx hb dX12_tick_118 ?_
              have J_191 : ∀ (q_263 : Nat → Int64) (f_262 : Nat → va_E) (H : Heap) (locs : List Loc) (ls : Array Slot), Iv dC dI g A f_262 H → va_S A s.heap H locs → f_262 (gr g h0 4) = .inl (gc g 1, 906, .inr (.inl q_263)) → RowOK q_263 → f_262 h0 = .inr (12, [.int z0, .int z1, .ref (gr g h0 2), .ref (gr g h0 3), .ref (gr g h0 4), .ref (gr g h0 5), .ref (gr g h0 6), .ref (gr g h0 7), .ref (gr g h0 8), .ref (gr g h0 9), .int z10, .ref (gr g h0 11), .int z12, .int z13, .int z14, .int z15, .long z16, .int z17, .int z18, .ref (gr g h0 19), .ref (gr g h0 20), .ref (gr g h0 21), .ref (gr g h0 22), .int z23, .long z24, .long z25, .long z26]) → Kp g [12, 32] f f_262 → ((q_263 0).toInt = (q 0).toInt) → ((q_263 1).toInt = (q 1).toInt) → lv_has ls 4 [(2, .int (nI y_18)), (0, .ref h0), (1, .int p1)] → W p l e (headSpec wq_c_X12_tick ({ frames := 7, cells := 0, slots := 0, locals := 164 } : Room)).room s m ([.ref h0, .int p1].toArray) below meth c H locs 0 0 (MQ below (va_Qi (fun (r : Int32) (_ : Unit) => -1 ≤ r.toInt ∧ r.toInt < (q 0).toInt) (fun (_ : Unit) t => ∃ f1 : Nat → va_E, Iv dC dI g A f1 t.heap ∧ Kp g [12, 32] f f1 ∧ ∃ (w24 : Int64) (q1 : Nat → Int64), (f1 h0 = .inr (12, [.int z0, .int z1, .ref (gr g h0 2), .ref (gr g h0 3), .ref (gr g h0 4), .ref (gr g h0 5), .ref (gr g h0 6), .ref (gr g h0 7), .ref (gr g h0 8), .ref (gr g h0 9), .int z10, .ref (gr g h0 11), .int z12, .int z13, .int z14, .int z15, .long z16, .int z17, .int z18, .ref (gr g h0 19), .ref (gr g h0 20), .ref (gr g h0 21), .ref (gr g h0 22), .int z23, .long w24, .long z25, .long z26])) ∧ (f1 (gr g h0 4) = .inl (gc g 1, 906, .inr (.inl q1))) ∧ (RowOK q1) ∧ ((q1 0).toInt = (q 0).toInt) ∧ ((q1 1).toInt = (q 1).toInt + 1)) A) ([.ref h0, .int p1].toArray) s 0 0 A) (F0 m 191 ls []) := by
                intro q_263 f_262 H locs ls hI hS k_264 ok_265 k_266 kp_267 t_268 t_269 hl
                have d_270 := rk_hd ok_265
                refine lv_iinc (v := nI (y_18 + 1)) (lv' := [(2, .int (nI (y_18 + 1))), (0, .ref h0), (1, .int p1)]) hx hb dX12_tick_191 hl (k := 0) rfl (nI_1 _) (by decide) rfl (fun ls hl => ?_)
                refine lv_goto (tgt := 92) hx hb dX12_tick_194 (by decide) ?_
                exact ih (y_18 + 1) q_263 f_262 _ _ _ (by omega) hI hS k_264 ok_265 k_266 kp_267 (by first | omega | decide) (by first | omega | decide) (by first | omega | decide) (lv_sub hl [0, 1, 2] rfl)
              have J_146 : ∀ (H : Heap) (locs : List Loc) (ls : Array Slot), Iv dC dI g A f_19 H → va_S A s.heap H locs → lv_has ls 4 [(2, .int (nI y_18)), (0, .ref h0), (1, .int p1)] → W p l e (headSpec wq_c_X12_tick ({ frames := 7, cells := 0, slots := 0, locals := 164 } : Room)).room s m ([.ref h0, .int p1].toArray) below meth c H locs 0 0 (MQ below (va_Qi (fun (r : Int32) (_ : Unit) => -1 ≤ r.toInt ∧ r.toInt < (q 0).toInt) (fun (_ : Unit) t => ∃ f1 : Nat → va_E, Iv dC dI g A f1 t.heap ∧ Kp g [12, 32] f f1 ∧ ∃ (w24 : Int64) (q1 : Nat → Int64), (f1 h0 = .inr (12, [.int z0, .int z1, .ref (gr g h0 2), .ref (gr g h0 3), .ref (gr g h0 4), .ref (gr g h0 5), .ref (gr g h0 6), .ref (gr g h0 7), .ref (gr g h0 8), .ref (gr g h0 9), .int z10, .ref (gr g h0 11), .int z12, .int z13, .int z14, .int z15, .long z16, .int z17, .int z18, .ref (gr g h0 19), .ref (gr g h0 20), .ref (gr g h0 21), .ref (gr g h0 22), .int z23, .long w24, .long z25, .long z26])) ∧ (f1 (gr g h0 4) = .inl (gc g 1, 906, .inr (.inl q1))) ∧ (RowOK q1) ∧ ((q1 0).toInt = (q 0).toInt) ∧ ((q1 1).toInt = (q 1).toInt + 1)) A) ([.ref h0, .int p1].toArray) s 0 0 A) (F0 m 146 ls []) := by
                intro H locs ls hI hS  hl
                refine lv_aload_n hx hb dX12_tick_146 rfl (lv_at hl 1 rfl) ?_
                refine k_get (ci := 12) (v := .ref (gr g h0 4)) (C := RX12) (T := TX12) (N := 27) hx hb hts (fun _ h0_ => List.mem_cons_of_mem _ (List.mem_append_right _ (List.mem_append_left _ h0_))) hown hK hI i_h0.1 k_23 rfl 4 (by decide) (hts (.fieldLink RX12 16 "DeadlineShareModel" "row" "[J") (List.mem_cons_of_mem _ (List.mem_append_left _ (List.mem_of_getElem? (i := 0) rfl)))) (fun _ h9 => h9) rfl dX12_tick_147 ?_
                refine lv_iload_n hx hb dX12_tick_150 rfl (lv_at hl 0 rfl) ?_
                refine va_calli (va_runS (As := [.int (nI y_18)]) (rest := [.ref (gr g h0 4)]) ⟨hx, hb, hml, hown, hts⟩ (c_X12_at l dC dI g A hG f_19 y_18) (va_cwS 1 hts (gi_S (fun w_ h0_ => ⟨List.mem_cons_of_mem _ (List.mem_append_right _ (List.mem_append_right _ (List.mem_append_right _ (List.mem_append_right _ (List.mem_append_right _ (List.mem_append_left _ h0_)))))), (tb_c_X12_at w_ h0_).2⟩) (List.mem_cons_of_mem _ (List.mem_append_left _ (List.mem_of_getElem? (i := 11) rfl))) (List.mem_cons_of_mem _ (List.mem_append_left _ (List.mem_of_getElem? (i := 12) rfl))) (List.mem_cons_of_mem _ (List.mem_append_left _ (List.mem_of_getElem? (i := 4) rfl)))) rfl rfl rfl (by decide +kernel) ⟨Nat.le_of_ble_eq_true rfl, Nat.le_of_ble_eq_true rfl⟩) ⟨fun a U g mk q => ⟨q.1, q.2.calling rfl rfl⟩, fun U hU hW => ⟨rfl, kIn.of hI hK hE hS hU hW⟩⟩ rfl rfl hl.1 rfl (lv_room (Nat.le_of_ble_eq_true rfl)) dX12_tick_151 ⟨Nat.le_of_ble_eq_true rfl, Nat.le_of_ble_eq_true rfl⟩) hS (fun q _ h => h) (fun q h => h) (fun r_274 u t H1 locs ht hvm w_273 hB hz1 hk1 hS => ?_)
                have hI : Iv dC dI g A f_19 t.heap := hB
                rw [ht] at hI
                generalize H1 = H at hI hS ⊢
                refine W.widen (k := 0) (n := 0) (Nat.le_of_ble_eq_true rfl) (Nat.le_of_ble_eq_true rfl) ?_
                have w_273 : r_274 = nI (6 + 43 * y_18) := w_273
                refine k_topi (y := nI (6 + 43 * y_18)) w_273 ?_
                refine lv_iconst (v := 2) hx hb dX12_tick_154 (by decide) ?_
                refine lv_iadd hx hb dX12_tick_155 ?_
                refine k_topi (y := nI (6 + 43 * y_18 + 2)) ((nI_add (6 + 43 * y_18) 2).trans (congrArg nI (by omega))) ?_
                refine k_lald hx hb hK hI i_1.1 1 k_21 rfl (vp_in_nI (by omega) (by omega)) dX12_tick_156 ?_
                refine k_topl (y := q_20 (6 + 43 * y_18 + 2)) (congrArg q_20 (nI_clamp (by omega))) ?_
                refine lv_ldc2 hx hb hown (hts (.constantLong RX12 122 (2)) (List.mem_cons_of_mem _ (List.mem_append_left _ (List.mem_of_getElem? (i := 26) rfl)))) dX12_tick_157 ?_
                refine W.lcmp hx hb dX12_tick_160 ?_
                refine lv_if_ne (tgt := 191) hx hb dX12_tick_161 (by decide) (fun c_275 => ?_) (fun c_275 => ?_)
                · have c_275 := ln_eq rfl (by decide : Int64.toInt 2 = 2) (fun h9 => c_275 ((lg_cmp_eq _ _).mpr h9))
                  exact J_191 q_20 f_19 _ _ _ hI hS k_21 ok_22 k_23 kp_24 (by first | omega | decide) (by first | omega | decide) (lv_sub hl [0, 1, 2] rfl)
                · have c_275 := lc_eq rfl (by decide : Int64.toInt 2 = 2) ((lg_cmp_eq _ _).mp c_275)
                  refine lv_aload_n hx hb dX12_tick_164 rfl (lv_at hl 1 rfl) ?_
                  refine k_get (ci := 12) (v := .ref (gr g h0 4)) (C := RX12) (T := TX12) (N := 27) hx hb hts (fun _ h0_ => List.mem_cons_of_mem _ (List.mem_append_right _ (List.mem_append_left _ h0_))) hown hK hI i_h0.1 k_23 rfl 4 (by decide) (hts (.fieldLink RX12 16 "DeadlineShareModel" "row" "[J") (List.mem_cons_of_mem _ (List.mem_append_left _ (List.mem_of_getElem? (i := 0) rfl)))) (fun _ h9 => h9) rfl dX12_tick_165 ?_
                  refine lv_iload_n hx hb dX12_tick_168 rfl (lv_at hl 0 rfl) ?_
                  refine va_calli (va_runS (As := [.int (nI y_18)]) (rest := [.ref (gr g h0 4)]) ⟨hx, hb, hml, hown, hts⟩ (c_X12_at l dC dI g A hG f_19 y_18) (va_cwS 1 hts (gi_S (fun w_ h0_ => ⟨List.mem_cons_of_mem _ (List.mem_append_right _ (List.mem_append_right _ (List.mem_append_right _ (List.mem_append_right _ (List.mem_append_right _ (List.mem_append_left _ h0_)))))), (tb_c_X12_at w_ h0_).2⟩) (List.mem_cons_of_mem _ (List.mem_append_left _ (List.mem_of_getElem? (i := 11) rfl))) (List.mem_cons_of_mem _ (List.mem_append_left _ (List.mem_of_getElem? (i := 12) rfl))) (List.mem_cons_of_mem _ (List.mem_append_left _ (List.mem_of_getElem? (i := 4) rfl)))) rfl rfl rfl (by decide +kernel) ⟨Nat.le_of_ble_eq_true rfl, Nat.le_of_ble_eq_true rfl⟩) ⟨fun a U g mk q => ⟨q.1, q.2.calling rfl rfl⟩, fun U hU hW => ⟨rfl, kIn.of hI hK hE hS hU hW⟩⟩ rfl rfl hl.1 rfl (lv_room (Nat.le_of_ble_eq_true rfl)) dX12_tick_169 ⟨Nat.le_of_ble_eq_true rfl, Nat.le_of_ble_eq_true rfl⟩) hS (fun q _ h => h) (fun q h => h) (fun r_279 u t H1 locs ht hvm w_278 hB hz1 hk1 hS => ?_)
                  have hI : Iv dC dI g A f_19 t.heap := hB
                  rw [ht] at hI
                  generalize H1 = H at hI hS ⊢
                  refine W.widen (k := 0) (n := 0) (Nat.le_of_ble_eq_true rfl) (Nat.le_of_ble_eq_true rfl) ?_
                  have w_278 : r_279 = nI (6 + 43 * y_18) := w_278
                  refine k_topi (y := nI (6 + 43 * y_18)) w_278 ?_
                  refine lv_bipush (v := 9) hx hb dX12_tick_172 (by decide) ?_
                  refine lv_iadd hx hb dX12_tick_174 ?_
                  refine k_topi (y := nI (6 + 43 * y_18 + 9)) ((nI_add (6 + 43 * y_18) 9).trans (congrArg nI (by omega))) ?_
                  refine k_lald hx hb hK hI i_1.1 1 k_21 rfl (vp_in_nI (by omega) (by omega)) dX12_tick_175 ?_
                  refine k_topl (y := q_20 (6 + 43 * y_18 + 9)) (congrArg q_20 (nI_clamp (by omega))) ?_
                  refine lv_aload_n hx hb dX12_tick_176 rfl (lv_at hl 1 rfl) ?_
                  refine k_get (ci := 12) (v := .ref (gr g h0 4)) (C := RX12) (T := TX12) (N := 27) hx hb hts (fun _ h0_ => List.mem_cons_of_mem _ (List.mem_append_right _ (List.mem_append_left _ h0_))) hown hK hI i_h0.1 k_23 rfl 4 (by decide) (hts (.fieldLink RX12 16 "DeadlineShareModel" "row" "[J") (List.mem_cons_of_mem _ (List.mem_append_left _ (List.mem_of_getElem? (i := 0) rfl)))) (fun _ h9 => h9) rfl dX12_tick_177 ?_
                  refine lv_iconst (v := 1) hx hb dX12_tick_180 (by decide) ?_
                  refine k_lald hx hb hK hI i_1.1 1 k_21 rfl (by unfold vp_in; decide) dX12_tick_181 ?_
                  refine k_topl (y := q_20 1) (congrArg q_20 (show Int32.toNatClampNeg 1 = 1 by decide)) ?_
                  refine W.lcmp hx hb dX12_tick_182 ?_
                  refine lv_if_gt (tgt := 191) hx hb dX12_tick_183 (by decide) (fun c_282 => ?_) (fun c_282 => ?_)
                  · have c_282 := lc_lt rfl rfl ((lg_cmp_gt _ _).mp c_282)
                    exact J_191 q_20 f_19 _ _ _ hI hS k_21 ok_22 k_23 kp_24 (by first | omega | decide) (by first | omega | decide) (lv_sub hl [0, 1, 2] rfl)
                  · have c_282 := ln_lt rfl rfl (fun h9 => c_282 ((lg_cmp_gt _ _).mpr h9))
                    refine lv_aload_n hx hb dX12_tick_186 rfl (lv_at hl 1 rfl) ?_
                    refine lv_iload_n hx hb dX12_tick_187 rfl (lv_at hl 0 rfl) ?_
                    refine va_callv (va_runV (As := [.int (nI y_18)]) (rest := []) ⟨hx, hb, hml, hown, hts⟩ (c_X12_wake l dC dI g A hG f_19 h0 y_18 q_20 i_h0 k_21 ok_22 (by first | omega | decide | (simp only [k_c0, k_c1, k_cm1]; omega))) (cwV 1 hts (gi_V (fun w_ h0_ => ⟨List.mem_cons_of_mem _ (List.mem_append_right _ (List.mem_append_right _ (List.mem_append_right _ (List.mem_append_right _ (List.mem_append_right _ (List.mem_append_right _ (List.mem_append_right _ (List.mem_append_right _ (List.mem_append_right _ (List.mem_append_right _ (List.mem_append_left _ h0_))))))))))), (tb_c_X12_wake w_ h0_).2⟩) (List.mem_cons_of_mem _ (List.mem_append_left _ (List.mem_of_getElem? (i := 27) rfl))) (List.mem_cons_of_mem _ (List.mem_append_left _ (List.mem_of_getElem? (i := 28) rfl))) (List.mem_cons_of_mem _ (List.mem_append_left _ (List.mem_of_getElem? (i := 29) rfl))) (List.mem_cons_of_mem _ (List.mem_append_left _ (List.mem_of_getElem? (i := 4) rfl)))) rfl rfl rfl (by decide +kernel) ⟨Nat.le_of_ble_eq_true rfl, Nat.le_of_ble_eq_true rfl⟩) ⟨fun a U g mk q => ⟨q.1, q.2.calling rfl rfl⟩, k_recv hK hI i_h0.1 k_23 (ci := 12) rfl, fun U hU hW => ⟨rfl, kIn.of hI hK hE hS hU hW⟩⟩ rfl rfl hl.1 rfl (lv_room (Nat.le_of_ble_eq_true rfl)) dX12_tick_188 ⟨Nat.le_of_ble_eq_true rfl, Nat.le_of_ble_eq_true rfl⟩) hS (fun q _ h => h) (fun q h => h) (fun u t H1 locs ht hvm _ hB hz1 hk1 hS => ?_)
                    obtain ⟨f_283, hI, kc_285, q1_286, k_287, z_288, z_289, z_290⟩ := hB
                    rw [ht] at hI
                    have k_291 : f_283 h0 = .inr (12, [.int z0, .int z1, .ref (gr g h0 2), .ref (gr g h0 3), .ref (gr g h0 4), .ref (gr g h0 5), .ref (gr g h0 6), .ref (gr g h0 7), .ref (gr g h0 8), .ref (gr g h0 9), .int z10, .ref (gr g h0 11), .int z12, .int z13, .int z14, .int z15, .long z16, .int z17, .int z18, .ref (gr g h0 19), .ref (gr g h0 20), .ref (gr g h0 21), .ref (gr g h0 22), .int z23, .long z24, .long z25, .long z26]) := Kp.at kc_285 i_h0 (by decide) k_23
                    have z_288 : RowOK q1_286 := z_288
                    have d_292 := rk_hd z_288
                    have z_289 : (q1_286 0).toInt = (q_20 0).toInt := z_289
                    have z_290 : (q1_286 1).toInt = (q_20 1).toInt := z_290
                    have kp_293 := Kp.call kp_24 kc_285 (by decide)
                    generalize H1 = H at hI hS ⊢
                    refine W.widen (k := 0) (n := 0) (Nat.le_of_ble_eq_true rfl) (Nat.le_of_ble_eq_true rfl) ?_
                    exact J_191 q1_286 f_283 _ _ _ hI hS k_287 z_288 k_291 kp_293 (by first | omega | decide) (by first | omega | decide) (lv_sub hl [0, 1, 2] rfl)
              refine lv_if_ne (tgt := 146) hx hb dX12_tick_119 (by decide) (fun c_294 => ?_) (fun c_294 => ?_)
              · have c_294 := ln_eq rfl (by decide : Int64.toInt 3 = 3) (fun h9 => c_294 ((lg_cmp_eq _ _).mpr h9))
                exact J_146  _ _ _ hI hS  (lv_sub hl [0, 1, 2] rfl)
              · have c_294 := lc_eq rfl (by decide : Int64.toInt 3 = 3) ((lg_cmp_eq _ _).mp c_294)
                refine lv_aload_n hx hb dX12_tick_122 rfl (lv_at hl 1 rfl) ?_
                refine lv_iload_n hx hb dX12_tick_123 rfl (lv_at hl 0 rfl) ?_
                refine va_calli (va_runV (As := [.int (nI y_18)]) (rest := []) ⟨hx, hb, hml, hown, hts⟩ (c_X12_isSpent l dC dI g A hG f_19 h0 y_18 q_20 i_h0 k_21 ok_22 (by first | omega | decide | (simp only [k_c0, k_c1, k_cm1]; omega))) (cwV 1 hts (gi_V (fun w_ h0_ => ⟨List.mem_cons_of_mem _ (List.mem_append_right _ (List.mem_append_right _ (List.mem_append_right _ (List.mem_append_right _ (List.mem_append_right _ (List.mem_append_right _ (List.mem_append_right _ (List.mem_append_left _ h0_)))))))), (tb_c_X12_isSpent w_ h0_).2⟩) (List.mem_cons_of_mem _ (List.mem_append_left _ (List.mem_of_getElem? (i := 16) rfl))) (List.mem_cons_of_mem _ (List.mem_append_left _ (List.mem_of_getElem? (i := 17) rfl))) (List.mem_cons_of_mem _ (List.mem_append_left _ (List.mem_of_getElem? (i := 18) rfl))) (List.mem_cons_of_mem _ (List.mem_append_left _ (List.mem_of_getElem? (i := 4) rfl)))) rfl rfl rfl (by decide +kernel) ⟨Nat.le_of_ble_eq_true rfl, Nat.le_of_ble_eq_true rfl⟩) ⟨fun a U g mk q => ⟨q.1, q.2.calling rfl rfl⟩, k_recv hK hI i_h0.1 k_23 (ci := 12) rfl, fun U hU hW => ⟨rfl, kIn.of hI hK hE hS hU hW⟩⟩ rfl rfl hl.1 rfl (lv_room (Nat.le_of_ble_eq_true rfl)) dX12_tick_124 ⟨Nat.le_of_ble_eq_true rfl, Nat.le_of_ble_eq_true rfl⟩) hS (fun q _ h => h) (fun q h => h) (fun r_296 u t H1 locs ht hvm w_295 hB hz1 hk1 hS => ?_)
                have hI : Iv dC dI g A f_19 t.heap := hB
                rw [ht] at hI
                generalize H1 = H at hI hS ⊢
                refine W.widen (k := 0) (n := 0) (Nat.le_of_ble_eq_true rfl) (Nat.le_of_ble_eq_true rfl) ?_
                refine lv_if_ne (tgt := 146) hx hb dX12_tick_127 (by decide) (fun c_297 => ?_) (fun c_297 => ?_)
                · have c_297 := kn_eq rfl (by decide : Int32.toInt 0 = 0) c_297
                  exact J_146  _ _ _ hI hS  (lv_sub hl [0, 1, 2] rfl)
                · have c_297 := kc_eq rfl (by decide : Int32.toInt 0 = 0) c_297
                  refine lv_aload_n hx hb dX12_tick_130 rfl (lv_at hl 1 rfl) ?_
                  refine lv_iload_n hx hb dX12_tick_131 rfl (lv_at hl 0 rfl) ?_
                  refine va_calli (va_runV (As := [.int (nI y_18)]) (rest := []) ⟨hx, hb, hml, hown, hts⟩ (c_X12_hasRoom l dC dI g A hG f_19 h0 y_18 q_20 i_h0 k_21 ok_22 (by first | omega | decide | (simp only [k_c0, k_c1, k_cm1]; omega))) (cwV 1 hts (gi_V (fun w_ h0_ => ⟨List.mem_cons_of_mem _ (List.mem_append_right _ (List.mem_append_right _ (List.mem_append_right _ (List.mem_append_right _ (List.mem_append_right _ (List.mem_append_right _ (List.mem_append_right _ (List.mem_append_right _ (List.mem_append_right _ (List.mem_append_right _ (List.mem_append_right _ (List.mem_append_left _ h0_)))))))))))), (tb_c_X12_hasRoom w_ h0_).2⟩) (List.mem_cons_of_mem _ (List.mem_append_left _ (List.mem_of_getElem? (i := 30) rfl))) (List.mem_cons_of_mem _ (List.mem_append_left _ (List.mem_of_getElem? (i := 31) rfl))) (List.mem_cons_of_mem _ (List.mem_append_left _ (List.mem_of_getElem? (i := 32) rfl))) (List.mem_cons_of_mem _ (List.mem_append_left _ (List.mem_of_getElem? (i := 4) rfl)))) rfl rfl rfl (by decide +kernel) ⟨Nat.le_of_ble_eq_true rfl, Nat.le_of_ble_eq_true rfl⟩) ⟨fun a U g mk q => ⟨q.1, q.2.calling rfl rfl⟩, k_recv hK hI i_h0.1 k_23 (ci := 12) rfl, fun U hU hW => ⟨rfl, kIn.of hI hK hE hS hU hW⟩⟩ rfl rfl hl.1 rfl (lv_room (Nat.le_of_ble_eq_true rfl)) dX12_tick_132 ⟨Nat.le_of_ble_eq_true rfl, Nat.le_of_ble_eq_true rfl⟩) hS (fun q _ h => h) (fun q h => h) (fun r_299 u t H1 locs ht hvm w_298 hB hz1 hk1 hS => ?_)
                  have hI : Iv dC dI g A f_19 t.heap := hB
                  rw [ht] at hI
                  generalize H1 = H at hI hS ⊢
                  refine W.widen (k := 0) (n := 0) (Nat.le_of_ble_eq_true rfl) (Nat.le_of_ble_eq_true rfl) ?_
                  refine lv_if_eq (tgt := 146) hx hb dX12_tick_135 (by decide) (fun c_300 => ?_) (fun c_300 => ?_)
                  · have c_300 := kc_eq rfl (by decide : Int32.toInt 0 = 0) c_300
                    exact J_146  _ _ _ hI hS  (lv_sub hl [0, 1, 2] rfl)
                  · have c_300 := kn_eq rfl (by decide : Int32.toInt 0 = 0) c_300
                    refine lv_aload_n hx hb dX12_tick_138 rfl (lv_at hl 1 rfl) ?_
                    refine lv_iload_n hx hb dX12_tick_139 rfl (lv_at hl 0 rfl) ?_
                    refine va_callv (va_runV (As := [.int (nI y_18)]) (rest := []) ⟨hx, hb, hml, hown, hts⟩ (c_X12_joins l dC dI g A hG f_19 h0 y_18 q_20 i_h0 k_21 ok_22 (by first | omega | decide | (simp only [k_c0, k_c1, k_cm1]; omega))) (cwV 1 hts (gi_V (fun w_ h0_ => ⟨List.mem_cons_of_mem _ (List.mem_append_right _ (List.mem_append_right _ (List.mem_append_right _ (List.mem_append_right _ (List.mem_append_right _ (List.mem_append_right _ (List.mem_append_right _ (List.mem_append_right _ (List.mem_append_right _ (List.mem_append_right _ (List.mem_append_right _ (List.mem_append_right _ (List.mem_append_left _ h0_))))))))))))), (tb_c_X12_joins w_ h0_).2⟩) (List.mem_cons_of_mem _ (List.mem_append_left _ (List.mem_of_getElem? (i := 33) rfl))) (List.mem_cons_of_mem _ (List.mem_append_left _ (List.mem_of_getElem? (i := 34) rfl))) (List.mem_cons_of_mem _ (List.mem_append_left _ (List.mem_of_getElem? (i := 35) rfl))) (List.mem_cons_of_mem _ (List.mem_append_left _ (List.mem_of_getElem? (i := 4) rfl)))) rfl rfl rfl (by decide +kernel) ⟨Nat.le_of_ble_eq_true rfl, Nat.le_of_ble_eq_true rfl⟩) ⟨fun a U g mk q => ⟨q.1, q.2.calling rfl rfl⟩, k_recv hK hI i_h0.1 k_23 (ci := 12) rfl, fun U hU hW => ⟨rfl, kIn.of hI hK hE hS hU hW⟩⟩ rfl rfl hl.1 rfl (lv_room (Nat.le_of_ble_eq_true rfl)) dX12_tick_140 ⟨Nat.le_of_ble_eq_true rfl, Nat.le_of_ble_eq_true rfl⟩) hS (fun q _ h => h) (fun q h => h) (fun u t H1 locs ht hvm _ hB hz1 hk1 hS => ?_)
                    obtain ⟨f_301, hI, kc_303, q1_304, k_305, z_306, z_307, z_308⟩ := hB
                    rw [ht] at hI
                    have k_309 : f_301 h0 = .inr (12, [.int z0, .int z1, .ref (gr g h0 2), .ref (gr g h0 3), .ref (gr g h0 4), .ref (gr g h0 5), .ref (gr g h0 6), .ref (gr g h0 7), .ref (gr g h0 8), .ref (gr g h0 9), .int z10, .ref (gr g h0 11), .int z12, .int z13, .int z14, .int z15, .long z16, .int z17, .int z18, .ref (gr g h0 19), .ref (gr g h0 20), .ref (gr g h0 21), .ref (gr g h0 22), .int z23, .long z24, .long z25, .long z26]) := Kp.at kc_303 i_h0 (by decide) k_23
                    have z_306 : RowOK q1_304 := z_306
                    have d_310 := rk_hd z_306
                    have z_307 : (q1_304 0).toInt = (q_20 0).toInt := z_307
                    have z_308 : (q1_304 1).toInt = (q_20 1).toInt := z_308
                    have kp_311 := Kp.call kp_24 kc_303 (by decide)
                    generalize H1 = H at hI hS ⊢
                    refine W.widen (k := 0) (n := 0) (Nat.le_of_ble_eq_true rfl) (Nat.le_of_ble_eq_true rfl) ?_
                    refine lv_goto (tgt := 191) hx hb dX12_tick_143 (by decide) ?_
                    exact J_191 q1_304 f_301 _ _ _ hI hS k_305 z_306 k_309 kp_311 (by first | omega | decide) (by first | omega | decide) (lv_sub hl [0, 1, 2] rfl)
        exact K_92 _ 0 q_5 f_4 _ _ _ (Nat.lt_succ_self _) hI hS k_6 ok_7 k_8 kp_9 (by first | omega | decide) (by first | omega | decide) (by first | omega | decide) (lv_sub hl [0, 1, 2] rfl)
      · have c_17 := ln_le rfl (lN_toInt (n := y_3) (by omega)) (fun h9 => c_17 ((lg_cmp_ge _ _).mpr h9))
        refine lv_iload_n hx hb dX12_tick_14 rfl (lv_at hl 0 rfl) ?_
        refine va_calli (va_runS (As := [.int (nI y_3)]) (rest := []) ⟨hx, hb, hml, hown, hts⟩ (c_X12_at l dC dI g A hG f_4 y_3) (va_cwS 1 hts (gi_S (fun w_ h0_ => ⟨List.mem_cons_of_mem _ (List.mem_append_right _ (List.mem_append_right _ (List.mem_append_right _ (List.mem_append_right _ (List.mem_append_right _ (List.mem_append_left _ h0_)))))), (tb_c_X12_at w_ h0_).2⟩) (List.mem_cons_of_mem _ (List.mem_append_left _ (List.mem_of_getElem? (i := 11) rfl))) (List.mem_cons_of_mem _ (List.mem_append_left _ (List.mem_of_getElem? (i := 12) rfl))) (List.mem_cons_of_mem _ (List.mem_append_left _ (List.mem_of_getElem? (i := 4) rfl)))) rfl rfl rfl (by decide +kernel) ⟨Nat.le_of_ble_eq_true rfl, Nat.le_of_ble_eq_true rfl⟩) ⟨fun a U g mk q => ⟨q.1, q.2.calling rfl rfl⟩, fun U hU hW => ⟨rfl, kIn.of hI hK hE hS hU hW⟩⟩ rfl rfl hl.1 rfl (lv_room (Nat.le_of_ble_eq_true rfl)) dX12_tick_15 ⟨Nat.le_of_ble_eq_true rfl, Nat.le_of_ble_eq_true rfl⟩) hS (fun q _ h => h) (fun q h => h) (fun r_313 u t H1 locs ht hvm w_312 hB hz1 hk1 hS => ?_)
        have hI : Iv dC dI g A f_4 t.heap := hB
        rw [ht] at hI
        generalize H1 = H at hI hS ⊢
        refine W.widen (k := 0) (n := 0) (Nat.le_of_ble_eq_true rfl) (Nat.le_of_ble_eq_true rfl) ?_
        have w_312 : r_313 = nI (6 + 43 * y_3) := w_312
        refine k_topi (y := nI (6 + 43 * y_3)) w_312 ?_
        refine lv_istore_n (lv' := [(3, .int (nI (6 + 43 * y_3))), (2, .int (nI y_3)), (0, .ref h0), (1, .int p1)]) hx hb dX12_tick_18 rfl hl (by decide) rfl (fun ls hl => ?_)
        refine lv_aload_n hx hb dX12_tick_19 rfl (lv_at hl 2 rfl) ?_
        refine k_get (ci := 12) (v := .ref (gr g h0 4)) (C := RX12) (T := TX12) (N := 27) hx hb hts (fun _ h0_ => List.mem_cons_of_mem _ (List.mem_append_right _ (List.mem_append_left _ h0_))) hown hK hI i_h0.1 k_8 rfl 4 (by decide) (hts (.fieldLink RX12 16 "DeadlineShareModel" "row" "[J") (List.mem_cons_of_mem _ (List.mem_append_left _ (List.mem_of_getElem? (i := 0) rfl)))) (fun _ h9 => h9) rfl dX12_tick_20 ?_
        refine lv_iload_n hx hb dX12_tick_23 rfl (lv_at hl 0 rfl) ?_
        refine lv_bipush (v := 40) hx hb dX12_tick_24 (by decide) ?_
        refine lv_iadd hx hb dX12_tick_26 ?_
        refine k_topi (y := nI (6 + 43 * y_3 + 40)) ((nI_add (6 + 43 * y_3) 40).trans (congrArg nI (by omega))) ?_
        refine lv_aload_n hx hb dX12_tick_27 rfl (lv_at hl 2 rfl) ?_
        refine k_get (ci := 12) (v := .ref (gr g h0 4)) (C := RX12) (T := TX12) (N := 27) hx hb hts (fun _ h0_ => List.mem_cons_of_mem _ (List.mem_append_right _ (List.mem_append_left _ h0_))) hown hK hI i_h0.1 k_8 rfl 4 (by decide) (hts (.fieldLink RX12 16 "DeadlineShareModel" "row" "[J") (List.mem_cons_of_mem _ (List.mem_append_left _ (List.mem_of_getElem? (i := 0) rfl)))) (fun _ h9 => h9) rfl dX12_tick_28 ?_
        refine lv_iload_n hx hb dX12_tick_31 rfl (lv_at hl 0 rfl) ?_
        refine lv_bipush (v := 41) hx hb dX12_tick_32 (by decide) ?_
        refine lv_iadd hx hb dX12_tick_34 ?_
        refine k_topi (y := nI (6 + 43 * y_3 + 41)) ((nI_add (6 + 43 * y_3) 41).trans (congrArg nI (by omega))) ?_
        refine k_lald hx hb hK hI i_1.1 1 k_6 rfl (vp_in_nI (by omega) (by omega)) dX12_tick_35 ?_
        refine k_topl (y := q_5 (6 + 43 * y_3 + 41)) (congrArg q_5 (nI_clamp (by omega))) ?_
        have d_318 := rk_41 ok_7 (t := y_3) (by omega)
        refine lv_lconst (v := 0) hx hb dX12_tick_36 (by decide) ?_
        refine W.lcmp hx hb dX12_tick_37 ?_
        have J_83 : ∀ (y_319 : Int64) (H : Heap) (locs : List Loc) (ls : Array Slot), Iv dC dI g A f_4 H → va_S A s.heap H locs → lv_has ls 4 [(3, .int (nI (6 + 43 * y_3))), (2, .int (nI y_3)), (0, .ref h0), (1, .int p1)] → W p l e (headSpec wq_c_X12_tick ({ frames := 7, cells := 0, slots := 0, locals := 164 } : Room)).room s m ([.ref h0, .int p1].toArray) below meth c H locs 0 0 (MQ below (va_Qi (fun (r : Int32) (_ : Unit) => -1 ≤ r.toInt ∧ r.toInt < (q 0).toInt) (fun (_ : Unit) t => ∃ f1 : Nat → va_E, Iv dC dI g A f1 t.heap ∧ Kp g [12, 32] f f1 ∧ ∃ (w24 : Int64) (q1 : Nat → Int64), (f1 h0 = .inr (12, [.int z0, .int z1, .ref (gr g h0 2), .ref (gr g h0 3), .ref (gr g h0 4), .ref (gr g h0 5), .ref (gr g h0 6), .ref (gr g h0 7), .ref (gr g h0 8), .ref (gr g h0 9), .int z10, .ref (gr g h0 11), .int z12, .int z13, .int z14, .int z15, .long z16, .int z17, .int z18, .ref (gr g h0 19), .ref (gr g h0 20), .ref (gr g h0 21), .ref (gr g h0 22), .int z23, .long w24, .long z25, .long z26])) ∧ (f1 (gr g h0 4) = .inl (gc g 1, 906, .inr (.inl q1))) ∧ (RowOK q1) ∧ ((q1 0).toInt = (q 0).toInt) ∧ ((q1 1).toInt = (q 1).toInt + 1)) A) ([.ref h0, .int p1].toArray) s 0 0 A) (F0 m 83 ls [.long y_319, .int (nI (6 + 43 * y_3 + 40)), .ref (gr g h0 4)]) := by
          intro y_319 H locs ls hI hS  hl
          refine k_last hx hb hK hI hS i_1.1 1 k_6 rfl (vp_in_nI (by omega) (by omega)) (cl_32 i_1) dX12_tick_83 (fun f_320 H locs e_321 hI hS => ?_)
          generalize eq_322 : vp_updL q_5 (Int32.toNatClampNeg (nI (6 + 43 * y_3 + 40))) y_319 = q_322 at e_321
          have k_324 : f_320 (gr g h0 4) = .inl (gc g 1, 906, .inr (.inl q_322)) := by rw [e_321]; exact va_up_self _ _ _
          have k_325 : f_320 h0 = .inr (12, [.int z0, .int z1, .ref (gr g h0 2), .ref (gr g h0 3), .ref (gr g h0 4), .ref (gr g h0 5), .ref (gr g h0 6), .ref (gr g h0 7), .ref (gr g h0 8), .ref (gr g h0 9), .int z10, .ref (gr g h0 11), .int z12, .int z13, .int z14, .int z15, .long z16, .int z17, .int z18, .ref (gr g h0 19), .ref (gr g h0 20), .ref (gr g h0 21), .ref (gr g h0 22), .int z23, .long z24, .long z25, .long z26]) := by rw [e_321, va_up_ne _ _ (ik_ne i_h0 i_1 (by decide))]; exact k_8
          have kp_323 := Kp.put kp_9 i_1 (by decide) e_321
          have u_326 : vp_updL q_5 (6 + 43 * y_3 + 40) y_319 = q_322 := by rw [← eq_322, show Int32.toNatClampNeg (nI (6 + 43 * y_3 + 40)) = 6 + 43 * y_3 + 40 from (nI_clamp (by omega))]
          have ok_327 : RowOK q_322 := by rw [← u_326]; exact rk_upd ok_7 (by refine ⟨⟨by omega, by omega, by omega, by omega, by omega⟩, fun t9 ht9 => ⟨by omega, by omega, by omega, by omega, by omega, by omega⟩, fun t9 k9 ht9 hk9 => ⟨by omega, by omega, by omega⟩, by omega⟩)
          have d_328 := rk_hd ok_327
          have n_329 : (q_322 0).toInt = (q_5 0).toInt := by rw [← u_326, pk_uLn (by omega)]
          have n_330 : (q_322 1).toInt = (q_5 1).toInt := by rw [← u_326, pk_uLn (by omega)]
          have n_331 : (q_322 3).toInt = (q_5 3).toInt := by rw [← u_326, pk_uLn (by omega)]
          have n_332 : (q_322 4).toInt = (q_5 4).toInt := by rw [← u_326, pk_uLn (by omega)]
          have n_333 : (q_322 5).toInt = (q_5 5).toInt := by rw [← u_326, pk_uLn (by omega)]
          refine lv_iinc (v := nI (y_3 + 1)) (lv' := [(2, .int (nI (y_3 + 1))), (3, .int (nI (6 + 43 * y_3))), (0, .ref h0), (1, .int p1)]) hx hb dX12_tick_84 hl (k := 1) rfl (nI_1 _) (by decide) rfl (fun ls hl => ?_)
          refine lv_goto (tgt := 2) hx hb dX12_tick_87 (by decide) ?_
          exact ih (y_3 + 1) q_322 f_320 _ _ _ (by omega) hI hS k_324 ok_327 k_325 kp_323 (by first | omega | decide) (by first | omega | decide) (by first | omega | decide) (lv_sub hl [0, 2, 3] rfl)
        have J_74 : ∀ (H : Heap) (locs : List Loc) (ls : Array Slot), Iv dC dI g A f_4 H → va_S A s.heap H locs → lv_has ls 4 [(3, .int (nI (6 + 43 * y_3))), (2, .int (nI y_3)), (0, .ref h0), (1, .int p1)] → W p l e (headSpec wq_c_X12_tick ({ frames := 7, cells := 0, slots := 0, locals := 164 } : Room)).room s m ([.ref h0, .int p1].toArray) below meth c H locs 0 0 (MQ below (va_Qi (fun (r : Int32) (_ : Unit) => -1 ≤ r.toInt ∧ r.toInt < (q 0).toInt) (fun (_ : Unit) t => ∃ f1 : Nat → va_E, Iv dC dI g A f1 t.heap ∧ Kp g [12, 32] f f1 ∧ ∃ (w24 : Int64) (q1 : Nat → Int64), (f1 h0 = .inr (12, [.int z0, .int z1, .ref (gr g h0 2), .ref (gr g h0 3), .ref (gr g h0 4), .ref (gr g h0 5), .ref (gr g h0 6), .ref (gr g h0 7), .ref (gr g h0 8), .ref (gr g h0 9), .int z10, .ref (gr g h0 11), .int z12, .int z13, .int z14, .int z15, .long z16, .int z17, .int z18, .ref (gr g h0 19), .ref (gr g h0 20), .ref (gr g h0 21), .ref (gr g h0 22), .int z23, .long w24, .long z25, .long z26])) ∧ (f1 (gr g h0 4) = .inl (gc g 1, 906, .inr (.inl q1))) ∧ (RowOK q1) ∧ ((q1 0).toInt = (q 0).toInt) ∧ ((q1 1).toInt = (q 1).toInt + 1)) A) ([.ref h0, .int p1].toArray) s 0 0 A) (F0 m 74 ls [.int (nI (6 + 43 * y_3 + 40)), .ref (gr g h0 4)]) := by
          intro H locs ls hI hS  hl
          refine lv_aload_n hx hb dX12_tick_74 rfl (lv_at hl 2 rfl) ?_
          refine k_get (ci := 12) (v := .ref (gr g h0 4)) (C := RX12) (T := TX12) (N := 27) hx hb hts (fun _ h0_ => List.mem_cons_of_mem _ (List.mem_append_right _ (List.mem_append_left _ h0_))) hown hK hI i_h0.1 k_8 rfl 4 (by decide) (hts (.fieldLink RX12 16 "DeadlineShareModel" "row" "[J") (List.mem_cons_of_mem _ (List.mem_append_left _ (List.mem_of_getElem? (i := 0) rfl)))) (fun _ h9 => h9) rfl dX12_tick_75 ?_
          refine lv_iload_n hx hb dX12_tick_78 rfl (lv_at hl 0 rfl) ?_
          refine lv_bipush (v := 40) hx hb dX12_tick_79 (by decide) ?_
          refine lv_iadd hx hb dX12_tick_81 ?_
          refine k_topi (y := nI (6 + 43 * y_3 + 40)) ((nI_add (6 + 43 * y_3) 40).trans (congrArg nI (by omega))) ?_
          refine k_lald hx hb hK hI i_1.1 1 k_6 rfl (vp_in_nI (by omega) (by omega)) dX12_tick_82 ?_
          refine k_topl (y := q_5 (6 + 43 * y_3 + 40)) (congrArg q_5 (nI_clamp (by omega))) ?_
          exact J_83 (q_5 (6 + 43 * y_3 + 40)) _ _ _ hI hS  (lv_sub hl [0, 1, 2, 3] rfl)
        refine lv_if_le (tgt := 74) hx hb dX12_tick_38 (by decide) (fun c_336 => ?_) (fun c_336 => ?_)
        · have c_336 := lc_le rfl (by decide : Int64.toInt 0 = 0) ((lg_cmp_le _ _).mp c_336)
          exact J_74  _ _ _ hI hS  (lv_sub hl [0, 1, 2, 3] rfl)
        · have c_336 := ln_le rfl (by decide : Int64.toInt 0 = 0) (fun h9 => c_336 ((lg_cmp_le _ _).mpr h9))
          refine lv_aload_n hx hb dX12_tick_41 rfl (lv_at hl 2 rfl) ?_
          refine k_get (ci := 12) (v := .ref (gr g h0 4)) (C := RX12) (T := TX12) (N := 27) hx hb hts (fun _ h0_ => List.mem_cons_of_mem _ (List.mem_append_right _ (List.mem_append_left _ h0_))) hown hK hI i_h0.1 k_8 rfl 4 (by decide) (hts (.fieldLink RX12 16 "DeadlineShareModel" "row" "[J") (List.mem_cons_of_mem _ (List.mem_append_left _ (List.mem_of_getElem? (i := 0) rfl)))) (fun _ h9 => h9) rfl dX12_tick_42 ?_
          refine lv_iconst (v := 1) hx hb dX12_tick_45 (by decide) ?_
          refine k_lald hx hb hK hI i_1.1 1 k_6 rfl (by unfold vp_in; decide) dX12_tick_46 ?_
          refine k_topl (y := q_5 1) (congrArg q_5 (show Int32.toNatClampNeg 1 = 1 by decide)) ?_
          refine lv_aload_n hx hb dX12_tick_47 rfl (lv_at hl 2 rfl) ?_
          refine k_get (ci := 12) (v := .ref (gr g h0 4)) (C := RX12) (T := TX12) (N := 27) hx hb hts (fun _ h0_ => List.mem_cons_of_mem _ (List.mem_append_right _ (List.mem_append_left _ h0_))) hown hK hI i_h0.1 k_8 rfl 4 (by decide) (hts (.fieldLink RX12 16 "DeadlineShareModel" "row" "[J") (List.mem_cons_of_mem _ (List.mem_append_left _ (List.mem_of_getElem? (i := 0) rfl)))) (fun _ h9 => h9) rfl dX12_tick_48 ?_
          refine lv_iload_n hx hb dX12_tick_51 rfl (lv_at hl 0 rfl) ?_
          refine lv_bipush (v := 42) hx hb dX12_tick_52 (by decide) ?_
          refine lv_iadd hx hb dX12_tick_54 ?_
          refine k_topi (y := nI (6 + 43 * y_3 + 42)) ((nI_add (6 + 43 * y_3) 42).trans (congrArg nI (by omega))) ?_
          refine k_lald hx hb hK hI i_1.1 1 k_6 rfl (vp_in_nI (by omega) (by omega)) dX12_tick_55 ?_
          refine k_topl (y := q_5 (6 + 43 * y_3 + 42)) (congrArg q_5 (nI_clamp (by omega))) ?_
          have d_341 := rk_41 ok_7 (t := y_3) (by omega)
          refine lv_lrem hx hb dX12_tick_56 (k_ne0L (by omega)) ?_
          refine lv_topl (fun v_342 ev_342 => ?_)
          refine lv_lconst (v := 0) hx hb dX12_tick_57 (by decide) ?_
          refine W.lcmp hx hb dX12_tick_58 ?_
          refine lv_if_ne (tgt := 74) hx hb dX12_tick_59 (by decide) (fun c_343 => ?_) (fun c_343 => ?_)
          · have c_343 := ln_eq rfl (by decide : Int64.toInt 0 = 0) (fun h9 => c_343 ((lg_cmp_eq _ _).mpr h9))
            exact J_74  _ _ _ hI hS  (lv_sub hl [0, 1, 2, 3] rfl)
          · have c_343 := lc_eq rfl (by decide : Int64.toInt 0 = 0) ((lg_cmp_eq _ _).mp c_343)
            refine lv_aload_n hx hb dX12_tick_62 rfl (lv_at hl 2 rfl) ?_
            refine k_get (ci := 12) (v := .ref (gr g h0 4)) (C := RX12) (T := TX12) (N := 27) hx hb hts (fun _ h0_ => List.mem_cons_of_mem _ (List.mem_append_right _ (List.mem_append_left _ h0_))) hown hK hI i_h0.1 k_8 rfl 4 (by decide) (hts (.fieldLink RX12 16 "DeadlineShareModel" "row" "[J") (List.mem_cons_of_mem _ (List.mem_append_left _ (List.mem_of_getElem? (i := 0) rfl)))) (fun _ h9 => h9) rfl dX12_tick_63 ?_
            refine lv_iload_n hx hb dX12_tick_66 rfl (lv_at hl 0 rfl) ?_
            refine lv_bipush (v := 41) hx hb dX12_tick_67 (by decide) ?_
            refine lv_iadd hx hb dX12_tick_69 ?_
            refine k_topi (y := nI (6 + 43 * y_3 + 41)) ((nI_add (6 + 43 * y_3) 41).trans (congrArg nI (by omega))) ?_
            refine k_lald hx hb hK hI i_1.1 1 k_6 rfl (vp_in_nI (by omega) (by omega)) dX12_tick_70 ?_
            refine k_topl (y := q_5 (6 + 43 * y_3 + 41)) (congrArg q_5 (nI_clamp (by omega))) ?_
            have d_346 := rk_41 ok_7 (t := y_3) (by omega)
            refine lv_goto (tgt := 83) hx hb dX12_tick_71 (by decide) ?_
            exact J_83 (q_5 (6 + 43 * y_3 + 41)) _ _ _ hI hS  (lv_sub hl [0, 1, 2, 3] rfl)
  exact K_2 _ 0 q f _ _ _ (Nat.lt_succ_self _) hI hS hc1 hc1_ok hc0 hk0 (by first | omega | decide) (by first | omega | decide) (by first | omega | decide) (lv_sub hl [0, 1, 2] rfl)
theorem tw_865 : q_g (.constantLong RX12 195 (96)) := ⟨(List.mem_append_right _ (List.mem_of_getElem? (i := 1353) (by decide +kernel))), good_of_word (by decide +kernel)⟩
theorem tw_866 : q_g (.constantLong RX12 193 (32)) := ⟨(List.mem_append_right _ (List.mem_of_getElem? (i := 1352) (by decide +kernel))), good_of_word (by decide +kernel)⟩
theorem tw_867 : q_g (.static yX12_isSmall) := ⟨(List.mem_append_right _ (List.mem_of_getElem? (i := 1347) (by decide +kernel))), good_of_word (by decide +kernel)⟩
theorem tw_868 : q_g (.methodLink RX12 184 yX12_isSmall) := ⟨(List.mem_append_right _ (List.mem_of_getElem? (i := 1346) (by decide +kernel))), good_of_word (by decide +kernel)⟩
theorem tw_869 : q_g (.constantLong RX12 199 (48)) := ⟨(List.mem_append_right _ (List.mem_of_getElem? (i := 1355) (by decide +kernel))), good_of_word (by decide +kernel)⟩
theorem tw_870 : q_g (.constantLong RX12 197 (10)) := ⟨(List.mem_append_right _ (List.mem_of_getElem? (i := 1354) (by decide +kernel))), good_of_word (by decide +kernel)⟩
theorem tw_871 : q_g (.constantLong RX12 126 (1000000)) := ⟨(List.mem_append_right _ (List.mem_of_getElem? (i := 1200) (by decide +kernel))), good_of_word (by decide +kernel)⟩
theorem tw_872 : q_g (.static yX12_isDigit) := ⟨(List.mem_append_right _ (List.mem_of_getElem? (i := 1350) (by decide +kernel))), good_of_word (by decide +kernel)⟩
theorem tw_873 : q_g (.methodLink RX12 187 yX12_isDigit) := ⟨(List.mem_append_right _ (List.mem_of_getElem? (i := 1349) (by decide +kernel))), good_of_word (by decide +kernel)⟩
theorem tw_874 : q_g (.fieldLink RX12 190 "DeadlineShareModel" "sort" "I") := ⟨(List.mem_append_right _ (List.mem_of_getElem? (i := 1112) (by decide +kernel))), good_of_word (by decide +kernel)⟩
theorem tw_875 : q_g (.fieldLink RX12 180 "DeadlineShareModel" "worth" "J") := ⟨(List.mem_append_right _ (List.mem_of_getElem? (i := 1113) (by decide +kernel))), good_of_word (by decide +kernel)⟩
theorem tw_876 : q_g (.fieldLink RX12 177 "DeadlineShareModel" "from" "I") := ⟨(List.mem_append_right _ (List.mem_of_getElem? (i := 1110) (by decide +kernel))), good_of_word (by decide +kernel)⟩
theorem tw_877 : q_g (.fieldLink RX12 174 "DeadlineShareModel" "to" "I") := ⟨(List.mem_append_right _ (List.mem_of_getElem? (i := 1111) (by decide +kernel))), good_of_word (by decide +kernel)⟩
theorem tw_878 : q_g (.code yX12_next cX12_next 1 none) := ⟨(List.mem_append_right _ (List.mem_of_getElem? (i := 1345) (by decide +kernel))), good_of_word (by decide +kernel)⟩
def ow_c_X12_next : List Cond := [.fieldLink RX12 174 "DeadlineShareModel" "to" "I", .fieldLink RX12 177 "DeadlineShareModel" "from" "I", .fieldLink RX12 128 "DeadlineShareModel" "taped" "I", .fieldLink RX12 180 "DeadlineShareModel" "worth" "J", .fieldLink RX12 190 "DeadlineShareModel" "sort" "I", .fieldLink RX12 36 "DeadlineShareModel" "tape" "[I", .methodLink RX12 187 yX12_isDigit, .static yX12_isDigit, .initialized RX12, .constantLong RX12 126 (1000000), .constantLong RX12 197 (10), .constantLong RX12 199 (48), .methodLink RX12 184 yX12_isSmall, .static yX12_isSmall, .constantLong RX12 65 (-1), .constantLong RX12 193 (32), .constantLong RX12 195 (96)]
def wq_c_X12_next : List Cond := .code yX12_next cX12_next 1 none :: (ow_c_X12_next ++ (u_ws RX12 TX12 27 ++ (wq_c_X12_isDigit ++ (wq_c_X12_isSmall ++ ([] : List Cond)))))
theorem tb_c_X12_next : ∀ w ∈ wq_c_X12_next, q_g w := by
  unfold wq_c_X12_next ow_c_X12_next
  exact q_cons tw_878 (q_app (q_cons tw_877 (q_cons tw_876 (q_cons tw_809 (q_cons tw_875 (q_cons tw_874 (q_cons tw_810 (q_cons tw_873 (q_cons tw_872 (q_cons tw_728 (q_cons tw_871 (q_cons tw_870 (q_cons tw_869 (q_cons tw_868 (q_cons tw_867 (q_cons tw_773 (q_cons tw_866 (q_cons tw_865 q_nil))))))))))))))))) (q_app tu_X12 (q_app tb_c_X12_isDigit (q_app tb_c_X12_isSmall q_nil))))
set_option maxHeartbeats 4000000 in
set_option maxRecDepth 100000 in
theorem c_X12_next (l : Launch) (dC : Nat → ClassId) (dI : Nat → Nat → Nat) (g : kG) (A : Nat → Prop) (hG : kWf g) (f : Nat → va_E) (h0 : Nat) (z0 : Int32) (z1 : Int32) (z10 : Int32) (z12 : Int32) (z13 : Int32) (z14 : Int32) (z15 : Int32) (z16 : Int64) (z17 : Int32) (z18 : Int32) (z23 : Int32) (z24 : Int64) (z25 : Int64) (z26 : Int64) (i_h0 : ik g 12 h0) (hc0 : f h0 = .inr (12, [.int z0, .int z1, .ref (gr g h0 2), .ref (gr g h0 3), .ref (gr g h0 4), .ref (gr g h0 5), .ref (gr g h0 6), .ref (gr g h0 7), .ref (gr g h0 8), .ref (gr g h0 9), .int z10, .ref (gr g h0 11), .int z12, .int z13, .int z14, .int z15, .long z16, .int z17, .int z18, .ref (gr g h0 19), .ref (gr g h0 20), .ref (gr g h0 21), .ref (gr g h0 22), .int z23, .long z24, .long z25, .long z26])) (hc0_10 : 0 ≤ z10.toInt ∧ z10.toInt ≤ 10) (hc0_12 : 0 ≤ z12.toInt ∧ z12.toInt ≤ 200) (hc0_23 : 0 ≤ z23.toInt ∧ z23.toInt ≤ 8) (ht9 : 0 ≤ z14.toInt ∧ z14.toInt ≤ z12.toInt) : Met l yX12_next wq_c_X12_next ({ frames := 1, cells := 0, slots := 0, locals := 20 } : Room) (va_Pc [.ref h0] (fun U => kIn dC dI g A f U)) (va_Qv (fun (_ : Unit) => True) (fun (_ : Unit) t => ∃ f1 : Nat → va_E, Iv dC dI g A f1 t.heap ∧ Kp g [12] f f1 ∧ ∃ (w13 : Int32) (w14 : Int32) (w15 : Int32) (w16 : Int64), (f1 h0 = .inr (12, [.int z0, .int z1, .ref (gr g h0 2), .ref (gr g h0 3), .ref (gr g h0 4), .ref (gr g h0 5), .ref (gr g h0 6), .ref (gr g h0 7), .ref (gr g h0 8), .ref (gr g h0 9), .int z10, .ref (gr g h0 11), .int z12, .int w13, .int w14, .int w15, .long w16, .int z17, .int z18, .ref (gr g h0 19), .ref (gr g h0 20), .ref (gr g h0 21), .ref (gr g h0 22), .int z23, .long z24, .long z25, .long z26])) ∧ (0 ≤ w14.toInt ∧ w14.toInt ≤ z12.toInt)) A) 0 0 A := by
  refine Met.ofW (cc := cX12_next) (maxL := 1) (ret := none) (by decide) rfl ?_
  intro p e s m args below meth c s₁ B hml hv
  obtain ⟨rfl, hI, hK, hE⟩ := hv
  have hx := B.exec
  have hb := B.bytes
  have hr := B.returns
  have hts := atoms_spec (ws := wq_c_X12_next) B.pre
  have hown : s.vm.findClass RX12 = some m.cls := findClass_of_methodNamed B.named
  have hlocks := B.notSynchronized
  have hS : va_S A s.heap s.heap [] := va_S.rf
  have hk0 : Kp g [12] f f := Kp.rf
  have hl := lv_entry ([.ref h0]) (n := 1) (Nat.le_of_ble_eq_true rfl)
  rw [lg_entry_eq]
  generalize (lg_sl ([.ref h0]) ++ List.replicate (1 - (lg_sl ([.ref h0])).length) Slot.unset).toArray = ls at hl ⊢
  have hl : lv_has ls 1 [(0, .ref h0)] := hl
  refine lv_aload_n hx hb dX12_next_0 rfl (lv_at hl 0 rfl) ?_
  refine lv_aload_n hx hb dX12_next_1 rfl (lv_at hl 0 rfl) ?_
  refine k_get (ci := 12) (v := .int z14) (C := RX12) (T := TX12) (N := 27) hx hb hts (fun _ h0_ => List.mem_cons_of_mem _ (List.mem_append_right _ (List.mem_append_left _ h0_))) hown hK hI i_h0.1 hc0 rfl 14 (by decide) (hts (.fieldLink RX12 174 "DeadlineShareModel" "to" "I") (List.mem_cons_of_mem _ (List.mem_append_left _ (List.mem_of_getElem? (i := 0) rfl)))) (fun _ h9 => h9) rfl dX12_next_2 ?_
  refine k_put (ci := 12) (v := .int z14) (ty := .int) (C := RX12) (T := TX12) (N := 27) hx hb hts (fun _ h0_ => List.mem_cons_of_mem _ (List.mem_append_right _ (List.mem_append_left _ h0_))) tyX12 tyX12_ok nmX12 hown hK hI hS i_h0.1 hc0 rfl 13 (by decide) (hts (.fieldLink RX12 177 "DeadlineShareModel" "from" "I") (List.mem_cons_of_mem _ (List.mem_append_left _ (List.mem_of_getElem? (i := 1) rfl)))) (fun _ h9 => h9) rfl (by decide +kernel) rfl rfl (Nat.le_of_ble_eq_true rfl) rfl (cl_12 i_h0 (by omega) (by omega) (by omega)) dX12_next_5 (fun f_1 H locs e_2 hI hS => ?_)
  have k_4 : f_1 h0 = .inr (12, [.int z0, .int z1, .ref (gr g h0 2), .ref (gr g h0 3), .ref (gr g h0 4), .ref (gr g h0 5), .ref (gr g h0 6), .ref (gr g h0 7), .ref (gr g h0 8), .ref (gr g h0 9), .int z10, .ref (gr g h0 11), .int z12, .int z14, .int z14, .int z15, .long z16, .int z17, .int z18, .ref (gr g h0 19), .ref (gr g h0 20), .ref (gr g h0 21), .ref (gr g h0 22), .int z23, .long z24, .long z25, .long z26]) := by rw [e_2]; exact va_up_self _ _ _
  have kp_3 := Kp.put hk0 i_h0 (by decide) e_2
  have K_8 : ∀ (nn : Nat) (y_6 : Int32) (f_5 : Nat → va_E) (H : Heap) (locs : List Loc) (ls : Array Slot), (z12.toInt - y_6.toInt).toNat < nn → Iv dC dI g A f_5 H → va_S A s.heap H locs → f_5 h0 = .inr (12, [.int z0, .int z1, .ref (gr g h0 2), .ref (gr g h0 3), .ref (gr g h0 4), .ref (gr g h0 5), .ref (gr g h0 6), .ref (gr g h0 7), .ref (gr g h0 8), .ref (gr g h0 9), .int z10, .ref (gr g h0 11), .int z12, .int y_6, .int z14, .int z15, .long z16, .int z17, .int z18, .ref (gr g h0 19), .ref (gr g h0 20), .ref (gr g h0 21), .ref (gr g h0 22), .int z23, .long z24, .long z25, .long z26]) → Kp g [12] f f_5 → (0 ≤ y_6.toInt ∧ y_6.toInt ≤ z12.toInt) → lv_has ls 1 [(0, .ref h0)] → W p l e (headSpec wq_c_X12_next ({ frames := 1, cells := 0, slots := 0, locals := 20 } : Room)).room s m ([.ref h0].toArray) below meth c H locs 0 0 (MQ below (va_Qv (fun (_ : Unit) => True) (fun (_ : Unit) t => ∃ f1 : Nat → va_E, Iv dC dI g A f1 t.heap ∧ Kp g [12] f f1 ∧ ∃ (w13 : Int32) (w14 : Int32) (w15 : Int32) (w16 : Int64), (f1 h0 = .inr (12, [.int z0, .int z1, .ref (gr g h0 2), .ref (gr g h0 3), .ref (gr g h0 4), .ref (gr g h0 5), .ref (gr g h0 6), .ref (gr g h0 7), .ref (gr g h0 8), .ref (gr g h0 9), .int z10, .ref (gr g h0 11), .int z12, .int w13, .int w14, .int w15, .long w16, .int z17, .int z18, .ref (gr g h0 19), .ref (gr g h0 20), .ref (gr g h0 21), .ref (gr g h0 22), .int z23, .long z24, .long z25, .long z26])) ∧ (0 ≤ w14.toInt ∧ w14.toInt ≤ z12.toInt)) A) ([.ref h0].toArray) s 0 0 A) (F0 m 8 ls []) := by
    intro nn
    induction nn with
    | zero => intro y_6 f_5 H locs ls m_10; exact absurd m_10 (Nat.not_lt_zero _)
    | succ nn ih =>
      intro y_6 f_5 H locs ls m_10 hI hS k_7 kp_8 t_9 hl
      have g_11 := Int32.toInt_lt y_6
      have g_12 := Int32.le_toInt y_6
      have g_13 := Int32.toInt_lt z12
      have g_14 := Int32.le_toInt z12
      refine lv_aload_n hx hb dX12_next_8 rfl (lv_at hl 0 rfl) ?_
      refine k_get (ci := 12) (v := .int y_6) (C := RX12) (T := TX12) (N := 27) hx hb hts (fun _ h0_ => List.mem_cons_of_mem _ (List.mem_append_right _ (List.mem_append_left _ h0_))) hown hK hI i_h0.1 k_7 rfl 13 (by decide) (hts (.fieldLink RX12 177 "DeadlineShareModel" "from" "I") (List.mem_cons_of_mem _ (List.mem_append_left _ (List.mem_of_getElem? (i := 1) rfl)))) (fun _ h9 => h9) rfl dX12_next_9 ?_
      refine lv_aload_n hx hb dX12_next_12 rfl (lv_at hl 0 rfl) ?_
      refine k_get (ci := 12) (v := .int z12) (C := RX12) (T := TX12) (N := 27) hx hb hts (fun _ h0_ => List.mem_cons_of_mem _ (List.mem_append_right _ (List.mem_append_left _ h0_))) hown hK hI i_h0.1 k_7 rfl 12 (by decide) (hts (.fieldLink RX12 128 "DeadlineShareModel" "taped" "I") (List.mem_cons_of_mem _ (List.mem_append_left _ (List.mem_of_getElem? (i := 2) rfl)))) (fun _ h9 => h9) rfl dX12_next_13 ?_
      have J_46 : ∀ (H : Heap) (locs : List Loc) (ls : Array Slot), Iv dC dI g A f_5 H → va_S A s.heap H locs → lv_has ls 1 [(0, .ref h0)] → W p l e (headSpec wq_c_X12_next ({ frames := 1, cells := 0, slots := 0, locals := 20 } : Room)).room s m ([.ref h0].toArray) below meth c H locs 0 0 (MQ below (va_Qv (fun (_ : Unit) => True) (fun (_ : Unit) t => ∃ f1 : Nat → va_E, Iv dC dI g A f1 t.heap ∧ Kp g [12] f f1 ∧ ∃ (w13 : Int32) (w14 : Int32) (w15 : Int32) (w16 : Int64), (f1 h0 = .inr (12, [.int z0, .int z1, .ref (gr g h0 2), .ref (gr g h0 3), .ref (gr g h0 4), .ref (gr g h0 5), .ref (gr g h0 6), .ref (gr g h0 7), .ref (gr g h0 8), .ref (gr g h0 9), .int z10, .ref (gr g h0 11), .int z12, .int w13, .int w14, .int w15, .long w16, .int z17, .int z18, .ref (gr g h0 19), .ref (gr g h0 20), .ref (gr g h0 21), .ref (gr g h0 22), .int z23, .long z24, .long z25, .long z26])) ∧ (0 ≤ w14.toInt ∧ w14.toInt ≤ z12.toInt)) A) ([.ref h0].toArray) s 0 0 A) (F0 m 46 ls []) := by
        intro H locs ls hI hS  hl
        refine lv_aload_n hx hb dX12_next_46 rfl (lv_at hl 0 rfl) ?_
        refine lv_aload_n hx hb dX12_next_47 rfl (lv_at hl 0 rfl) ?_
        refine k_get (ci := 12) (v := .int y_6) (C := RX12) (T := TX12) (N := 27) hx hb hts (fun _ h0_ => List.mem_cons_of_mem _ (List.mem_append_right _ (List.mem_append_left _ h0_))) hown hK hI i_h0.1 k_7 rfl 13 (by decide) (hts (.fieldLink RX12 177 "DeadlineShareModel" "from" "I") (List.mem_cons_of_mem _ (List.mem_append_left _ (List.mem_of_getElem? (i := 1) rfl)))) (fun _ h9 => h9) rfl dX12_next_48 ?_
        refine k_put (ci := 12) (v := .int y_6) (ty := .int) (C := RX12) (T := TX12) (N := 27) hx hb hts (fun _ h0_ => List.mem_cons_of_mem _ (List.mem_append_right _ (List.mem_append_left _ h0_))) tyX12 tyX12_ok nmX12 hown hK hI hS i_h0.1 k_7 rfl 14 (by decide) (hts (.fieldLink RX12 174 "DeadlineShareModel" "to" "I") (List.mem_cons_of_mem _ (List.mem_append_left _ (List.mem_of_getElem? (i := 0) rfl)))) (fun _ h9 => h9) rfl (by decide +kernel) rfl rfl (Nat.le_of_ble_eq_true rfl) rfl (cl_12 i_h0 (by omega) (by omega) (by omega)) dX12_next_51 (fun f_15 H locs e_16 hI hS => ?_)
        have k_18 : f_15 h0 = .inr (12, [.int z0, .int z1, .ref (gr g h0 2), .ref (gr g h0 3), .ref (gr g h0 4), .ref (gr g h0 5), .ref (gr g h0 6), .ref (gr g h0 7), .ref (gr g h0 8), .ref (gr g h0 9), .int z10, .ref (gr g h0 11), .int z12, .int y_6, .int y_6, .int z15, .long z16, .int z17, .int z18, .ref (gr g h0 19), .ref (gr g h0 20), .ref (gr g h0 21), .ref (gr g h0 22), .int z23, .long z24, .long z25, .long z26]) := by rw [e_16]; exact va_up_self _ _ _
        have kp_17 := Kp.put kp_8 i_h0 (by decide) e_16
        refine lv_aload_n hx hb dX12_next_54 rfl (lv_at hl 0 rfl) ?_
        refine lv_lconst (v := 0) hx hb dX12_next_55 (by decide) ?_
        refine k_put (ci := 12) (v := .long 0) (ty := .long) (C := RX12) (T := TX12) (N := 27) hx hb hts (fun _ h0_ => List.mem_cons_of_mem _ (List.mem_append_right _ (List.mem_append_left _ h0_))) tyX12 tyX12_ok nmX12 hown hK hI hS i_h0.1 k_18 rfl 16 (by decide) (hts (.fieldLink RX12 180 "DeadlineShareModel" "worth" "J") (List.mem_cons_of_mem _ (List.mem_append_left _ (List.mem_of_getElem? (i := 3) rfl)))) (fun _ h9 => h9) rfl (by decide +kernel) rfl rfl (Nat.le_of_ble_eq_true rfl) rfl (cl_12 i_h0 (by omega) (by omega) (by omega)) dX12_next_56 (fun f_19 H locs e_20 hI hS => ?_)
        have k_22 : f_19 h0 = .inr (12, [.int z0, .int z1, .ref (gr g h0 2), .ref (gr g h0 3), .ref (gr g h0 4), .ref (gr g h0 5), .ref (gr g h0 6), .ref (gr g h0 7), .ref (gr g h0 8), .ref (gr g h0 9), .int z10, .ref (gr g h0 11), .int z12, .int y_6, .int y_6, .int z15, .long 0, .int z17, .int z18, .ref (gr g h0 19), .ref (gr g h0 20), .ref (gr g h0 21), .ref (gr g h0 22), .int z23, .long z24, .long z25, .long z26]) := by rw [e_20]; exact va_up_self _ _ _
        have kp_21 := Kp.put kp_17 i_h0 (by decide) e_20
        refine lv_aload_n hx hb dX12_next_59 rfl (lv_at hl 0 rfl) ?_
        refine lv_aload_n hx hb dX12_next_60 rfl (lv_at hl 0 rfl) ?_
        refine k_get (ci := 12) (v := .int y_6) (C := RX12) (T := TX12) (N := 27) hx hb hts (fun _ h0_ => List.mem_cons_of_mem _ (List.mem_append_right _ (List.mem_append_left _ h0_))) hown hK hI i_h0.1 k_22 rfl 13 (by decide) (hts (.fieldLink RX12 177 "DeadlineShareModel" "from" "I") (List.mem_cons_of_mem _ (List.mem_append_left _ (List.mem_of_getElem? (i := 1) rfl)))) (fun _ h9 => h9) rfl dX12_next_61 ?_
        refine lv_aload_n hx hb dX12_next_64 rfl (lv_at hl 0 rfl) ?_
        refine k_get (ci := 12) (v := .int z12) (C := RX12) (T := TX12) (N := 27) hx hb hts (fun _ h0_ => List.mem_cons_of_mem _ (List.mem_append_right _ (List.mem_append_left _ h0_))) hown hK hI i_h0.1 k_22 rfl 12 (by decide) (hts (.fieldLink RX12 128 "DeadlineShareModel" "taped" "I") (List.mem_cons_of_mem _ (List.mem_append_left _ (List.mem_of_getElem? (i := 2) rfl)))) (fun _ h9 => h9) rfl dX12_next_65 ?_
        have J_114 : ∀ (y_23 : Int32) (H : Heap) (locs : List Loc) (ls : Array Slot), Iv dC dI g A f_19 H → va_S A s.heap H locs → lv_has ls 1 [(0, .ref h0)] → W p l e (headSpec wq_c_X12_next ({ frames := 1, cells := 0, slots := 0, locals := 20 } : Room)).room s m ([.ref h0].toArray) below meth c H locs 0 0 (MQ below (va_Qv (fun (_ : Unit) => True) (fun (_ : Unit) t => ∃ f1 : Nat → va_E, Iv dC dI g A f1 t.heap ∧ Kp g [12] f f1 ∧ ∃ (w13 : Int32) (w14 : Int32) (w15 : Int32) (w16 : Int64), (f1 h0 = .inr (12, [.int z0, .int z1, .ref (gr g h0 2), .ref (gr g h0 3), .ref (gr g h0 4), .ref (gr g h0 5), .ref (gr g h0 6), .ref (gr g h0 7), .ref (gr g h0 8), .ref (gr g h0 9), .int z10, .ref (gr g h0 11), .int z12, .int w13, .int w14, .int w15, .long w16, .int z17, .int z18, .ref (gr g h0 19), .ref (gr g h0 20), .ref (gr g h0 21), .ref (gr g h0 22), .int z23, .long z24, .long z25, .long z26])) ∧ (0 ≤ w14.toInt ∧ w14.toInt ≤ z12.toInt)) A) ([.ref h0].toArray) s 0 0 A) (F0 m 114 ls [.int y_23, .ref h0]) := by
          intro y_23 H locs ls hI hS  hl
          refine k_put (ci := 12) (v := .int y_23) (ty := .int) (C := RX12) (T := TX12) (N := 27) hx hb hts (fun _ h0_ => List.mem_cons_of_mem _ (List.mem_append_right _ (List.mem_append_left _ h0_))) tyX12 tyX12_ok nmX12 hown hK hI hS i_h0.1 k_22 rfl 15 (by decide) (hts (.fieldLink RX12 190 "DeadlineShareModel" "sort" "I") (List.mem_cons_of_mem _ (List.mem_append_left _ (List.mem_of_getElem? (i := 4) rfl)))) (fun _ h9 => h9) rfl (by decide +kernel) rfl rfl (Nat.le_of_ble_eq_true rfl) rfl (cl_12 i_h0 (by omega) (by omega) (by omega)) dX12_next_114 (fun f_24 H locs e_25 hI hS => ?_)
          have k_27 : f_24 h0 = .inr (12, [.int z0, .int z1, .ref (gr g h0 2), .ref (gr g h0 3), .ref (gr g h0 4), .ref (gr g h0 5), .ref (gr g h0 6), .ref (gr g h0 7), .ref (gr g h0 8), .ref (gr g h0 9), .int z10, .ref (gr g h0 11), .int z12, .int y_6, .int y_6, .int y_23, .long 0, .int z17, .int z18, .ref (gr g h0 19), .ref (gr g h0 20), .ref (gr g h0 21), .ref (gr g h0 22), .int z23, .long z24, .long z25, .long z26]) := by rw [e_25]; exact va_up_self _ _ _
          have kp_26 := Kp.put kp_21 i_h0 (by decide) e_25
          refine lv_aload_n hx hb dX12_next_117 rfl (lv_at hl 0 rfl) ?_
          refine k_get (ci := 12) (v := .int y_23) (C := RX12) (T := TX12) (N := 27) hx hb hts (fun _ h0_ => List.mem_cons_of_mem _ (List.mem_append_right _ (List.mem_append_left _ h0_))) hown hK hI i_h0.1 k_27 rfl 15 (by decide) (hts (.fieldLink RX12 190 "DeadlineShareModel" "sort" "I") (List.mem_cons_of_mem _ (List.mem_append_left _ (List.mem_of_getElem? (i := 4) rfl)))) (fun _ h9 => h9) rfl dX12_next_118 ?_
          refine lv_iconst (v := 3) hx hb dX12_next_121 (by decide) ?_
          refine lv_icmp_ne (tgt := 149) hx hb dX12_next_122 (by decide) (fun c_28 => ?_) (fun c_28 => ?_)
          · have c_28 := kn_eq rfl (by decide : Int32.toInt 3 = 3) c_28
            have K_149 : ∀ (nn : Nat) (y_30 : Int32) (y_31 : Int64) (f_29 : Nat → va_E) (H : Heap) (locs : List Loc) (ls : Array Slot), (z12.toInt - y_30.toInt).toNat < nn → Iv dC dI g A f_29 H → va_S A s.heap H locs → f_29 h0 = .inr (12, [.int z0, .int z1, .ref (gr g h0 2), .ref (gr g h0 3), .ref (gr g h0 4), .ref (gr g h0 5), .ref (gr g h0 6), .ref (gr g h0 7), .ref (gr g h0 8), .ref (gr g h0 9), .int z10, .ref (gr g h0 11), .int z12, .int y_6, .int y_30, .int y_23, .long y_31, .int z17, .int z18, .ref (gr g h0 19), .ref (gr g h0 20), .ref (gr g h0 21), .ref (gr g h0 22), .int z23, .long z24, .long z25, .long z26]) → Kp g [12] f f_29 → (0 ≤ y_30.toInt ∧ y_30.toInt ≤ z12.toInt) → lv_has ls 1 [(0, .ref h0)] → W p l e (headSpec wq_c_X12_next ({ frames := 1, cells := 0, slots := 0, locals := 20 } : Room)).room s m ([.ref h0].toArray) below meth c H locs 0 0 (MQ below (va_Qv (fun (_ : Unit) => True) (fun (_ : Unit) t => ∃ f1 : Nat → va_E, Iv dC dI g A f1 t.heap ∧ Kp g [12] f f1 ∧ ∃ (w13 : Int32) (w14 : Int32) (w15 : Int32) (w16 : Int64), (f1 h0 = .inr (12, [.int z0, .int z1, .ref (gr g h0 2), .ref (gr g h0 3), .ref (gr g h0 4), .ref (gr g h0 5), .ref (gr g h0 6), .ref (gr g h0 7), .ref (gr g h0 8), .ref (gr g h0 9), .int z10, .ref (gr g h0 11), .int z12, .int w13, .int w14, .int w15, .long w16, .int z17, .int z18, .ref (gr g h0 19), .ref (gr g h0 20), .ref (gr g h0 21), .ref (gr g h0 22), .int z23, .long z24, .long z25, .long z26])) ∧ (0 ≤ w14.toInt ∧ w14.toInt ≤ z12.toInt)) A) ([.ref h0].toArray) s 0 0 A) (F0 m 149 ls []) := by
              intro nn
              induction nn with
              | zero => intro y_30 y_31 f_29 H locs ls m_35; exact absurd m_35 (Nat.not_lt_zero _)
              | succ nn ih =>
                intro y_30 y_31 f_29 H locs ls m_35 hI hS k_32 kp_33 t_34 hl
                have g_36 := Int32.toInt_lt y_30
                have g_37 := Int32.le_toInt y_30
                have g_38 := Int32.toInt_lt z12
                have g_39 := Int32.le_toInt z12
                refine lv_aload_n hx hb dX12_next_149 rfl (lv_at hl 0 rfl) ?_
                refine k_get (ci := 12) (v := .int y_23) (C := RX12) (T := TX12) (N := 27) hx hb hts (fun _ h0_ => List.mem_cons_of_mem _ (List.mem_append_right _ (List.mem_append_left _ h0_))) hown hK hI i_h0.1 k_32 rfl 15 (by decide) (hts (.fieldLink RX12 190 "DeadlineShareModel" "sort" "I") (List.mem_cons_of_mem _ (List.mem_append_left _ (List.mem_of_getElem? (i := 4) rfl)))) (fun _ h9 => h9) rfl dX12_next_150 ?_
                refine lv_iconst (v := 1) hx hb dX12_next_153 (by decide) ?_
                refine lv_icmp_ne (tgt := 243) hx hb dX12_next_154 (by decide) (fun c_40 => ?_) (fun c_40 => ?_)
                · have c_40 := kn_eq rfl (by decide : Int32.toInt 1 = 1) c_40
                  have K_243 : ∀ (nn : Nat) (y_42 : Int32) (y_43 : Int64) (f_41 : Nat → va_E) (H : Heap) (locs : List Loc) (ls : Array Slot), (z12.toInt - y_42.toInt).toNat < nn → Iv dC dI g A f_41 H → va_S A s.heap H locs → f_41 h0 = .inr (12, [.int z0, .int z1, .ref (gr g h0 2), .ref (gr g h0 3), .ref (gr g h0 4), .ref (gr g h0 5), .ref (gr g h0 6), .ref (gr g h0 7), .ref (gr g h0 8), .ref (gr g h0 9), .int z10, .ref (gr g h0 11), .int z12, .int y_6, .int y_42, .int y_23, .long y_43, .int z17, .int z18, .ref (gr g h0 19), .ref (gr g h0 20), .ref (gr g h0 21), .ref (gr g h0 22), .int z23, .long z24, .long z25, .long z26]) → Kp g [12] f f_41 → (0 ≤ y_42.toInt ∧ y_42.toInt ≤ z12.toInt) → lv_has ls 1 [(0, .ref h0)] → W p l e (headSpec wq_c_X12_next ({ frames := 1, cells := 0, slots := 0, locals := 20 } : Room)).room s m ([.ref h0].toArray) below meth c H locs 0 0 (MQ below (va_Qv (fun (_ : Unit) => True) (fun (_ : Unit) t => ∃ f1 : Nat → va_E, Iv dC dI g A f1 t.heap ∧ Kp g [12] f f1 ∧ ∃ (w13 : Int32) (w14 : Int32) (w15 : Int32) (w16 : Int64), (f1 h0 = .inr (12, [.int z0, .int z1, .ref (gr g h0 2), .ref (gr g h0 3), .ref (gr g h0 4), .ref (gr g h0 5), .ref (gr g h0 6), .ref (gr g h0 7), .ref (gr g h0 8), .ref (gr g h0 9), .int z10, .ref (gr g h0 11), .int z12, .int w13, .int w14, .int w15, .long w16, .int z17, .int z18, .ref (gr g h0 19), .ref (gr g h0 20), .ref (gr g h0 21), .ref (gr g h0 22), .int z23, .long z24, .long z25, .long z26])) ∧ (0 ≤ w14.toInt ∧ w14.toInt ≤ z12.toInt)) A) ([.ref h0].toArray) s 0 0 A) (F0 m 243 ls []) := by
                    intro nn
                    induction nn with
                    | zero => intro y_42 y_43 f_41 H locs ls m_47; exact absurd m_47 (Nat.not_lt_zero _)
                    | succ nn ih =>
                      intro y_42 y_43 f_41 H locs ls m_47 hI hS k_44 kp_45 t_46 hl
                      have g_48 := Int32.toInt_lt y_42
                      have g_49 := Int32.le_toInt y_42
                      have g_50 := Int32.toInt_lt z12
                      have g_51 := Int32.le_toInt z12
                      refine lv_aload_n hx hb dX12_next_243 rfl (lv_at hl 0 rfl) ?_
                      refine k_get (ci := 12) (v := .int y_23) (C := RX12) (T := TX12) (N := 27) hx hb hts (fun _ h0_ => List.mem_cons_of_mem _ (List.mem_append_right _ (List.mem_append_left _ h0_))) hown hK hI i_h0.1 k_44 rfl 15 (by decide) (hts (.fieldLink RX12 190 "DeadlineShareModel" "sort" "I") (List.mem_cons_of_mem _ (List.mem_append_left _ (List.mem_of_getElem? (i := 4) rfl)))) (fun _ h9 => h9) rfl dX12_next_244 ?_
                      refine lv_iconst (v := 2) hx hb dX12_next_247 (by decide) ?_
                      refine lv_icmp_ne (tgt := 335) hx hb dX12_next_248 (by decide) (fun c_52 => ?_) (fun c_52 => ?_)
                      · have c_52 := kn_eq rfl (by decide : Int32.toInt 2 = 2) c_52
                        exact W.vret hx hb hr (fun t ht hW => ⟨⟨(), rfl, trivial, ⟨f_41, k_ret ht hI, kp_45, y_6, y_42, y_23, y_43, k_44, (by first | omega | decide)⟩⟩, hS.F ht⟩) hS.2.2 dX12_next_335
                      · have c_52 := kc_eq rfl (by decide : Int32.toInt 2 = 2) c_52
                        refine lv_aload_n hx hb dX12_next_251 rfl (lv_at hl 0 rfl) ?_
                        refine k_get (ci := 12) (v := .int y_42) (C := RX12) (T := TX12) (N := 27) hx hb hts (fun _ h0_ => List.mem_cons_of_mem _ (List.mem_append_right _ (List.mem_append_left _ h0_))) hown hK hI i_h0.1 k_44 rfl 14 (by decide) (hts (.fieldLink RX12 174 "DeadlineShareModel" "to" "I") (List.mem_cons_of_mem _ (List.mem_append_left _ (List.mem_of_getElem? (i := 0) rfl)))) (fun _ h9 => h9) rfl dX12_next_252 ?_
                        refine lv_aload_n hx hb dX12_next_255 rfl (lv_at hl 0 rfl) ?_
                        refine k_get (ci := 12) (v := .int z12) (C := RX12) (T := TX12) (N := 27) hx hb hts (fun _ h0_ => List.mem_cons_of_mem _ (List.mem_append_right _ (List.mem_append_left _ h0_))) hown hK hI i_h0.1 k_44 rfl 12 (by decide) (hts (.fieldLink RX12 128 "DeadlineShareModel" "taped" "I") (List.mem_cons_of_mem _ (List.mem_append_left _ (List.mem_of_getElem? (i := 2) rfl)))) (fun _ h9 => h9) rfl dX12_next_256 ?_
                        refine lv_icmp_ge (tgt := 335) hx hb dX12_next_259 (by decide) (fun c_53 => ?_) (fun c_53 => ?_)
                        · have c_53 := kc_le rfl rfl c_53
                          exact W.vret hx hb hr (fun t ht hW => ⟨⟨(), rfl, trivial, ⟨f_41, k_ret ht hI, kp_45, y_6, y_42, y_23, y_43, k_44, (by first | omega | decide)⟩⟩, hS.F ht⟩) hS.2.2 dX12_next_335
                        · have c_53 := kn_le rfl rfl c_53
                          refine lv_aload_n hx hb dX12_next_262 rfl (lv_at hl 0 rfl) ?_
                          refine k_get (ci := 12) (v := .ref (gr g h0 11)) (C := RX12) (T := TX12) (N := 27) hx hb hts (fun _ h0_ => List.mem_cons_of_mem _ (List.mem_append_right _ (List.mem_append_left _ h0_))) hown hK hI i_h0.1 k_44 rfl 11 (by decide) (hts (.fieldLink RX12 36 "DeadlineShareModel" "tape" "[I") (List.mem_cons_of_mem _ (List.mem_append_left _ (List.mem_of_getElem? (i := 5) rfl)))) (fun _ h9 => h9) rfl dX12_next_263 ?_
                          have i_55 := kw_12_11 hG i_h0
                          refine lv_aload_n hx hb dX12_next_266 rfl (lv_at hl 0 rfl) ?_
                          refine k_get (ci := 12) (v := .int y_42) (C := RX12) (T := TX12) (N := 27) hx hb hts (fun _ h0_ => List.mem_cons_of_mem _ (List.mem_append_right _ (List.mem_append_left _ h0_))) hown hK hI i_h0.1 k_44 rfl 14 (by decide) (hts (.fieldLink RX12 174 "DeadlineShareModel" "to" "I") (List.mem_cons_of_mem _ (List.mem_append_left _ (List.mem_of_getElem? (i := 0) rfl)))) (fun _ h9 => h9) rfl dX12_next_267 ?_
                          obtain ⟨q_57, k_56⟩ := op_38 hI i_55
                          refine k_iald hx hb hK hI i_55.1 0 k_56 rfl (vp_in_iff.mpr (by omega)) dX12_next_270 ?_
                          refine lv_topi (fun v_58 ev_58 => ?_)
                          refine va_calli (va_runS (As := [.int v_58]) (rest := []) ⟨hx, hb, hml, hown, hts⟩ (c_X12_isDigit l dC dI g A hG f_41 v_58) (va_cwS 1 hts (gi_S (fun w_ h0_ => ⟨List.mem_cons_of_mem _ (List.mem_append_right _ (List.mem_append_right _ (List.mem_append_left _ h0_))), (tb_c_X12_isDigit w_ h0_).2⟩) (List.mem_cons_of_mem _ (List.mem_append_left _ (List.mem_of_getElem? (i := 6) rfl))) (List.mem_cons_of_mem _ (List.mem_append_left _ (List.mem_of_getElem? (i := 7) rfl))) (List.mem_cons_of_mem _ (List.mem_append_left _ (List.mem_of_getElem? (i := 8) rfl)))) rfl rfl rfl (by decide +kernel) ⟨Nat.le_of_ble_eq_true rfl, Nat.le_of_ble_eq_true rfl⟩) ⟨fun a U g mk q => ⟨q.1, q.2.calling rfl rfl⟩, fun U hU hW => ⟨rfl, kIn.of hI hK hE hS hU hW⟩⟩ rfl rfl hl.1 rfl (lv_room (Nat.le_of_ble_eq_true rfl)) dX12_next_271 ⟨Nat.le_of_ble_eq_true rfl, Nat.le_of_ble_eq_true rfl⟩) hS (fun q _ h => h) (fun q h => h) (fun r_60 u t H1 locs ht hvm w_59 hB hz1 hk1 hS => ?_)
                          have hI : Iv dC dI g A f_41 t.heap := hB
                          rw [ht] at hI
                          generalize H1 = H at hI hS ⊢
                          refine W.widen (k := 0) (n := 0) (Nat.le_of_ble_eq_true rfl) (Nat.le_of_ble_eq_true rfl) ?_
                          refine lv_if_eq (tgt := 335) hx hb dX12_next_274 (by decide) (fun c_61 => ?_) (fun c_61 => ?_)
                          · have c_61 := kc_eq rfl (by decide : Int32.toInt 0 = 0) c_61
                            exact W.vret hx hb hr (fun t ht hW => ⟨⟨(), rfl, trivial, ⟨f_41, k_ret ht hI, kp_45, y_6, y_42, y_23, y_43, k_44, (by first | omega | decide)⟩⟩, hS.F ht⟩) hS.2.2 dX12_next_335
                          · have c_61 := kn_eq rfl (by decide : Int32.toInt 0 = 0) c_61
                            refine lv_aload_n hx hb dX12_next_277 rfl (lv_at hl 0 rfl) ?_
                            refine lv_aload_n hx hb dX12_next_278 rfl (lv_at hl 0 rfl) ?_
                            refine k_get (ci := 12) (v := .long y_43) (C := RX12) (T := TX12) (N := 27) hx hb hts (fun _ h0_ => List.mem_cons_of_mem _ (List.mem_append_right _ (List.mem_append_left _ h0_))) hown hK hI i_h0.1 k_44 rfl 16 (by decide) (hts (.fieldLink RX12 180 "DeadlineShareModel" "worth" "J") (List.mem_cons_of_mem _ (List.mem_append_left _ (List.mem_of_getElem? (i := 3) rfl)))) (fun _ h9 => h9) rfl dX12_next_279 ?_
                            refine lv_ldc2 hx hb hown (hts (.constantLong RX12 126 (1000000)) (List.mem_cons_of_mem _ (List.mem_append_left _ (List.mem_of_getElem? (i := 9) rfl)))) dX12_next_282 ?_
                            refine W.lcmp hx hb dX12_next_285 ?_
                            have J_319 : ∀ (y_62 : Int64) (H : Heap) (locs : List Loc) (ls : Array Slot), Iv dC dI g A f_41 H → va_S A s.heap H locs → lv_has ls 1 [(0, .ref h0)] → W p l e (headSpec wq_c_X12_next ({ frames := 1, cells := 0, slots := 0, locals := 20 } : Room)).room s m ([.ref h0].toArray) below meth c H locs 0 0 (MQ below (va_Qv (fun (_ : Unit) => True) (fun (_ : Unit) t => ∃ f1 : Nat → va_E, Iv dC dI g A f1 t.heap ∧ Kp g [12] f f1 ∧ ∃ (w13 : Int32) (w14 : Int32) (w15 : Int32) (w16 : Int64), (f1 h0 = .inr (12, [.int z0, .int z1, .ref (gr g h0 2), .ref (gr g h0 3), .ref (gr g h0 4), .ref (gr g h0 5), .ref (gr g h0 6), .ref (gr g h0 7), .ref (gr g h0 8), .ref (gr g h0 9), .int z10, .ref (gr g h0 11), .int z12, .int w13, .int w14, .int w15, .long w16, .int z17, .int z18, .ref (gr g h0 19), .ref (gr g h0 20), .ref (gr g h0 21), .ref (gr g h0 22), .int z23, .long z24, .long z25, .long z26])) ∧ (0 ≤ w14.toInt ∧ w14.toInt ≤ z12.toInt)) A) ([.ref h0].toArray) s 0 0 A) (F0 m 319 ls [.long y_62, .ref h0]) := by
                              intro y_62 H locs ls hI hS  hl
                              refine k_put (ci := 12) (v := .long y_62) (ty := .long) (C := RX12) (T := TX12) (N := 27) hx hb hts (fun _ h0_ => List.mem_cons_of_mem _ (List.mem_append_right _ (List.mem_append_left _ h0_))) tyX12 tyX12_ok nmX12 hown hK hI hS i_h0.1 k_44 rfl 16 (by decide) (hts (.fieldLink RX12 180 "DeadlineShareModel" "worth" "J") (List.mem_cons_of_mem _ (List.mem_append_left _ (List.mem_of_getElem? (i := 3) rfl)))) (fun _ h9 => h9) rfl (by decide +kernel) rfl rfl (Nat.le_of_ble_eq_true rfl) rfl (cl_12 i_h0 (by omega) (by omega) (by omega)) dX12_next_319 (fun f_63 H locs e_64 hI hS => ?_)
                              have k_66 : f_63 h0 = .inr (12, [.int z0, .int z1, .ref (gr g h0 2), .ref (gr g h0 3), .ref (gr g h0 4), .ref (gr g h0 5), .ref (gr g h0 6), .ref (gr g h0 7), .ref (gr g h0 8), .ref (gr g h0 9), .int z10, .ref (gr g h0 11), .int z12, .int y_6, .int y_42, .int y_23, .long y_62, .int z17, .int z18, .ref (gr g h0 19), .ref (gr g h0 20), .ref (gr g h0 21), .ref (gr g h0 22), .int z23, .long z24, .long z25, .long z26]) := by rw [e_64]; exact va_up_self _ _ _
                              have k_67 : f_63 (gr g h0 11) = .inl (gc g 0, 200, .inl q_57) := by rw [e_64, va_up_ne _ _ (ik_ne i_55 i_h0 (by decide))]; exact k_56
                              have kp_65 := Kp.put kp_45 i_h0 (by decide) e_64
                              refine lv_aload_n hx hb dX12_next_322 rfl (lv_at hl 0 rfl) ?_
                              refine lv_dup hx hb dX12_next_323 rfl ?_
                              refine k_get (ci := 12) (v := .int y_42) (C := RX12) (T := TX12) (N := 27) hx hb hts (fun _ h0_ => List.mem_cons_of_mem _ (List.mem_append_right _ (List.mem_append_left _ h0_))) hown hK hI i_h0.1 k_66 rfl 14 (by decide) (hts (.fieldLink RX12 174 "DeadlineShareModel" "to" "I") (List.mem_cons_of_mem _ (List.mem_append_left _ (List.mem_of_getElem? (i := 0) rfl)))) (fun _ h9 => h9) rfl dX12_next_324 ?_
                              refine lv_iconst (v := 1) hx hb dX12_next_327 (by decide) ?_
                              refine lv_iadd hx hb dX12_next_328 ?_
                              refine lv_topi (fun v_68 ev_68 => ?_)
                              have tv_68 := k_ad y_42 1
                              rw [← ev_68, show Int32.toInt 1 = 1 from by decide] at tv_68
                              refine k_put (ci := 12) (v := .int v_68) (ty := .int) (C := RX12) (T := TX12) (N := 27) hx hb hts (fun _ h0_ => List.mem_cons_of_mem _ (List.mem_append_right _ (List.mem_append_left _ h0_))) tyX12 tyX12_ok nmX12 hown hK hI hS i_h0.1 k_66 rfl 14 (by decide) (hts (.fieldLink RX12 174 "DeadlineShareModel" "to" "I") (List.mem_cons_of_mem _ (List.mem_append_left _ (List.mem_of_getElem? (i := 0) rfl)))) (fun _ h9 => h9) rfl (by decide +kernel) rfl rfl (Nat.le_of_ble_eq_true rfl) rfl (cl_12 i_h0 (by omega) (by omega) (by omega)) dX12_next_329 (fun f_69 H locs e_70 hI hS => ?_)
                              have k_72 : f_69 h0 = .inr (12, [.int z0, .int z1, .ref (gr g h0 2), .ref (gr g h0 3), .ref (gr g h0 4), .ref (gr g h0 5), .ref (gr g h0 6), .ref (gr g h0 7), .ref (gr g h0 8), .ref (gr g h0 9), .int z10, .ref (gr g h0 11), .int z12, .int y_6, .int v_68, .int y_23, .long y_62, .int z17, .int z18, .ref (gr g h0 19), .ref (gr g h0 20), .ref (gr g h0 21), .ref (gr g h0 22), .int z23, .long z24, .long z25, .long z26]) := by rw [e_70]; exact va_up_self _ _ _
                              have k_73 : f_69 (gr g h0 11) = .inl (gc g 0, 200, .inl q_57) := by rw [e_70, va_up_ne _ _ (ik_ne i_55 i_h0 (by decide))]; exact k_67
                              have kp_71 := Kp.put kp_65 i_h0 (by decide) e_70
                              refine lv_goto (tgt := 243) hx hb dX12_next_332 (by decide) ?_
                              exact ih v_68 y_62 f_69 _ _ _ (by omega) hI hS k_72 kp_71 (by first | omega | decide) (lv_sub hl [0] rfl)
                            refine lv_if_le (tgt := 296) hx hb dX12_next_286 (by decide) (fun c_74 => ?_) (fun c_74 => ?_)
                            · have c_74 := lc_le rfl (by decide : Int64.toInt 1000000 = 1000000) ((lg_cmp_le _ _).mp c_74)
                              refine lv_aload_n hx hb dX12_next_296 rfl (lv_at hl 0 rfl) ?_
                              refine k_get (ci := 12) (v := .long y_43) (C := RX12) (T := TX12) (N := 27) hx hb hts (fun _ h0_ => List.mem_cons_of_mem _ (List.mem_append_right _ (List.mem_append_left _ h0_))) hown hK hI i_h0.1 k_44 rfl 16 (by decide) (hts (.fieldLink RX12 180 "DeadlineShareModel" "worth" "J") (List.mem_cons_of_mem _ (List.mem_append_left _ (List.mem_of_getElem? (i := 3) rfl)))) (fun _ h9 => h9) rfl dX12_next_297 ?_
                              refine lv_ldc2 hx hb hown (hts (.constantLong RX12 197 (10)) (List.mem_cons_of_mem _ (List.mem_append_left _ (List.mem_of_getElem? (i := 10) rfl)))) dX12_next_300 ?_
                              refine lv_lmul hx hb dX12_next_303 ?_
                              refine lv_topl (fun v_75 ev_75 => ?_)
                              refine lv_aload_n hx hb dX12_next_304 rfl (lv_at hl 0 rfl) ?_
                              refine k_get (ci := 12) (v := .ref (gr g h0 11)) (C := RX12) (T := TX12) (N := 27) hx hb hts (fun _ h0_ => List.mem_cons_of_mem _ (List.mem_append_right _ (List.mem_append_left _ h0_))) hown hK hI i_h0.1 k_44 rfl 11 (by decide) (hts (.fieldLink RX12 36 "DeadlineShareModel" "tape" "[I") (List.mem_cons_of_mem _ (List.mem_append_left _ (List.mem_of_getElem? (i := 5) rfl)))) (fun _ h9 => h9) rfl dX12_next_305 ?_
                              refine lv_aload_n hx hb dX12_next_308 rfl (lv_at hl 0 rfl) ?_
                              refine k_get (ci := 12) (v := .int y_42) (C := RX12) (T := TX12) (N := 27) hx hb hts (fun _ h0_ => List.mem_cons_of_mem _ (List.mem_append_right _ (List.mem_append_left _ h0_))) hown hK hI i_h0.1 k_44 rfl 14 (by decide) (hts (.fieldLink RX12 174 "DeadlineShareModel" "to" "I") (List.mem_cons_of_mem _ (List.mem_append_left _ (List.mem_of_getElem? (i := 0) rfl)))) (fun _ h9 => h9) rfl dX12_next_309 ?_
                              refine k_iald hx hb hK hI i_55.1 0 k_56 rfl (vp_in_iff.mpr (by omega)) dX12_next_312 ?_
                              refine lv_topi (fun v_78 ev_78 => ?_)
                              refine lv_i2l (v := v_78.toInt64) hx hb dX12_next_313 rfl ?_
                              have t_79 := Int32.toInt_toInt64 v_78
                              refine lv_ladd hx hb dX12_next_314 ?_
                              refine lv_topl (fun v_80 ev_80 => ?_)
                              have tv_80 := l_ad v_75 v_78.toInt64
                              rw [← ev_80] at tv_80
                              refine lv_ldc2 hx hb hown (hts (.constantLong RX12 199 (48)) (List.mem_cons_of_mem _ (List.mem_append_left _ (List.mem_of_getElem? (i := 11) rfl)))) dX12_next_315 ?_
                              refine lv_lsub hx hb dX12_next_318 ?_
                              refine lv_topl (fun v_81 ev_81 => ?_)
                              have tv_81 := l_sb v_80 48
                              rw [← ev_81, show Int64.toInt 48 = 48 from by decide] at tv_81
                              exact J_319 v_81 _ _ _ hI hS  (lv_sub hl [0] rfl)
                            · have c_74 := ln_le rfl (by decide : Int64.toInt 1000000 = 1000000) (fun h9 => c_74 ((lg_cmp_le _ _).mpr h9))
                              refine lv_aload_n hx hb dX12_next_289 rfl (lv_at hl 0 rfl) ?_
                              refine k_get (ci := 12) (v := .long y_43) (C := RX12) (T := TX12) (N := 27) hx hb hts (fun _ h0_ => List.mem_cons_of_mem _ (List.mem_append_right _ (List.mem_append_left _ h0_))) hown hK hI i_h0.1 k_44 rfl 16 (by decide) (hts (.fieldLink RX12 180 "DeadlineShareModel" "worth" "J") (List.mem_cons_of_mem _ (List.mem_append_left _ (List.mem_of_getElem? (i := 3) rfl)))) (fun _ h9 => h9) rfl dX12_next_290 ?_
                              refine lv_goto (tgt := 319) hx hb dX12_next_293 (by decide) ?_
                              exact J_319 y_43 _ _ _ hI hS  (lv_sub hl [0] rfl)
                  exact K_243 _ y_30 y_31 f_29 _ _ _ (Nat.lt_succ_self _) hI hS k_32 kp_33 (by first | omega | decide) (lv_sub hl [0] rfl)
                · have c_40 := kc_eq rfl (by decide : Int32.toInt 1 = 1) c_40
                  refine lv_aload_n hx hb dX12_next_157 rfl (lv_at hl 0 rfl) ?_
                  refine k_get (ci := 12) (v := .int y_30) (C := RX12) (T := TX12) (N := 27) hx hb hts (fun _ h0_ => List.mem_cons_of_mem _ (List.mem_append_right _ (List.mem_append_left _ h0_))) hown hK hI i_h0.1 k_32 rfl 14 (by decide) (hts (.fieldLink RX12 174 "DeadlineShareModel" "to" "I") (List.mem_cons_of_mem _ (List.mem_append_left _ (List.mem_of_getElem? (i := 0) rfl)))) (fun _ h9 => h9) rfl dX12_next_158 ?_
                  refine lv_aload_n hx hb dX12_next_161 rfl (lv_at hl 0 rfl) ?_
                  refine k_get (ci := 12) (v := .int z12) (C := RX12) (T := TX12) (N := 27) hx hb hts (fun _ h0_ => List.mem_cons_of_mem _ (List.mem_append_right _ (List.mem_append_left _ h0_))) hown hK hI i_h0.1 k_32 rfl 12 (by decide) (hts (.fieldLink RX12 128 "DeadlineShareModel" "taped" "I") (List.mem_cons_of_mem _ (List.mem_append_left _ (List.mem_of_getElem? (i := 2) rfl)))) (fun _ h9 => h9) rfl dX12_next_162 ?_
                  refine lv_icmp_ge (tgt := 243) hx hb dX12_next_165 (by decide) (fun c_82 => ?_) (fun c_82 => ?_)
                  · have c_82 := kc_le rfl rfl c_82
                    have K_243 : ∀ (nn : Nat) (y_84 : Int32) (y_85 : Int64) (f_83 : Nat → va_E) (H : Heap) (locs : List Loc) (ls : Array Slot), (z12.toInt - y_84.toInt).toNat < nn → Iv dC dI g A f_83 H → va_S A s.heap H locs → f_83 h0 = .inr (12, [.int z0, .int z1, .ref (gr g h0 2), .ref (gr g h0 3), .ref (gr g h0 4), .ref (gr g h0 5), .ref (gr g h0 6), .ref (gr g h0 7), .ref (gr g h0 8), .ref (gr g h0 9), .int z10, .ref (gr g h0 11), .int z12, .int y_6, .int y_84, .int y_23, .long y_85, .int z17, .int z18, .ref (gr g h0 19), .ref (gr g h0 20), .ref (gr g h0 21), .ref (gr g h0 22), .int z23, .long z24, .long z25, .long z26]) → Kp g [12] f f_83 → (0 ≤ y_84.toInt ∧ y_84.toInt ≤ z12.toInt) → lv_has ls 1 [(0, .ref h0)] → W p l e (headSpec wq_c_X12_next ({ frames := 1, cells := 0, slots := 0, locals := 20 } : Room)).room s m ([.ref h0].toArray) below meth c H locs 0 0 (MQ below (va_Qv (fun (_ : Unit) => True) (fun (_ : Unit) t => ∃ f1 : Nat → va_E, Iv dC dI g A f1 t.heap ∧ Kp g [12] f f1 ∧ ∃ (w13 : Int32) (w14 : Int32) (w15 : Int32) (w16 : Int64), (f1 h0 = .inr (12, [.int z0, .int z1, .ref (gr g h0 2), .ref (gr g h0 3), .ref (gr g h0 4), .ref (gr g h0 5), .ref (gr g h0 6), .ref (gr g h0 7), .ref (gr g h0 8), .ref (gr g h0 9), .int z10, .ref (gr g h0 11), .int z12, .int w13, .int w14, .int w15, .long w16, .int z17, .int z18, .ref (gr g h0 19), .ref (gr g h0 20), .ref (gr g h0 21), .ref (gr g h0 22), .int z23, .long z24, .long z25, .long z26])) ∧ (0 ≤ w14.toInt ∧ w14.toInt ≤ z12.toInt)) A) ([.ref h0].toArray) s 0 0 A) (F0 m 243 ls []) := by
                      intro nn
                      induction nn with
                      | zero => intro y_84 y_85 f_83 H locs ls m_89; exact absurd m_89 (Nat.not_lt_zero _)
                      | succ nn ih =>
                        intro y_84 y_85 f_83 H locs ls m_89 hI hS k_86 kp_87 t_88 hl
                        have g_90 := Int32.toInt_lt y_84
                        have g_91 := Int32.le_toInt y_84
                        have g_92 := Int32.toInt_lt z12
                        have g_93 := Int32.le_toInt z12
                        refine lv_aload_n hx hb dX12_next_243 rfl (lv_at hl 0 rfl) ?_
                        refine k_get (ci := 12) (v := .int y_23) (C := RX12) (T := TX12) (N := 27) hx hb hts (fun _ h0_ => List.mem_cons_of_mem _ (List.mem_append_right _ (List.mem_append_left _ h0_))) hown hK hI i_h0.1 k_86 rfl 15 (by decide) (hts (.fieldLink RX12 190 "DeadlineShareModel" "sort" "I") (List.mem_cons_of_mem _ (List.mem_append_left _ (List.mem_of_getElem? (i := 4) rfl)))) (fun _ h9 => h9) rfl dX12_next_244 ?_
                        refine lv_iconst (v := 2) hx hb dX12_next_247 (by decide) ?_
                        refine lv_icmp_ne (tgt := 335) hx hb dX12_next_248 (by decide) (fun c_94 => ?_) (fun c_94 => ?_)
                        · have c_94 := kn_eq rfl (by decide : Int32.toInt 2 = 2) c_94
                          exact W.vret hx hb hr (fun t ht hW => ⟨⟨(), rfl, trivial, ⟨f_83, k_ret ht hI, kp_87, y_6, y_84, y_23, y_85, k_86, (by first | omega | decide)⟩⟩, hS.F ht⟩) hS.2.2 dX12_next_335
                        · have c_94 := kc_eq rfl (by decide : Int32.toInt 2 = 2) c_94
                          refine lv_aload_n hx hb dX12_next_251 rfl (lv_at hl 0 rfl) ?_
                          refine k_get (ci := 12) (v := .int y_84) (C := RX12) (T := TX12) (N := 27) hx hb hts (fun _ h0_ => List.mem_cons_of_mem _ (List.mem_append_right _ (List.mem_append_left _ h0_))) hown hK hI i_h0.1 k_86 rfl 14 (by decide) (hts (.fieldLink RX12 174 "DeadlineShareModel" "to" "I") (List.mem_cons_of_mem _ (List.mem_append_left _ (List.mem_of_getElem? (i := 0) rfl)))) (fun _ h9 => h9) rfl dX12_next_252 ?_
                          refine lv_aload_n hx hb dX12_next_255 rfl (lv_at hl 0 rfl) ?_
                          refine k_get (ci := 12) (v := .int z12) (C := RX12) (T := TX12) (N := 27) hx hb hts (fun _ h0_ => List.mem_cons_of_mem _ (List.mem_append_right _ (List.mem_append_left _ h0_))) hown hK hI i_h0.1 k_86 rfl 12 (by decide) (hts (.fieldLink RX12 128 "DeadlineShareModel" "taped" "I") (List.mem_cons_of_mem _ (List.mem_append_left _ (List.mem_of_getElem? (i := 2) rfl)))) (fun _ h9 => h9) rfl dX12_next_256 ?_
                          refine lv_icmp_ge (tgt := 335) hx hb dX12_next_259 (by decide) (fun c_95 => ?_) (fun c_95 => ?_)
                          · have c_95 := kc_le rfl rfl c_95
                            exact W.vret hx hb hr (fun t ht hW => ⟨⟨(), rfl, trivial, ⟨f_83, k_ret ht hI, kp_87, y_6, y_84, y_23, y_85, k_86, (by first | omega | decide)⟩⟩, hS.F ht⟩) hS.2.2 dX12_next_335
                          · have c_95 := kn_le rfl rfl c_95
                            refine lv_aload_n hx hb dX12_next_262 rfl (lv_at hl 0 rfl) ?_
                            refine k_get (ci := 12) (v := .ref (gr g h0 11)) (C := RX12) (T := TX12) (N := 27) hx hb hts (fun _ h0_ => List.mem_cons_of_mem _ (List.mem_append_right _ (List.mem_append_left _ h0_))) hown hK hI i_h0.1 k_86 rfl 11 (by decide) (hts (.fieldLink RX12 36 "DeadlineShareModel" "tape" "[I") (List.mem_cons_of_mem _ (List.mem_append_left _ (List.mem_of_getElem? (i := 5) rfl)))) (fun _ h9 => h9) rfl dX12_next_263 ?_
                            have i_97 := kw_12_11 hG i_h0
                            refine lv_aload_n hx hb dX12_next_266 rfl (lv_at hl 0 rfl) ?_
                            refine k_get (ci := 12) (v := .int y_84) (C := RX12) (T := TX12) (N := 27) hx hb hts (fun _ h0_ => List.mem_cons_of_mem _ (List.mem_append_right _ (List.mem_append_left _ h0_))) hown hK hI i_h0.1 k_86 rfl 14 (by decide) (hts (.fieldLink RX12 174 "DeadlineShareModel" "to" "I") (List.mem_cons_of_mem _ (List.mem_append_left _ (List.mem_of_getElem? (i := 0) rfl)))) (fun _ h9 => h9) rfl dX12_next_267 ?_
                            obtain ⟨q_99, k_98⟩ := op_38 hI i_97
                            refine k_iald hx hb hK hI i_97.1 0 k_98 rfl (vp_in_iff.mpr (by omega)) dX12_next_270 ?_
                            refine lv_topi (fun v_100 ev_100 => ?_)
                            refine va_calli (va_runS (As := [.int v_100]) (rest := []) ⟨hx, hb, hml, hown, hts⟩ (c_X12_isDigit l dC dI g A hG f_83 v_100) (va_cwS 1 hts (gi_S (fun w_ h0_ => ⟨List.mem_cons_of_mem _ (List.mem_append_right _ (List.mem_append_right _ (List.mem_append_left _ h0_))), (tb_c_X12_isDigit w_ h0_).2⟩) (List.mem_cons_of_mem _ (List.mem_append_left _ (List.mem_of_getElem? (i := 6) rfl))) (List.mem_cons_of_mem _ (List.mem_append_left _ (List.mem_of_getElem? (i := 7) rfl))) (List.mem_cons_of_mem _ (List.mem_append_left _ (List.mem_of_getElem? (i := 8) rfl)))) rfl rfl rfl (by decide +kernel) ⟨Nat.le_of_ble_eq_true rfl, Nat.le_of_ble_eq_true rfl⟩) ⟨fun a U g mk q => ⟨q.1, q.2.calling rfl rfl⟩, fun U hU hW => ⟨rfl, kIn.of hI hK hE hS hU hW⟩⟩ rfl rfl hl.1 rfl (lv_room (Nat.le_of_ble_eq_true rfl)) dX12_next_271 ⟨Nat.le_of_ble_eq_true rfl, Nat.le_of_ble_eq_true rfl⟩) hS (fun q _ h => h) (fun q h => h) (fun r_102 u t H1 locs ht hvm w_101 hB hz1 hk1 hS => ?_)
                            have hI : Iv dC dI g A f_83 t.heap := hB
                            rw [ht] at hI
                            generalize H1 = H at hI hS ⊢
                            refine W.widen (k := 0) (n := 0) (Nat.le_of_ble_eq_true rfl) (Nat.le_of_ble_eq_true rfl) ?_
                            refine lv_if_eq (tgt := 335) hx hb dX12_next_274 (by decide) (fun c_103 => ?_) (fun c_103 => ?_)
                            · have c_103 := kc_eq rfl (by decide : Int32.toInt 0 = 0) c_103
                              exact W.vret hx hb hr (fun t ht hW => ⟨⟨(), rfl, trivial, ⟨f_83, k_ret ht hI, kp_87, y_6, y_84, y_23, y_85, k_86, (by first | omega | decide)⟩⟩, hS.F ht⟩) hS.2.2 dX12_next_335
                            · have c_103 := kn_eq rfl (by decide : Int32.toInt 0 = 0) c_103
                              refine lv_aload_n hx hb dX12_next_277 rfl (lv_at hl 0 rfl) ?_
                              refine lv_aload_n hx hb dX12_next_278 rfl (lv_at hl 0 rfl) ?_
                              refine k_get (ci := 12) (v := .long y_85) (C := RX12) (T := TX12) (N := 27) hx hb hts (fun _ h0_ => List.mem_cons_of_mem _ (List.mem_append_right _ (List.mem_append_left _ h0_))) hown hK hI i_h0.1 k_86 rfl 16 (by decide) (hts (.fieldLink RX12 180 "DeadlineShareModel" "worth" "J") (List.mem_cons_of_mem _ (List.mem_append_left _ (List.mem_of_getElem? (i := 3) rfl)))) (fun _ h9 => h9) rfl dX12_next_279 ?_
                              refine lv_ldc2 hx hb hown (hts (.constantLong RX12 126 (1000000)) (List.mem_cons_of_mem _ (List.mem_append_left _ (List.mem_of_getElem? (i := 9) rfl)))) dX12_next_282 ?_
                              refine W.lcmp hx hb dX12_next_285 ?_
                              have J_319 : ∀ (y_104 : Int64) (H : Heap) (locs : List Loc) (ls : Array Slot), Iv dC dI g A f_83 H → va_S A s.heap H locs → lv_has ls 1 [(0, .ref h0)] → W p l e (headSpec wq_c_X12_next ({ frames := 1, cells := 0, slots := 0, locals := 20 } : Room)).room s m ([.ref h0].toArray) below meth c H locs 0 0 (MQ below (va_Qv (fun (_ : Unit) => True) (fun (_ : Unit) t => ∃ f1 : Nat → va_E, Iv dC dI g A f1 t.heap ∧ Kp g [12] f f1 ∧ ∃ (w13 : Int32) (w14 : Int32) (w15 : Int32) (w16 : Int64), (f1 h0 = .inr (12, [.int z0, .int z1, .ref (gr g h0 2), .ref (gr g h0 3), .ref (gr g h0 4), .ref (gr g h0 5), .ref (gr g h0 6), .ref (gr g h0 7), .ref (gr g h0 8), .ref (gr g h0 9), .int z10, .ref (gr g h0 11), .int z12, .int w13, .int w14, .int w15, .long w16, .int z17, .int z18, .ref (gr g h0 19), .ref (gr g h0 20), .ref (gr g h0 21), .ref (gr g h0 22), .int z23, .long z24, .long z25, .long z26])) ∧ (0 ≤ w14.toInt ∧ w14.toInt ≤ z12.toInt)) A) ([.ref h0].toArray) s 0 0 A) (F0 m 319 ls [.long y_104, .ref h0]) := by
                                intro y_104 H locs ls hI hS  hl
                                refine k_put (ci := 12) (v := .long y_104) (ty := .long) (C := RX12) (T := TX12) (N := 27) hx hb hts (fun _ h0_ => List.mem_cons_of_mem _ (List.mem_append_right _ (List.mem_append_left _ h0_))) tyX12 tyX12_ok nmX12 hown hK hI hS i_h0.1 k_86 rfl 16 (by decide) (hts (.fieldLink RX12 180 "DeadlineShareModel" "worth" "J") (List.mem_cons_of_mem _ (List.mem_append_left _ (List.mem_of_getElem? (i := 3) rfl)))) (fun _ h9 => h9) rfl (by decide +kernel) rfl rfl (Nat.le_of_ble_eq_true rfl) rfl (cl_12 i_h0 (by omega) (by omega) (by omega)) dX12_next_319 (fun f_105 H locs e_106 hI hS => ?_)
                                have k_108 : f_105 h0 = .inr (12, [.int z0, .int z1, .ref (gr g h0 2), .ref (gr g h0 3), .ref (gr g h0 4), .ref (gr g h0 5), .ref (gr g h0 6), .ref (gr g h0 7), .ref (gr g h0 8), .ref (gr g h0 9), .int z10, .ref (gr g h0 11), .int z12, .int y_6, .int y_84, .int y_23, .long y_104, .int z17, .int z18, .ref (gr g h0 19), .ref (gr g h0 20), .ref (gr g h0 21), .ref (gr g h0 22), .int z23, .long z24, .long z25, .long z26]) := by rw [e_106]; exact va_up_self _ _ _
                                have k_109 : f_105 (gr g h0 11) = .inl (gc g 0, 200, .inl q_99) := by rw [e_106, va_up_ne _ _ (ik_ne i_97 i_h0 (by decide))]; exact k_98
                                have kp_107 := Kp.put kp_87 i_h0 (by decide) e_106
                                refine lv_aload_n hx hb dX12_next_322 rfl (lv_at hl 0 rfl) ?_
                                refine lv_dup hx hb dX12_next_323 rfl ?_
                                refine k_get (ci := 12) (v := .int y_84) (C := RX12) (T := TX12) (N := 27) hx hb hts (fun _ h0_ => List.mem_cons_of_mem _ (List.mem_append_right _ (List.mem_append_left _ h0_))) hown hK hI i_h0.1 k_108 rfl 14 (by decide) (hts (.fieldLink RX12 174 "DeadlineShareModel" "to" "I") (List.mem_cons_of_mem _ (List.mem_append_left _ (List.mem_of_getElem? (i := 0) rfl)))) (fun _ h9 => h9) rfl dX12_next_324 ?_
                                refine lv_iconst (v := 1) hx hb dX12_next_327 (by decide) ?_
                                refine lv_iadd hx hb dX12_next_328 ?_
                                refine lv_topi (fun v_110 ev_110 => ?_)
                                have tv_110 := k_ad y_84 1
                                rw [← ev_110, show Int32.toInt 1 = 1 from by decide] at tv_110
                                refine k_put (ci := 12) (v := .int v_110) (ty := .int) (C := RX12) (T := TX12) (N := 27) hx hb hts (fun _ h0_ => List.mem_cons_of_mem _ (List.mem_append_right _ (List.mem_append_left _ h0_))) tyX12 tyX12_ok nmX12 hown hK hI hS i_h0.1 k_108 rfl 14 (by decide) (hts (.fieldLink RX12 174 "DeadlineShareModel" "to" "I") (List.mem_cons_of_mem _ (List.mem_append_left _ (List.mem_of_getElem? (i := 0) rfl)))) (fun _ h9 => h9) rfl (by decide +kernel) rfl rfl (Nat.le_of_ble_eq_true rfl) rfl (cl_12 i_h0 (by omega) (by omega) (by omega)) dX12_next_329 (fun f_111 H locs e_112 hI hS => ?_)
                                have k_114 : f_111 h0 = .inr (12, [.int z0, .int z1, .ref (gr g h0 2), .ref (gr g h0 3), .ref (gr g h0 4), .ref (gr g h0 5), .ref (gr g h0 6), .ref (gr g h0 7), .ref (gr g h0 8), .ref (gr g h0 9), .int z10, .ref (gr g h0 11), .int z12, .int y_6, .int v_110, .int y_23, .long y_104, .int z17, .int z18, .ref (gr g h0 19), .ref (gr g h0 20), .ref (gr g h0 21), .ref (gr g h0 22), .int z23, .long z24, .long z25, .long z26]) := by rw [e_112]; exact va_up_self _ _ _
                                have k_115 : f_111 (gr g h0 11) = .inl (gc g 0, 200, .inl q_99) := by rw [e_112, va_up_ne _ _ (ik_ne i_97 i_h0 (by decide))]; exact k_109
                                have kp_113 := Kp.put kp_107 i_h0 (by decide) e_112
                                refine lv_goto (tgt := 243) hx hb dX12_next_332 (by decide) ?_
                                exact ih v_110 y_104 f_111 _ _ _ (by omega) hI hS k_114 kp_113 (by first | omega | decide) (lv_sub hl [0] rfl)
                              refine lv_if_le (tgt := 296) hx hb dX12_next_286 (by decide) (fun c_116 => ?_) (fun c_116 => ?_)
                              · have c_116 := lc_le rfl (by decide : Int64.toInt 1000000 = 1000000) ((lg_cmp_le _ _).mp c_116)
                                refine lv_aload_n hx hb dX12_next_296 rfl (lv_at hl 0 rfl) ?_
                                refine k_get (ci := 12) (v := .long y_85) (C := RX12) (T := TX12) (N := 27) hx hb hts (fun _ h0_ => List.mem_cons_of_mem _ (List.mem_append_right _ (List.mem_append_left _ h0_))) hown hK hI i_h0.1 k_86 rfl 16 (by decide) (hts (.fieldLink RX12 180 "DeadlineShareModel" "worth" "J") (List.mem_cons_of_mem _ (List.mem_append_left _ (List.mem_of_getElem? (i := 3) rfl)))) (fun _ h9 => h9) rfl dX12_next_297 ?_
                                refine lv_ldc2 hx hb hown (hts (.constantLong RX12 197 (10)) (List.mem_cons_of_mem _ (List.mem_append_left _ (List.mem_of_getElem? (i := 10) rfl)))) dX12_next_300 ?_
                                refine lv_lmul hx hb dX12_next_303 ?_
                                refine lv_topl (fun v_117 ev_117 => ?_)
                                refine lv_aload_n hx hb dX12_next_304 rfl (lv_at hl 0 rfl) ?_
                                refine k_get (ci := 12) (v := .ref (gr g h0 11)) (C := RX12) (T := TX12) (N := 27) hx hb hts (fun _ h0_ => List.mem_cons_of_mem _ (List.mem_append_right _ (List.mem_append_left _ h0_))) hown hK hI i_h0.1 k_86 rfl 11 (by decide) (hts (.fieldLink RX12 36 "DeadlineShareModel" "tape" "[I") (List.mem_cons_of_mem _ (List.mem_append_left _ (List.mem_of_getElem? (i := 5) rfl)))) (fun _ h9 => h9) rfl dX12_next_305 ?_
                                refine lv_aload_n hx hb dX12_next_308 rfl (lv_at hl 0 rfl) ?_
                                refine k_get (ci := 12) (v := .int y_84) (C := RX12) (T := TX12) (N := 27) hx hb hts (fun _ h0_ => List.mem_cons_of_mem _ (List.mem_append_right _ (List.mem_append_left _ h0_))) hown hK hI i_h0.1 k_86 rfl 14 (by decide) (hts (.fieldLink RX12 174 "DeadlineShareModel" "to" "I") (List.mem_cons_of_mem _ (List.mem_append_left _ (List.mem_of_getElem? (i := 0) rfl)))) (fun _ h9 => h9) rfl dX12_next_309 ?_
                                refine k_iald hx hb hK hI i_97.1 0 k_98 rfl (vp_in_iff.mpr (by omega)) dX12_next_312 ?_
                                refine lv_topi (fun v_120 ev_120 => ?_)
                                refine lv_i2l (v := v_120.toInt64) hx hb dX12_next_313 rfl ?_
                                have t_121 := Int32.toInt_toInt64 v_120
                                refine lv_ladd hx hb dX12_next_314 ?_
                                refine lv_topl (fun v_122 ev_122 => ?_)
                                have tv_122 := l_ad v_117 v_120.toInt64
                                rw [← ev_122] at tv_122
                                refine lv_ldc2 hx hb hown (hts (.constantLong RX12 199 (48)) (List.mem_cons_of_mem _ (List.mem_append_left _ (List.mem_of_getElem? (i := 11) rfl)))) dX12_next_315 ?_
                                refine lv_lsub hx hb dX12_next_318 ?_
                                refine lv_topl (fun v_123 ev_123 => ?_)
                                have tv_123 := l_sb v_122 48
                                rw [← ev_123, show Int64.toInt 48 = 48 from by decide] at tv_123
                                exact J_319 v_123 _ _ _ hI hS  (lv_sub hl [0] rfl)
                              · have c_116 := ln_le rfl (by decide : Int64.toInt 1000000 = 1000000) (fun h9 => c_116 ((lg_cmp_le _ _).mpr h9))
                                refine lv_aload_n hx hb dX12_next_289 rfl (lv_at hl 0 rfl) ?_
                                refine k_get (ci := 12) (v := .long y_85) (C := RX12) (T := TX12) (N := 27) hx hb hts (fun _ h0_ => List.mem_cons_of_mem _ (List.mem_append_right _ (List.mem_append_left _ h0_))) hown hK hI i_h0.1 k_86 rfl 16 (by decide) (hts (.fieldLink RX12 180 "DeadlineShareModel" "worth" "J") (List.mem_cons_of_mem _ (List.mem_append_left _ (List.mem_of_getElem? (i := 3) rfl)))) (fun _ h9 => h9) rfl dX12_next_290 ?_
                                refine lv_goto (tgt := 319) hx hb dX12_next_293 (by decide) ?_
                                exact J_319 y_85 _ _ _ hI hS  (lv_sub hl [0] rfl)
                    exact K_243 _ y_30 y_31 f_29 _ _ _ (Nat.lt_succ_self _) hI hS k_32 kp_33 (by first | omega | decide) (lv_sub hl [0] rfl)
                  · have c_82 := kn_le rfl rfl c_82
                    refine lv_aload_n hx hb dX12_next_168 rfl (lv_at hl 0 rfl) ?_
                    refine k_get (ci := 12) (v := .ref (gr g h0 11)) (C := RX12) (T := TX12) (N := 27) hx hb hts (fun _ h0_ => List.mem_cons_of_mem _ (List.mem_append_right _ (List.mem_append_left _ h0_))) hown hK hI i_h0.1 k_32 rfl 11 (by decide) (hts (.fieldLink RX12 36 "DeadlineShareModel" "tape" "[I") (List.mem_cons_of_mem _ (List.mem_append_left _ (List.mem_of_getElem? (i := 5) rfl)))) (fun _ h9 => h9) rfl dX12_next_169 ?_
                    have i_125 := kw_12_11 hG i_h0
                    refine lv_aload_n hx hb dX12_next_172 rfl (lv_at hl 0 rfl) ?_
                    refine k_get (ci := 12) (v := .int y_30) (C := RX12) (T := TX12) (N := 27) hx hb hts (fun _ h0_ => List.mem_cons_of_mem _ (List.mem_append_right _ (List.mem_append_left _ h0_))) hown hK hI i_h0.1 k_32 rfl 14 (by decide) (hts (.fieldLink RX12 174 "DeadlineShareModel" "to" "I") (List.mem_cons_of_mem _ (List.mem_append_left _ (List.mem_of_getElem? (i := 0) rfl)))) (fun _ h9 => h9) rfl dX12_next_173 ?_
                    obtain ⟨q_127, k_126⟩ := op_38 hI i_125
                    refine k_iald hx hb hK hI i_125.1 0 k_126 rfl (vp_in_iff.mpr (by omega)) dX12_next_176 ?_
                    refine lv_topi (fun v_128 ev_128 => ?_)
                    refine va_calli (va_runS (As := [.int v_128]) (rest := []) ⟨hx, hb, hml, hown, hts⟩ (c_X12_isSmall l dC dI g A hG f_29 v_128) (va_cwS 1 hts (gi_S (fun w_ h0_ => ⟨List.mem_cons_of_mem _ (List.mem_append_right _ (List.mem_append_right _ (List.mem_append_right _ (List.mem_append_left _ h0_)))), (tb_c_X12_isSmall w_ h0_).2⟩) (List.mem_cons_of_mem _ (List.mem_append_left _ (List.mem_of_getElem? (i := 12) rfl))) (List.mem_cons_of_mem _ (List.mem_append_left _ (List.mem_of_getElem? (i := 13) rfl))) (List.mem_cons_of_mem _ (List.mem_append_left _ (List.mem_of_getElem? (i := 8) rfl)))) rfl rfl rfl (by decide +kernel) ⟨Nat.le_of_ble_eq_true rfl, Nat.le_of_ble_eq_true rfl⟩) ⟨fun a U g mk q => ⟨q.1, q.2.calling rfl rfl⟩, fun U hU hW => ⟨rfl, kIn.of hI hK hE hS hU hW⟩⟩ rfl rfl hl.1 rfl (lv_room (Nat.le_of_ble_eq_true rfl)) dX12_next_177 ⟨Nat.le_of_ble_eq_true rfl, Nat.le_of_ble_eq_true rfl⟩) hS (fun q _ h => h) (fun q h => h) (fun r_130 u t H1 locs ht hvm w_129 hB hz1 hk1 hS => ?_)
                    have hI : Iv dC dI g A f_29 t.heap := hB
                    rw [ht] at hI
                    generalize H1 = H at hI hS ⊢
                    refine W.widen (k := 0) (n := 0) (Nat.le_of_ble_eq_true rfl) (Nat.le_of_ble_eq_true rfl) ?_
                    refine lv_if_eq (tgt := 243) hx hb dX12_next_180 (by decide) (fun c_131 => ?_) (fun c_131 => ?_)
                    · have c_131 := kc_eq rfl (by decide : Int32.toInt 0 = 0) c_131
                      have K_243 : ∀ (nn : Nat) (y_133 : Int32) (y_134 : Int64) (f_132 : Nat → va_E) (H : Heap) (locs : List Loc) (ls : Array Slot), (z12.toInt - y_133.toInt).toNat < nn → Iv dC dI g A f_132 H → va_S A s.heap H locs → f_132 h0 = .inr (12, [.int z0, .int z1, .ref (gr g h0 2), .ref (gr g h0 3), .ref (gr g h0 4), .ref (gr g h0 5), .ref (gr g h0 6), .ref (gr g h0 7), .ref (gr g h0 8), .ref (gr g h0 9), .int z10, .ref (gr g h0 11), .int z12, .int y_6, .int y_133, .int y_23, .long y_134, .int z17, .int z18, .ref (gr g h0 19), .ref (gr g h0 20), .ref (gr g h0 21), .ref (gr g h0 22), .int z23, .long z24, .long z25, .long z26]) → f_132 (gr g h0 11) = .inl (gc g 0, 200, .inl q_127) → Kp g [12] f f_132 → (0 ≤ y_133.toInt ∧ y_133.toInt ≤ z12.toInt) → lv_has ls 1 [(0, .ref h0)] → W p l e (headSpec wq_c_X12_next ({ frames := 1, cells := 0, slots := 0, locals := 20 } : Room)).room s m ([.ref h0].toArray) below meth c H locs 0 0 (MQ below (va_Qv (fun (_ : Unit) => True) (fun (_ : Unit) t => ∃ f1 : Nat → va_E, Iv dC dI g A f1 t.heap ∧ Kp g [12] f f1 ∧ ∃ (w13 : Int32) (w14 : Int32) (w15 : Int32) (w16 : Int64), (f1 h0 = .inr (12, [.int z0, .int z1, .ref (gr g h0 2), .ref (gr g h0 3), .ref (gr g h0 4), .ref (gr g h0 5), .ref (gr g h0 6), .ref (gr g h0 7), .ref (gr g h0 8), .ref (gr g h0 9), .int z10, .ref (gr g h0 11), .int z12, .int w13, .int w14, .int w15, .long w16, .int z17, .int z18, .ref (gr g h0 19), .ref (gr g h0 20), .ref (gr g h0 21), .ref (gr g h0 22), .int z23, .long z24, .long z25, .long z26])) ∧ (0 ≤ w14.toInt ∧ w14.toInt ≤ z12.toInt)) A) ([.ref h0].toArray) s 0 0 A) (F0 m 243 ls []) := by
                        intro nn
                        induction nn with
                        | zero => intro y_133 y_134 f_132 H locs ls m_139; exact absurd m_139 (Nat.not_lt_zero _)
                        | succ nn ih =>
                          intro y_133 y_134 f_132 H locs ls m_139 hI hS k_135 k_136 kp_137 t_138 hl
                          have g_140 := Int32.toInt_lt y_133
                          have g_141 := Int32.le_toInt y_133
                          have g_142 := Int32.toInt_lt z12
                          have g_143 := Int32.le_toInt z12
                          refine lv_aload_n hx hb dX12_next_243 rfl (lv_at hl 0 rfl) ?_
                          refine k_get (ci := 12) (v := .int y_23) (C := RX12) (T := TX12) (N := 27) hx hb hts (fun _ h0_ => List.mem_cons_of_mem _ (List.mem_append_right _ (List.mem_append_left _ h0_))) hown hK hI i_h0.1 k_135 rfl 15 (by decide) (hts (.fieldLink RX12 190 "DeadlineShareModel" "sort" "I") (List.mem_cons_of_mem _ (List.mem_append_left _ (List.mem_of_getElem? (i := 4) rfl)))) (fun _ h9 => h9) rfl dX12_next_244 ?_
                          refine lv_iconst (v := 2) hx hb dX12_next_247 (by decide) ?_
                          refine lv_icmp_ne (tgt := 335) hx hb dX12_next_248 (by decide) (fun c_144 => ?_) (fun c_144 => ?_)
                          · have c_144 := kn_eq rfl (by decide : Int32.toInt 2 = 2) c_144
                            exact W.vret hx hb hr (fun t ht hW => ⟨⟨(), rfl, trivial, ⟨f_132, k_ret ht hI, kp_137, y_6, y_133, y_23, y_134, k_135, (by first | omega | decide)⟩⟩, hS.F ht⟩) hS.2.2 dX12_next_335
                          · have c_144 := kc_eq rfl (by decide : Int32.toInt 2 = 2) c_144
                            refine lv_aload_n hx hb dX12_next_251 rfl (lv_at hl 0 rfl) ?_
                            refine k_get (ci := 12) (v := .int y_133) (C := RX12) (T := TX12) (N := 27) hx hb hts (fun _ h0_ => List.mem_cons_of_mem _ (List.mem_append_right _ (List.mem_append_left _ h0_))) hown hK hI i_h0.1 k_135 rfl 14 (by decide) (hts (.fieldLink RX12 174 "DeadlineShareModel" "to" "I") (List.mem_cons_of_mem _ (List.mem_append_left _ (List.mem_of_getElem? (i := 0) rfl)))) (fun _ h9 => h9) rfl dX12_next_252 ?_
                            refine lv_aload_n hx hb dX12_next_255 rfl (lv_at hl 0 rfl) ?_
                            refine k_get (ci := 12) (v := .int z12) (C := RX12) (T := TX12) (N := 27) hx hb hts (fun _ h0_ => List.mem_cons_of_mem _ (List.mem_append_right _ (List.mem_append_left _ h0_))) hown hK hI i_h0.1 k_135 rfl 12 (by decide) (hts (.fieldLink RX12 128 "DeadlineShareModel" "taped" "I") (List.mem_cons_of_mem _ (List.mem_append_left _ (List.mem_of_getElem? (i := 2) rfl)))) (fun _ h9 => h9) rfl dX12_next_256 ?_
                            refine lv_icmp_ge (tgt := 335) hx hb dX12_next_259 (by decide) (fun c_145 => ?_) (fun c_145 => ?_)
                            · have c_145 := kc_le rfl rfl c_145
                              exact W.vret hx hb hr (fun t ht hW => ⟨⟨(), rfl, trivial, ⟨f_132, k_ret ht hI, kp_137, y_6, y_133, y_23, y_134, k_135, (by first | omega | decide)⟩⟩, hS.F ht⟩) hS.2.2 dX12_next_335
                            · have c_145 := kn_le rfl rfl c_145
                              refine lv_aload_n hx hb dX12_next_262 rfl (lv_at hl 0 rfl) ?_
                              refine k_get (ci := 12) (v := .ref (gr g h0 11)) (C := RX12) (T := TX12) (N := 27) hx hb hts (fun _ h0_ => List.mem_cons_of_mem _ (List.mem_append_right _ (List.mem_append_left _ h0_))) hown hK hI i_h0.1 k_135 rfl 11 (by decide) (hts (.fieldLink RX12 36 "DeadlineShareModel" "tape" "[I") (List.mem_cons_of_mem _ (List.mem_append_left _ (List.mem_of_getElem? (i := 5) rfl)))) (fun _ h9 => h9) rfl dX12_next_263 ?_
                              refine lv_aload_n hx hb dX12_next_266 rfl (lv_at hl 0 rfl) ?_
                              refine k_get (ci := 12) (v := .int y_133) (C := RX12) (T := TX12) (N := 27) hx hb hts (fun _ h0_ => List.mem_cons_of_mem _ (List.mem_append_right _ (List.mem_append_left _ h0_))) hown hK hI i_h0.1 k_135 rfl 14 (by decide) (hts (.fieldLink RX12 174 "DeadlineShareModel" "to" "I") (List.mem_cons_of_mem _ (List.mem_append_left _ (List.mem_of_getElem? (i := 0) rfl)))) (fun _ h9 => h9) rfl dX12_next_267 ?_
                              refine k_iald hx hb hK hI i_125.1 0 k_136 rfl (vp_in_iff.mpr (by omega)) dX12_next_270 ?_
                              refine lv_topi (fun v_148 ev_148 => ?_)
                              refine va_calli (va_runS (As := [.int v_148]) (rest := []) ⟨hx, hb, hml, hown, hts⟩ (c_X12_isDigit l dC dI g A hG f_132 v_148) (va_cwS 1 hts (gi_S (fun w_ h0_ => ⟨List.mem_cons_of_mem _ (List.mem_append_right _ (List.mem_append_right _ (List.mem_append_left _ h0_))), (tb_c_X12_isDigit w_ h0_).2⟩) (List.mem_cons_of_mem _ (List.mem_append_left _ (List.mem_of_getElem? (i := 6) rfl))) (List.mem_cons_of_mem _ (List.mem_append_left _ (List.mem_of_getElem? (i := 7) rfl))) (List.mem_cons_of_mem _ (List.mem_append_left _ (List.mem_of_getElem? (i := 8) rfl)))) rfl rfl rfl (by decide +kernel) ⟨Nat.le_of_ble_eq_true rfl, Nat.le_of_ble_eq_true rfl⟩) ⟨fun a U g mk q => ⟨q.1, q.2.calling rfl rfl⟩, fun U hU hW => ⟨rfl, kIn.of hI hK hE hS hU hW⟩⟩ rfl rfl hl.1 rfl (lv_room (Nat.le_of_ble_eq_true rfl)) dX12_next_271 ⟨Nat.le_of_ble_eq_true rfl, Nat.le_of_ble_eq_true rfl⟩) hS (fun q _ h => h) (fun q h => h) (fun r_150 u t H1 locs ht hvm w_149 hB hz1 hk1 hS => ?_)
                              have hI : Iv dC dI g A f_132 t.heap := hB
                              rw [ht] at hI
                              generalize H1 = H at hI hS ⊢
                              refine W.widen (k := 0) (n := 0) (Nat.le_of_ble_eq_true rfl) (Nat.le_of_ble_eq_true rfl) ?_
                              refine lv_if_eq (tgt := 335) hx hb dX12_next_274 (by decide) (fun c_151 => ?_) (fun c_151 => ?_)
                              · have c_151 := kc_eq rfl (by decide : Int32.toInt 0 = 0) c_151
                                exact W.vret hx hb hr (fun t ht hW => ⟨⟨(), rfl, trivial, ⟨f_132, k_ret ht hI, kp_137, y_6, y_133, y_23, y_134, k_135, (by first | omega | decide)⟩⟩, hS.F ht⟩) hS.2.2 dX12_next_335
                              · have c_151 := kn_eq rfl (by decide : Int32.toInt 0 = 0) c_151
                                refine lv_aload_n hx hb dX12_next_277 rfl (lv_at hl 0 rfl) ?_
                                refine lv_aload_n hx hb dX12_next_278 rfl (lv_at hl 0 rfl) ?_
                                refine k_get (ci := 12) (v := .long y_134) (C := RX12) (T := TX12) (N := 27) hx hb hts (fun _ h0_ => List.mem_cons_of_mem _ (List.mem_append_right _ (List.mem_append_left _ h0_))) hown hK hI i_h0.1 k_135 rfl 16 (by decide) (hts (.fieldLink RX12 180 "DeadlineShareModel" "worth" "J") (List.mem_cons_of_mem _ (List.mem_append_left _ (List.mem_of_getElem? (i := 3) rfl)))) (fun _ h9 => h9) rfl dX12_next_279 ?_
                                refine lv_ldc2 hx hb hown (hts (.constantLong RX12 126 (1000000)) (List.mem_cons_of_mem _ (List.mem_append_left _ (List.mem_of_getElem? (i := 9) rfl)))) dX12_next_282 ?_
                                refine W.lcmp hx hb dX12_next_285 ?_
                                have J_319 : ∀ (y_152 : Int64) (H : Heap) (locs : List Loc) (ls : Array Slot), Iv dC dI g A f_132 H → va_S A s.heap H locs → lv_has ls 1 [(0, .ref h0)] → W p l e (headSpec wq_c_X12_next ({ frames := 1, cells := 0, slots := 0, locals := 20 } : Room)).room s m ([.ref h0].toArray) below meth c H locs 0 0 (MQ below (va_Qv (fun (_ : Unit) => True) (fun (_ : Unit) t => ∃ f1 : Nat → va_E, Iv dC dI g A f1 t.heap ∧ Kp g [12] f f1 ∧ ∃ (w13 : Int32) (w14 : Int32) (w15 : Int32) (w16 : Int64), (f1 h0 = .inr (12, [.int z0, .int z1, .ref (gr g h0 2), .ref (gr g h0 3), .ref (gr g h0 4), .ref (gr g h0 5), .ref (gr g h0 6), .ref (gr g h0 7), .ref (gr g h0 8), .ref (gr g h0 9), .int z10, .ref (gr g h0 11), .int z12, .int w13, .int w14, .int w15, .long w16, .int z17, .int z18, .ref (gr g h0 19), .ref (gr g h0 20), .ref (gr g h0 21), .ref (gr g h0 22), .int z23, .long z24, .long z25, .long z26])) ∧ (0 ≤ w14.toInt ∧ w14.toInt ≤ z12.toInt)) A) ([.ref h0].toArray) s 0 0 A) (F0 m 319 ls [.long y_152, .ref h0]) := by
                                  intro y_152 H locs ls hI hS  hl
                                  refine k_put (ci := 12) (v := .long y_152) (ty := .long) (C := RX12) (T := TX12) (N := 27) hx hb hts (fun _ h0_ => List.mem_cons_of_mem _ (List.mem_append_right _ (List.mem_append_left _ h0_))) tyX12 tyX12_ok nmX12 hown hK hI hS i_h0.1 k_135 rfl 16 (by decide) (hts (.fieldLink RX12 180 "DeadlineShareModel" "worth" "J") (List.mem_cons_of_mem _ (List.mem_append_left _ (List.mem_of_getElem? (i := 3) rfl)))) (fun _ h9 => h9) rfl (by decide +kernel) rfl rfl (Nat.le_of_ble_eq_true rfl) rfl (cl_12 i_h0 (by omega) (by omega) (by omega)) dX12_next_319 (fun f_153 H locs e_154 hI hS => ?_)
                                  have k_156 : f_153 h0 = .inr (12, [.int z0, .int z1, .ref (gr g h0 2), .ref (gr g h0 3), .ref (gr g h0 4), .ref (gr g h0 5), .ref (gr g h0 6), .ref (gr g h0 7), .ref (gr g h0 8), .ref (gr g h0 9), .int z10, .ref (gr g h0 11), .int z12, .int y_6, .int y_133, .int y_23, .long y_152, .int z17, .int z18, .ref (gr g h0 19), .ref (gr g h0 20), .ref (gr g h0 21), .ref (gr g h0 22), .int z23, .long z24, .long z25, .long z26]) := by rw [e_154]; exact va_up_self _ _ _
                                  have k_157 : f_153 (gr g h0 11) = .inl (gc g 0, 200, .inl q_127) := by rw [e_154, va_up_ne _ _ (ik_ne i_125 i_h0 (by decide))]; exact k_136
                                  have kp_155 := Kp.put kp_137 i_h0 (by decide) e_154
                                  refine lv_aload_n hx hb dX12_next_322 rfl (lv_at hl 0 rfl) ?_
                                  refine lv_dup hx hb dX12_next_323 rfl ?_
                                  refine k_get (ci := 12) (v := .int y_133) (C := RX12) (T := TX12) (N := 27) hx hb hts (fun _ h0_ => List.mem_cons_of_mem _ (List.mem_append_right _ (List.mem_append_left _ h0_))) hown hK hI i_h0.1 k_156 rfl 14 (by decide) (hts (.fieldLink RX12 174 "DeadlineShareModel" "to" "I") (List.mem_cons_of_mem _ (List.mem_append_left _ (List.mem_of_getElem? (i := 0) rfl)))) (fun _ h9 => h9) rfl dX12_next_324 ?_
                                  refine lv_iconst (v := 1) hx hb dX12_next_327 (by decide) ?_
                                  refine lv_iadd hx hb dX12_next_328 ?_
                                  refine lv_topi (fun v_158 ev_158 => ?_)
                                  have tv_158 := k_ad y_133 1
                                  rw [← ev_158, show Int32.toInt 1 = 1 from by decide] at tv_158
                                  refine k_put (ci := 12) (v := .int v_158) (ty := .int) (C := RX12) (T := TX12) (N := 27) hx hb hts (fun _ h0_ => List.mem_cons_of_mem _ (List.mem_append_right _ (List.mem_append_left _ h0_))) tyX12 tyX12_ok nmX12 hown hK hI hS i_h0.1 k_156 rfl 14 (by decide) (hts (.fieldLink RX12 174 "DeadlineShareModel" "to" "I") (List.mem_cons_of_mem _ (List.mem_append_left _ (List.mem_of_getElem? (i := 0) rfl)))) (fun _ h9 => h9) rfl (by decide +kernel) rfl rfl (Nat.le_of_ble_eq_true rfl) rfl (cl_12 i_h0 (by omega) (by omega) (by omega)) dX12_next_329 (fun f_159 H locs e_160 hI hS => ?_)
                                  have k_162 : f_159 h0 = .inr (12, [.int z0, .int z1, .ref (gr g h0 2), .ref (gr g h0 3), .ref (gr g h0 4), .ref (gr g h0 5), .ref (gr g h0 6), .ref (gr g h0 7), .ref (gr g h0 8), .ref (gr g h0 9), .int z10, .ref (gr g h0 11), .int z12, .int y_6, .int v_158, .int y_23, .long y_152, .int z17, .int z18, .ref (gr g h0 19), .ref (gr g h0 20), .ref (gr g h0 21), .ref (gr g h0 22), .int z23, .long z24, .long z25, .long z26]) := by rw [e_160]; exact va_up_self _ _ _
                                  have k_163 : f_159 (gr g h0 11) = .inl (gc g 0, 200, .inl q_127) := by rw [e_160, va_up_ne _ _ (ik_ne i_125 i_h0 (by decide))]; exact k_157
                                  have kp_161 := Kp.put kp_155 i_h0 (by decide) e_160
                                  refine lv_goto (tgt := 243) hx hb dX12_next_332 (by decide) ?_
                                  exact ih v_158 y_152 f_159 _ _ _ (by omega) hI hS k_162 k_163 kp_161 (by first | omega | decide) (lv_sub hl [0] rfl)
                                refine lv_if_le (tgt := 296) hx hb dX12_next_286 (by decide) (fun c_164 => ?_) (fun c_164 => ?_)
                                · have c_164 := lc_le rfl (by decide : Int64.toInt 1000000 = 1000000) ((lg_cmp_le _ _).mp c_164)
                                  refine lv_aload_n hx hb dX12_next_296 rfl (lv_at hl 0 rfl) ?_
                                  refine k_get (ci := 12) (v := .long y_134) (C := RX12) (T := TX12) (N := 27) hx hb hts (fun _ h0_ => List.mem_cons_of_mem _ (List.mem_append_right _ (List.mem_append_left _ h0_))) hown hK hI i_h0.1 k_135 rfl 16 (by decide) (hts (.fieldLink RX12 180 "DeadlineShareModel" "worth" "J") (List.mem_cons_of_mem _ (List.mem_append_left _ (List.mem_of_getElem? (i := 3) rfl)))) (fun _ h9 => h9) rfl dX12_next_297 ?_
                                  refine lv_ldc2 hx hb hown (hts (.constantLong RX12 197 (10)) (List.mem_cons_of_mem _ (List.mem_append_left _ (List.mem_of_getElem? (i := 10) rfl)))) dX12_next_300 ?_
                                  refine lv_lmul hx hb dX12_next_303 ?_
                                  refine lv_topl (fun v_165 ev_165 => ?_)
                                  refine lv_aload_n hx hb dX12_next_304 rfl (lv_at hl 0 rfl) ?_
                                  refine k_get (ci := 12) (v := .ref (gr g h0 11)) (C := RX12) (T := TX12) (N := 27) hx hb hts (fun _ h0_ => List.mem_cons_of_mem _ (List.mem_append_right _ (List.mem_append_left _ h0_))) hown hK hI i_h0.1 k_135 rfl 11 (by decide) (hts (.fieldLink RX12 36 "DeadlineShareModel" "tape" "[I") (List.mem_cons_of_mem _ (List.mem_append_left _ (List.mem_of_getElem? (i := 5) rfl)))) (fun _ h9 => h9) rfl dX12_next_305 ?_
                                  refine lv_aload_n hx hb dX12_next_308 rfl (lv_at hl 0 rfl) ?_
                                  refine k_get (ci := 12) (v := .int y_133) (C := RX12) (T := TX12) (N := 27) hx hb hts (fun _ h0_ => List.mem_cons_of_mem _ (List.mem_append_right _ (List.mem_append_left _ h0_))) hown hK hI i_h0.1 k_135 rfl 14 (by decide) (hts (.fieldLink RX12 174 "DeadlineShareModel" "to" "I") (List.mem_cons_of_mem _ (List.mem_append_left _ (List.mem_of_getElem? (i := 0) rfl)))) (fun _ h9 => h9) rfl dX12_next_309 ?_
                                  refine k_iald hx hb hK hI i_125.1 0 k_136 rfl (vp_in_iff.mpr (by omega)) dX12_next_312 ?_
                                  refine lv_topi (fun v_168 ev_168 => ?_)
                                  refine lv_i2l (v := v_168.toInt64) hx hb dX12_next_313 rfl ?_
                                  have t_169 := Int32.toInt_toInt64 v_168
                                  refine lv_ladd hx hb dX12_next_314 ?_
                                  refine lv_topl (fun v_170 ev_170 => ?_)
                                  have tv_170 := l_ad v_165 v_168.toInt64
                                  rw [← ev_170] at tv_170
                                  refine lv_ldc2 hx hb hown (hts (.constantLong RX12 199 (48)) (List.mem_cons_of_mem _ (List.mem_append_left _ (List.mem_of_getElem? (i := 11) rfl)))) dX12_next_315 ?_
                                  refine lv_lsub hx hb dX12_next_318 ?_
                                  refine lv_topl (fun v_171 ev_171 => ?_)
                                  have tv_171 := l_sb v_170 48
                                  rw [← ev_171, show Int64.toInt 48 = 48 from by decide] at tv_171
                                  exact J_319 v_171 _ _ _ hI hS  (lv_sub hl [0] rfl)
                                · have c_164 := ln_le rfl (by decide : Int64.toInt 1000000 = 1000000) (fun h9 => c_164 ((lg_cmp_le _ _).mpr h9))
                                  refine lv_aload_n hx hb dX12_next_289 rfl (lv_at hl 0 rfl) ?_
                                  refine k_get (ci := 12) (v := .long y_134) (C := RX12) (T := TX12) (N := 27) hx hb hts (fun _ h0_ => List.mem_cons_of_mem _ (List.mem_append_right _ (List.mem_append_left _ h0_))) hown hK hI i_h0.1 k_135 rfl 16 (by decide) (hts (.fieldLink RX12 180 "DeadlineShareModel" "worth" "J") (List.mem_cons_of_mem _ (List.mem_append_left _ (List.mem_of_getElem? (i := 3) rfl)))) (fun _ h9 => h9) rfl dX12_next_290 ?_
                                  refine lv_goto (tgt := 319) hx hb dX12_next_293 (by decide) ?_
                                  exact J_319 y_134 _ _ _ hI hS  (lv_sub hl [0] rfl)
                      exact K_243 _ y_30 y_31 f_29 _ _ _ (Nat.lt_succ_self _) hI hS k_32 k_126 kp_33 (by first | omega | decide) (lv_sub hl [0] rfl)
                    · have c_131 := kn_eq rfl (by decide : Int32.toInt 0 = 0) c_131
                      refine lv_aload_n hx hb dX12_next_183 rfl (lv_at hl 0 rfl) ?_
                      refine lv_aload_n hx hb dX12_next_184 rfl (lv_at hl 0 rfl) ?_
                      refine k_get (ci := 12) (v := .int y_30) (C := RX12) (T := TX12) (N := 27) hx hb hts (fun _ h0_ => List.mem_cons_of_mem _ (List.mem_append_right _ (List.mem_append_left _ h0_))) hown hK hI i_h0.1 k_32 rfl 14 (by decide) (hts (.fieldLink RX12 174 "DeadlineShareModel" "to" "I") (List.mem_cons_of_mem _ (List.mem_append_left _ (List.mem_of_getElem? (i := 0) rfl)))) (fun _ h9 => h9) rfl dX12_next_185 ?_
                      refine lv_aload_n hx hb dX12_next_188 rfl (lv_at hl 0 rfl) ?_
                      refine k_get (ci := 12) (v := .int y_6) (C := RX12) (T := TX12) (N := 27) hx hb hts (fun _ h0_ => List.mem_cons_of_mem _ (List.mem_append_right _ (List.mem_append_left _ h0_))) hown hK hI i_h0.1 k_32 rfl 13 (by decide) (hts (.fieldLink RX12 177 "DeadlineShareModel" "from" "I") (List.mem_cons_of_mem _ (List.mem_append_left _ (List.mem_of_getElem? (i := 1) rfl)))) (fun _ h9 => h9) rfl dX12_next_189 ?_
                      refine lv_isub hx hb dX12_next_192 ?_
                      refine lv_topi (fun v_172 ev_172 => ?_)
                      have tv_172 := k_sb y_30 y_6
                      rw [← ev_172] at tv_172
                      refine lv_bipush (v := 10) hx hb dX12_next_193 (by decide) ?_
                      have J_227 : ∀ (y_173 : Int64) (H : Heap) (locs : List Loc) (ls : Array Slot), Iv dC dI g A f_29 H → va_S A s.heap H locs → lv_has ls 1 [(0, .ref h0)] → W p l e (headSpec wq_c_X12_next ({ frames := 1, cells := 0, slots := 0, locals := 20 } : Room)).room s m ([.ref h0].toArray) below meth c H locs 0 0 (MQ below (va_Qv (fun (_ : Unit) => True) (fun (_ : Unit) t => ∃ f1 : Nat → va_E, Iv dC dI g A f1 t.heap ∧ Kp g [12] f f1 ∧ ∃ (w13 : Int32) (w14 : Int32) (w15 : Int32) (w16 : Int64), (f1 h0 = .inr (12, [.int z0, .int z1, .ref (gr g h0 2), .ref (gr g h0 3), .ref (gr g h0 4), .ref (gr g h0 5), .ref (gr g h0 6), .ref (gr g h0 7), .ref (gr g h0 8), .ref (gr g h0 9), .int z10, .ref (gr g h0 11), .int z12, .int w13, .int w14, .int w15, .long w16, .int z17, .int z18, .ref (gr g h0 19), .ref (gr g h0 20), .ref (gr g h0 21), .ref (gr g h0 22), .int z23, .long z24, .long z25, .long z26])) ∧ (0 ≤ w14.toInt ∧ w14.toInt ≤ z12.toInt)) A) ([.ref h0].toArray) s 0 0 A) (F0 m 227 ls [.long y_173, .ref h0]) := by
                        intro y_173 H locs ls hI hS  hl
                        refine k_put (ci := 12) (v := .long y_173) (ty := .long) (C := RX12) (T := TX12) (N := 27) hx hb hts (fun _ h0_ => List.mem_cons_of_mem _ (List.mem_append_right _ (List.mem_append_left _ h0_))) tyX12 tyX12_ok nmX12 hown hK hI hS i_h0.1 k_32 rfl 16 (by decide) (hts (.fieldLink RX12 180 "DeadlineShareModel" "worth" "J") (List.mem_cons_of_mem _ (List.mem_append_left _ (List.mem_of_getElem? (i := 3) rfl)))) (fun _ h9 => h9) rfl (by decide +kernel) rfl rfl (Nat.le_of_ble_eq_true rfl) rfl (cl_12 i_h0 (by omega) (by omega) (by omega)) dX12_next_227 (fun f_174 H locs e_175 hI hS => ?_)
                        have k_177 : f_174 h0 = .inr (12, [.int z0, .int z1, .ref (gr g h0 2), .ref (gr g h0 3), .ref (gr g h0 4), .ref (gr g h0 5), .ref (gr g h0 6), .ref (gr g h0 7), .ref (gr g h0 8), .ref (gr g h0 9), .int z10, .ref (gr g h0 11), .int z12, .int y_6, .int y_30, .int y_23, .long y_173, .int z17, .int z18, .ref (gr g h0 19), .ref (gr g h0 20), .ref (gr g h0 21), .ref (gr g h0 22), .int z23, .long z24, .long z25, .long z26]) := by rw [e_175]; exact va_up_self _ _ _
                        have k_178 : f_174 (gr g h0 11) = .inl (gc g 0, 200, .inl q_127) := by rw [e_175, va_up_ne _ _ (ik_ne i_125 i_h0 (by decide))]; exact k_126
                        have kp_176 := Kp.put kp_33 i_h0 (by decide) e_175
                        refine lv_aload_n hx hb dX12_next_230 rfl (lv_at hl 0 rfl) ?_
                        refine lv_dup hx hb dX12_next_231 rfl ?_
                        refine k_get (ci := 12) (v := .int y_30) (C := RX12) (T := TX12) (N := 27) hx hb hts (fun _ h0_ => List.mem_cons_of_mem _ (List.mem_append_right _ (List.mem_append_left _ h0_))) hown hK hI i_h0.1 k_177 rfl 14 (by decide) (hts (.fieldLink RX12 174 "DeadlineShareModel" "to" "I") (List.mem_cons_of_mem _ (List.mem_append_left _ (List.mem_of_getElem? (i := 0) rfl)))) (fun _ h9 => h9) rfl dX12_next_232 ?_
                        refine lv_iconst (v := 1) hx hb dX12_next_235 (by decide) ?_
                        refine lv_iadd hx hb dX12_next_236 ?_
                        refine lv_topi (fun v_179 ev_179 => ?_)
                        have tv_179 := k_ad y_30 1
                        rw [← ev_179, show Int32.toInt 1 = 1 from by decide] at tv_179
                        refine k_put (ci := 12) (v := .int v_179) (ty := .int) (C := RX12) (T := TX12) (N := 27) hx hb hts (fun _ h0_ => List.mem_cons_of_mem _ (List.mem_append_right _ (List.mem_append_left _ h0_))) tyX12 tyX12_ok nmX12 hown hK hI hS i_h0.1 k_177 rfl 14 (by decide) (hts (.fieldLink RX12 174 "DeadlineShareModel" "to" "I") (List.mem_cons_of_mem _ (List.mem_append_left _ (List.mem_of_getElem? (i := 0) rfl)))) (fun _ h9 => h9) rfl (by decide +kernel) rfl rfl (Nat.le_of_ble_eq_true rfl) rfl (cl_12 i_h0 (by omega) (by omega) (by omega)) dX12_next_237 (fun f_180 H locs e_181 hI hS => ?_)
                        have k_183 : f_180 h0 = .inr (12, [.int z0, .int z1, .ref (gr g h0 2), .ref (gr g h0 3), .ref (gr g h0 4), .ref (gr g h0 5), .ref (gr g h0 6), .ref (gr g h0 7), .ref (gr g h0 8), .ref (gr g h0 9), .int z10, .ref (gr g h0 11), .int z12, .int y_6, .int v_179, .int y_23, .long y_173, .int z17, .int z18, .ref (gr g h0 19), .ref (gr g h0 20), .ref (gr g h0 21), .ref (gr g h0 22), .int z23, .long z24, .long z25, .long z26]) := by rw [e_181]; exact va_up_self _ _ _
                        have k_184 : f_180 (gr g h0 11) = .inl (gc g 0, 200, .inl q_127) := by rw [e_181, va_up_ne _ _ (ik_ne i_125 i_h0 (by decide))]; exact k_178
                        have kp_182 := Kp.put kp_176 i_h0 (by decide) e_181
                        refine lv_goto (tgt := 149) hx hb dX12_next_240 (by decide) ?_
                        exact ih v_179 y_173 f_180 _ _ _ (by omega) hI hS k_183 kp_182 (by first | omega | decide) (lv_sub hl [0] rfl)
                      refine lv_icmp_ge (tgt := 224) hx hb dX12_next_195 (by decide) (fun c_185 => ?_) (fun c_185 => ?_)
                      · have c_185 := kc_le (by decide : Int32.toInt 10 = 10) rfl c_185
                        refine lv_ldc2 hx hb hown (hts (.constantLong RX12 65 (-1)) (List.mem_cons_of_mem _ (List.mem_append_left _ (List.mem_of_getElem? (i := 14) rfl)))) dX12_next_224 ?_
                        exact J_227 (-1) _ _ _ hI hS  (lv_sub hl [0] rfl)
                      · have c_185 := kn_le (by decide : Int32.toInt 10 = 10) rfl c_185
                        refine lv_aload_n hx hb dX12_next_198 rfl (lv_at hl 0 rfl) ?_
                        refine k_get (ci := 12) (v := .long y_31) (C := RX12) (T := TX12) (N := 27) hx hb hts (fun _ h0_ => List.mem_cons_of_mem _ (List.mem_append_right _ (List.mem_append_left _ h0_))) hown hK hI i_h0.1 k_32 rfl 16 (by decide) (hts (.fieldLink RX12 180 "DeadlineShareModel" "worth" "J") (List.mem_cons_of_mem _ (List.mem_append_left _ (List.mem_of_getElem? (i := 3) rfl)))) (fun _ h9 => h9) rfl dX12_next_199 ?_
                        refine lv_ldc2 hx hb hown (hts (.constantLong RX12 193 (32)) (List.mem_cons_of_mem _ (List.mem_append_left _ (List.mem_of_getElem? (i := 15) rfl)))) dX12_next_202 ?_
                        refine lv_lmul hx hb dX12_next_205 ?_
                        refine lv_topl (fun v_186 ev_186 => ?_)
                        refine lv_aload_n hx hb dX12_next_206 rfl (lv_at hl 0 rfl) ?_
                        refine k_get (ci := 12) (v := .ref (gr g h0 11)) (C := RX12) (T := TX12) (N := 27) hx hb hts (fun _ h0_ => List.mem_cons_of_mem _ (List.mem_append_right _ (List.mem_append_left _ h0_))) hown hK hI i_h0.1 k_32 rfl 11 (by decide) (hts (.fieldLink RX12 36 "DeadlineShareModel" "tape" "[I") (List.mem_cons_of_mem _ (List.mem_append_left _ (List.mem_of_getElem? (i := 5) rfl)))) (fun _ h9 => h9) rfl dX12_next_207 ?_
                        refine lv_aload_n hx hb dX12_next_210 rfl (lv_at hl 0 rfl) ?_
                        refine k_get (ci := 12) (v := .int y_30) (C := RX12) (T := TX12) (N := 27) hx hb hts (fun _ h0_ => List.mem_cons_of_mem _ (List.mem_append_right _ (List.mem_append_left _ h0_))) hown hK hI i_h0.1 k_32 rfl 14 (by decide) (hts (.fieldLink RX12 174 "DeadlineShareModel" "to" "I") (List.mem_cons_of_mem _ (List.mem_append_left _ (List.mem_of_getElem? (i := 0) rfl)))) (fun _ h9 => h9) rfl dX12_next_211 ?_
                        refine k_iald hx hb hK hI i_125.1 0 k_126 rfl (vp_in_iff.mpr (by omega)) dX12_next_214 ?_
                        refine lv_topi (fun v_189 ev_189 => ?_)
                        refine lv_i2l (v := v_189.toInt64) hx hb dX12_next_215 rfl ?_
                        have t_190 := Int32.toInt_toInt64 v_189
                        refine lv_ladd hx hb dX12_next_216 ?_
                        refine lv_topl (fun v_191 ev_191 => ?_)
                        have tv_191 := l_ad v_186 v_189.toInt64
                        rw [← ev_191] at tv_191
                        refine lv_ldc2 hx hb hown (hts (.constantLong RX12 195 (96)) (List.mem_cons_of_mem _ (List.mem_append_left _ (List.mem_of_getElem? (i := 16) rfl)))) dX12_next_217 ?_
                        refine lv_lsub hx hb dX12_next_220 ?_
                        refine lv_topl (fun v_192 ev_192 => ?_)
                        have tv_192 := l_sb v_191 96
                        rw [← ev_192, show Int64.toInt 96 = 96 from by decide] at tv_192
                        refine lv_goto (tgt := 227) hx hb dX12_next_221 (by decide) ?_
                        exact J_227 v_192 _ _ _ hI hS  (lv_sub hl [0] rfl)
            exact K_149 _ y_6 0 f_24 _ _ _ (Nat.lt_succ_self _) hI hS k_27 kp_26 (by first | omega | decide | (simp only [show Int64.toInt 0 = 0 from by decide]; omega)) (lv_sub hl [0] rfl)
          · have c_28 := kc_eq rfl (by decide : Int32.toInt 3 = 3) c_28
            refine lv_aload_n hx hb dX12_next_125 rfl (lv_at hl 0 rfl) ?_
            refine lv_aload_n hx hb dX12_next_126 rfl (lv_at hl 0 rfl) ?_
            refine k_get (ci := 12) (v := .ref (gr g h0 11)) (C := RX12) (T := TX12) (N := 27) hx hb hts (fun _ h0_ => List.mem_cons_of_mem _ (List.mem_append_right _ (List.mem_append_left _ h0_))) hown hK hI i_h0.1 k_27 rfl 11 (by decide) (hts (.fieldLink RX12 36 "DeadlineShareModel" "tape" "[I") (List.mem_cons_of_mem _ (List.mem_append_left _ (List.mem_of_getElem? (i := 5) rfl)))) (fun _ h9 => h9) rfl dX12_next_127 ?_
            have i_194 := kw_12_11 hG i_h0
            refine lv_aload_n hx hb dX12_next_130 rfl (lv_at hl 0 rfl) ?_
            refine k_get (ci := 12) (v := .int y_6) (C := RX12) (T := TX12) (N := 27) hx hb hts (fun _ h0_ => List.mem_cons_of_mem _ (List.mem_append_right _ (List.mem_append_left _ h0_))) hown hK hI i_h0.1 k_27 rfl 13 (by decide) (hts (.fieldLink RX12 177 "DeadlineShareModel" "from" "I") (List.mem_cons_of_mem _ (List.mem_append_left _ (List.mem_of_getElem? (i := 1) rfl)))) (fun _ h9 => h9) rfl dX12_next_131 ?_
            obtain ⟨q_196, k_195⟩ := op_38 hI i_194
            refine k_iald hx hb hK hI i_194.1 0 k_195 rfl (vp_in_iff.mpr (by omega)) dX12_next_134 ?_
            refine lv_topi (fun v_197 ev_197 => ?_)
            refine lv_i2l (v := v_197.toInt64) hx hb dX12_next_135 rfl ?_
            have t_198 := Int32.toInt_toInt64 v_197
            refine k_put (ci := 12) (v := .long v_197.toInt64) (ty := .long) (C := RX12) (T := TX12) (N := 27) hx hb hts (fun _ h0_ => List.mem_cons_of_mem _ (List.mem_append_right _ (List.mem_append_left _ h0_))) tyX12 tyX12_ok nmX12 hown hK hI hS i_h0.1 k_27 rfl 16 (by decide) (hts (.fieldLink RX12 180 "DeadlineShareModel" "worth" "J") (List.mem_cons_of_mem _ (List.mem_append_left _ (List.mem_of_getElem? (i := 3) rfl)))) (fun _ h9 => h9) rfl (by decide +kernel) rfl rfl (Nat.le_of_ble_eq_true rfl) rfl (cl_12 i_h0 (by omega) (by omega) (by omega)) dX12_next_136 (fun f_199 H locs e_200 hI hS => ?_)
            have k_202 : f_199 h0 = .inr (12, [.int z0, .int z1, .ref (gr g h0 2), .ref (gr g h0 3), .ref (gr g h0 4), .ref (gr g h0 5), .ref (gr g h0 6), .ref (gr g h0 7), .ref (gr g h0 8), .ref (gr g h0 9), .int z10, .ref (gr g h0 11), .int z12, .int y_6, .int y_6, .int y_23, .long v_197.toInt64, .int z17, .int z18, .ref (gr g h0 19), .ref (gr g h0 20), .ref (gr g h0 21), .ref (gr g h0 22), .int z23, .long z24, .long z25, .long z26]) := by rw [e_200]; exact va_up_self _ _ _
            have k_203 : f_199 (gr g h0 11) = .inl (gc g 0, 200, .inl q_196) := by rw [e_200, va_up_ne _ _ (ik_ne i_194 i_h0 (by decide))]; exact k_195
            have kp_201 := Kp.put kp_26 i_h0 (by decide) e_200
            refine lv_aload_n hx hb dX12_next_139 rfl (lv_at hl 0 rfl) ?_
            refine lv_dup hx hb dX12_next_140 rfl ?_
            refine k_get (ci := 12) (v := .int y_6) (C := RX12) (T := TX12) (N := 27) hx hb hts (fun _ h0_ => List.mem_cons_of_mem _ (List.mem_append_right _ (List.mem_append_left _ h0_))) hown hK hI i_h0.1 k_202 rfl 14 (by decide) (hts (.fieldLink RX12 174 "DeadlineShareModel" "to" "I") (List.mem_cons_of_mem _ (List.mem_append_left _ (List.mem_of_getElem? (i := 0) rfl)))) (fun _ h9 => h9) rfl dX12_next_141 ?_
            refine lv_iconst (v := 1) hx hb dX12_next_144 (by decide) ?_
            refine lv_iadd hx hb dX12_next_145 ?_
            refine lv_topi (fun v_204 ev_204 => ?_)
            have tv_204 := k_ad y_6 1
            rw [← ev_204, show Int32.toInt 1 = 1 from by decide] at tv_204
            refine k_put (ci := 12) (v := .int v_204) (ty := .int) (C := RX12) (T := TX12) (N := 27) hx hb hts (fun _ h0_ => List.mem_cons_of_mem _ (List.mem_append_right _ (List.mem_append_left _ h0_))) tyX12 tyX12_ok nmX12 hown hK hI hS i_h0.1 k_202 rfl 14 (by decide) (hts (.fieldLink RX12 174 "DeadlineShareModel" "to" "I") (List.mem_cons_of_mem _ (List.mem_append_left _ (List.mem_of_getElem? (i := 0) rfl)))) (fun _ h9 => h9) rfl (by decide +kernel) rfl rfl (Nat.le_of_ble_eq_true rfl) rfl (cl_12 i_h0 (by omega) (by omega) (by omega)) dX12_next_146 (fun f_205 H locs e_206 hI hS => ?_)
            have k_208 : f_205 h0 = .inr (12, [.int z0, .int z1, .ref (gr g h0 2), .ref (gr g h0 3), .ref (gr g h0 4), .ref (gr g h0 5), .ref (gr g h0 6), .ref (gr g h0 7), .ref (gr g h0 8), .ref (gr g h0 9), .int z10, .ref (gr g h0 11), .int z12, .int y_6, .int v_204, .int y_23, .long v_197.toInt64, .int z17, .int z18, .ref (gr g h0 19), .ref (gr g h0 20), .ref (gr g h0 21), .ref (gr g h0 22), .int z23, .long z24, .long z25, .long z26]) := by rw [e_206]; exact va_up_self _ _ _
            have k_209 : f_205 (gr g h0 11) = .inl (gc g 0, 200, .inl q_196) := by rw [e_206, va_up_ne _ _ (ik_ne i_194 i_h0 (by decide))]; exact k_203
            have kp_207 := Kp.put kp_201 i_h0 (by decide) e_206
            have K_149 : ∀ (nn : Nat) (y_211 : Int32) (y_212 : Int64) (f_210 : Nat → va_E) (H : Heap) (locs : List Loc) (ls : Array Slot), (z12.toInt - y_211.toInt).toNat < nn → Iv dC dI g A f_210 H → va_S A s.heap H locs → f_210 h0 = .inr (12, [.int z0, .int z1, .ref (gr g h0 2), .ref (gr g h0 3), .ref (gr g h0 4), .ref (gr g h0 5), .ref (gr g h0 6), .ref (gr g h0 7), .ref (gr g h0 8), .ref (gr g h0 9), .int z10, .ref (gr g h0 11), .int z12, .int y_6, .int y_211, .int y_23, .long y_212, .int z17, .int z18, .ref (gr g h0 19), .ref (gr g h0 20), .ref (gr g h0 21), .ref (gr g h0 22), .int z23, .long z24, .long z25, .long z26]) → f_210 (gr g h0 11) = .inl (gc g 0, 200, .inl q_196) → Kp g [12] f f_210 → (0 ≤ y_211.toInt ∧ y_211.toInt ≤ z12.toInt) → lv_has ls 1 [(0, .ref h0)] → W p l e (headSpec wq_c_X12_next ({ frames := 1, cells := 0, slots := 0, locals := 20 } : Room)).room s m ([.ref h0].toArray) below meth c H locs 0 0 (MQ below (va_Qv (fun (_ : Unit) => True) (fun (_ : Unit) t => ∃ f1 : Nat → va_E, Iv dC dI g A f1 t.heap ∧ Kp g [12] f f1 ∧ ∃ (w13 : Int32) (w14 : Int32) (w15 : Int32) (w16 : Int64), (f1 h0 = .inr (12, [.int z0, .int z1, .ref (gr g h0 2), .ref (gr g h0 3), .ref (gr g h0 4), .ref (gr g h0 5), .ref (gr g h0 6), .ref (gr g h0 7), .ref (gr g h0 8), .ref (gr g h0 9), .int z10, .ref (gr g h0 11), .int z12, .int w13, .int w14, .int w15, .long w16, .int z17, .int z18, .ref (gr g h0 19), .ref (gr g h0 20), .ref (gr g h0 21), .ref (gr g h0 22), .int z23, .long z24, .long z25, .long z26])) ∧ (0 ≤ w14.toInt ∧ w14.toInt ≤ z12.toInt)) A) ([.ref h0].toArray) s 0 0 A) (F0 m 149 ls []) := by
              intro nn
              induction nn with
              | zero => intro y_211 y_212 f_210 H locs ls m_217; exact absurd m_217 (Nat.not_lt_zero _)
              | succ nn ih =>
                intro y_211 y_212 f_210 H locs ls m_217 hI hS k_213 k_214 kp_215 t_216 hl
                have g_218 := Int32.toInt_lt y_211
                have g_219 := Int32.le_toInt y_211
                have g_220 := Int32.toInt_lt z12
                have g_221 := Int32.le_toInt z12
                refine lv_aload_n hx hb dX12_next_149 rfl (lv_at hl 0 rfl) ?_
                refine k_get (ci := 12) (v := .int y_23) (C := RX12) (T := TX12) (N := 27) hx hb hts (fun _ h0_ => List.mem_cons_of_mem _ (List.mem_append_right _ (List.mem_append_left _ h0_))) hown hK hI i_h0.1 k_213 rfl 15 (by decide) (hts (.fieldLink RX12 190 "DeadlineShareModel" "sort" "I") (List.mem_cons_of_mem _ (List.mem_append_left _ (List.mem_of_getElem? (i := 4) rfl)))) (fun _ h9 => h9) rfl dX12_next_150 ?_
                refine lv_iconst (v := 1) hx hb dX12_next_153 (by decide) ?_
                refine lv_icmp_ne (tgt := 243) hx hb dX12_next_154 (by decide) (fun c_222 => ?_) (fun c_222 => ?_)
                · have c_222 := kn_eq rfl (by decide : Int32.toInt 1 = 1) c_222
                  have K_243 : ∀ (nn : Nat) (y_224 : Int32) (y_225 : Int64) (f_223 : Nat → va_E) (H : Heap) (locs : List Loc) (ls : Array Slot), (z12.toInt - y_224.toInt).toNat < nn → Iv dC dI g A f_223 H → va_S A s.heap H locs → f_223 h0 = .inr (12, [.int z0, .int z1, .ref (gr g h0 2), .ref (gr g h0 3), .ref (gr g h0 4), .ref (gr g h0 5), .ref (gr g h0 6), .ref (gr g h0 7), .ref (gr g h0 8), .ref (gr g h0 9), .int z10, .ref (gr g h0 11), .int z12, .int y_6, .int y_224, .int y_23, .long y_225, .int z17, .int z18, .ref (gr g h0 19), .ref (gr g h0 20), .ref (gr g h0 21), .ref (gr g h0 22), .int z23, .long z24, .long z25, .long z26]) → f_223 (gr g h0 11) = .inl (gc g 0, 200, .inl q_196) → Kp g [12] f f_223 → (0 ≤ y_224.toInt ∧ y_224.toInt ≤ z12.toInt) → lv_has ls 1 [(0, .ref h0)] → W p l e (headSpec wq_c_X12_next ({ frames := 1, cells := 0, slots := 0, locals := 20 } : Room)).room s m ([.ref h0].toArray) below meth c H locs 0 0 (MQ below (va_Qv (fun (_ : Unit) => True) (fun (_ : Unit) t => ∃ f1 : Nat → va_E, Iv dC dI g A f1 t.heap ∧ Kp g [12] f f1 ∧ ∃ (w13 : Int32) (w14 : Int32) (w15 : Int32) (w16 : Int64), (f1 h0 = .inr (12, [.int z0, .int z1, .ref (gr g h0 2), .ref (gr g h0 3), .ref (gr g h0 4), .ref (gr g h0 5), .ref (gr g h0 6), .ref (gr g h0 7), .ref (gr g h0 8), .ref (gr g h0 9), .int z10, .ref (gr g h0 11), .int z12, .int w13, .int w14, .int w15, .long w16, .int z17, .int z18, .ref (gr g h0 19), .ref (gr g h0 20), .ref (gr g h0 21), .ref (gr g h0 22), .int z23, .long z24, .long z25, .long z26])) ∧ (0 ≤ w14.toInt ∧ w14.toInt ≤ z12.toInt)) A) ([.ref h0].toArray) s 0 0 A) (F0 m 243 ls []) := by
                    intro nn
                    induction nn with
                    | zero => intro y_224 y_225 f_223 H locs ls m_230; exact absurd m_230 (Nat.not_lt_zero _)
                    | succ nn ih =>
                      intro y_224 y_225 f_223 H locs ls m_230 hI hS k_226 k_227 kp_228 t_229 hl
                      have g_231 := Int32.toInt_lt y_224
                      have g_232 := Int32.le_toInt y_224
                      have g_233 := Int32.toInt_lt z12
                      have g_234 := Int32.le_toInt z12
                      refine lv_aload_n hx hb dX12_next_243 rfl (lv_at hl 0 rfl) ?_
                      refine k_get (ci := 12) (v := .int y_23) (C := RX12) (T := TX12) (N := 27) hx hb hts (fun _ h0_ => List.mem_cons_of_mem _ (List.mem_append_right _ (List.mem_append_left _ h0_))) hown hK hI i_h0.1 k_226 rfl 15 (by decide) (hts (.fieldLink RX12 190 "DeadlineShareModel" "sort" "I") (List.mem_cons_of_mem _ (List.mem_append_left _ (List.mem_of_getElem? (i := 4) rfl)))) (fun _ h9 => h9) rfl dX12_next_244 ?_
                      refine lv_iconst (v := 2) hx hb dX12_next_247 (by decide) ?_
                      refine lv_icmp_ne (tgt := 335) hx hb dX12_next_248 (by decide) (fun c_235 => ?_) (fun c_235 => ?_)
                      · have c_235 := kn_eq rfl (by decide : Int32.toInt 2 = 2) c_235
                        exact W.vret hx hb hr (fun t ht hW => ⟨⟨(), rfl, trivial, ⟨f_223, k_ret ht hI, kp_228, y_6, y_224, y_23, y_225, k_226, (by first | omega | decide)⟩⟩, hS.F ht⟩) hS.2.2 dX12_next_335
                      · have c_235 := kc_eq rfl (by decide : Int32.toInt 2 = 2) c_235
                        refine lv_aload_n hx hb dX12_next_251 rfl (lv_at hl 0 rfl) ?_
                        refine k_get (ci := 12) (v := .int y_224) (C := RX12) (T := TX12) (N := 27) hx hb hts (fun _ h0_ => List.mem_cons_of_mem _ (List.mem_append_right _ (List.mem_append_left _ h0_))) hown hK hI i_h0.1 k_226 rfl 14 (by decide) (hts (.fieldLink RX12 174 "DeadlineShareModel" "to" "I") (List.mem_cons_of_mem _ (List.mem_append_left _ (List.mem_of_getElem? (i := 0) rfl)))) (fun _ h9 => h9) rfl dX12_next_252 ?_
                        refine lv_aload_n hx hb dX12_next_255 rfl (lv_at hl 0 rfl) ?_
                        refine k_get (ci := 12) (v := .int z12) (C := RX12) (T := TX12) (N := 27) hx hb hts (fun _ h0_ => List.mem_cons_of_mem _ (List.mem_append_right _ (List.mem_append_left _ h0_))) hown hK hI i_h0.1 k_226 rfl 12 (by decide) (hts (.fieldLink RX12 128 "DeadlineShareModel" "taped" "I") (List.mem_cons_of_mem _ (List.mem_append_left _ (List.mem_of_getElem? (i := 2) rfl)))) (fun _ h9 => h9) rfl dX12_next_256 ?_
                        refine lv_icmp_ge (tgt := 335) hx hb dX12_next_259 (by decide) (fun c_236 => ?_) (fun c_236 => ?_)
                        · have c_236 := kc_le rfl rfl c_236
                          exact W.vret hx hb hr (fun t ht hW => ⟨⟨(), rfl, trivial, ⟨f_223, k_ret ht hI, kp_228, y_6, y_224, y_23, y_225, k_226, (by first | omega | decide)⟩⟩, hS.F ht⟩) hS.2.2 dX12_next_335
                        · have c_236 := kn_le rfl rfl c_236
                          refine lv_aload_n hx hb dX12_next_262 rfl (lv_at hl 0 rfl) ?_
                          refine k_get (ci := 12) (v := .ref (gr g h0 11)) (C := RX12) (T := TX12) (N := 27) hx hb hts (fun _ h0_ => List.mem_cons_of_mem _ (List.mem_append_right _ (List.mem_append_left _ h0_))) hown hK hI i_h0.1 k_226 rfl 11 (by decide) (hts (.fieldLink RX12 36 "DeadlineShareModel" "tape" "[I") (List.mem_cons_of_mem _ (List.mem_append_left _ (List.mem_of_getElem? (i := 5) rfl)))) (fun _ h9 => h9) rfl dX12_next_263 ?_
                          refine lv_aload_n hx hb dX12_next_266 rfl (lv_at hl 0 rfl) ?_
                          refine k_get (ci := 12) (v := .int y_224) (C := RX12) (T := TX12) (N := 27) hx hb hts (fun _ h0_ => List.mem_cons_of_mem _ (List.mem_append_right _ (List.mem_append_left _ h0_))) hown hK hI i_h0.1 k_226 rfl 14 (by decide) (hts (.fieldLink RX12 174 "DeadlineShareModel" "to" "I") (List.mem_cons_of_mem _ (List.mem_append_left _ (List.mem_of_getElem? (i := 0) rfl)))) (fun _ h9 => h9) rfl dX12_next_267 ?_
                          refine k_iald hx hb hK hI i_194.1 0 k_227 rfl (vp_in_iff.mpr (by omega)) dX12_next_270 ?_
                          refine lv_topi (fun v_239 ev_239 => ?_)
                          refine va_calli (va_runS (As := [.int v_239]) (rest := []) ⟨hx, hb, hml, hown, hts⟩ (c_X12_isDigit l dC dI g A hG f_223 v_239) (va_cwS 1 hts (gi_S (fun w_ h0_ => ⟨List.mem_cons_of_mem _ (List.mem_append_right _ (List.mem_append_right _ (List.mem_append_left _ h0_))), (tb_c_X12_isDigit w_ h0_).2⟩) (List.mem_cons_of_mem _ (List.mem_append_left _ (List.mem_of_getElem? (i := 6) rfl))) (List.mem_cons_of_mem _ (List.mem_append_left _ (List.mem_of_getElem? (i := 7) rfl))) (List.mem_cons_of_mem _ (List.mem_append_left _ (List.mem_of_getElem? (i := 8) rfl)))) rfl rfl rfl (by decide +kernel) ⟨Nat.le_of_ble_eq_true rfl, Nat.le_of_ble_eq_true rfl⟩) ⟨fun a U g mk q => ⟨q.1, q.2.calling rfl rfl⟩, fun U hU hW => ⟨rfl, kIn.of hI hK hE hS hU hW⟩⟩ rfl rfl hl.1 rfl (lv_room (Nat.le_of_ble_eq_true rfl)) dX12_next_271 ⟨Nat.le_of_ble_eq_true rfl, Nat.le_of_ble_eq_true rfl⟩) hS (fun q _ h => h) (fun q h => h) (fun r_241 u t H1 locs ht hvm w_240 hB hz1 hk1 hS => ?_)
                          have hI : Iv dC dI g A f_223 t.heap := hB
                          rw [ht] at hI
                          generalize H1 = H at hI hS ⊢
                          refine W.widen (k := 0) (n := 0) (Nat.le_of_ble_eq_true rfl) (Nat.le_of_ble_eq_true rfl) ?_
                          refine lv_if_eq (tgt := 335) hx hb dX12_next_274 (by decide) (fun c_242 => ?_) (fun c_242 => ?_)
                          · have c_242 := kc_eq rfl (by decide : Int32.toInt 0 = 0) c_242
                            exact W.vret hx hb hr (fun t ht hW => ⟨⟨(), rfl, trivial, ⟨f_223, k_ret ht hI, kp_228, y_6, y_224, y_23, y_225, k_226, (by first | omega | decide)⟩⟩, hS.F ht⟩) hS.2.2 dX12_next_335
                          · have c_242 := kn_eq rfl (by decide : Int32.toInt 0 = 0) c_242
                            refine lv_aload_n hx hb dX12_next_277 rfl (lv_at hl 0 rfl) ?_
                            refine lv_aload_n hx hb dX12_next_278 rfl (lv_at hl 0 rfl) ?_
                            refine k_get (ci := 12) (v := .long y_225) (C := RX12) (T := TX12) (N := 27) hx hb hts (fun _ h0_ => List.mem_cons_of_mem _ (List.mem_append_right _ (List.mem_append_left _ h0_))) hown hK hI i_h0.1 k_226 rfl 16 (by decide) (hts (.fieldLink RX12 180 "DeadlineShareModel" "worth" "J") (List.mem_cons_of_mem _ (List.mem_append_left _ (List.mem_of_getElem? (i := 3) rfl)))) (fun _ h9 => h9) rfl dX12_next_279 ?_
                            refine lv_ldc2 hx hb hown (hts (.constantLong RX12 126 (1000000)) (List.mem_cons_of_mem _ (List.mem_append_left _ (List.mem_of_getElem? (i := 9) rfl)))) dX12_next_282 ?_
                            refine W.lcmp hx hb dX12_next_285 ?_
                            have J_319 : ∀ (y_243 : Int64) (H : Heap) (locs : List Loc) (ls : Array Slot), Iv dC dI g A f_223 H → va_S A s.heap H locs → lv_has ls 1 [(0, .ref h0)] → W p l e (headSpec wq_c_X12_next ({ frames := 1, cells := 0, slots := 0, locals := 20 } : Room)).room s m ([.ref h0].toArray) below meth c H locs 0 0 (MQ below (va_Qv (fun (_ : Unit) => True) (fun (_ : Unit) t => ∃ f1 : Nat → va_E, Iv dC dI g A f1 t.heap ∧ Kp g [12] f f1 ∧ ∃ (w13 : Int32) (w14 : Int32) (w15 : Int32) (w16 : Int64), (f1 h0 = .inr (12, [.int z0, .int z1, .ref (gr g h0 2), .ref (gr g h0 3), .ref (gr g h0 4), .ref (gr g h0 5), .ref (gr g h0 6), .ref (gr g h0 7), .ref (gr g h0 8), .ref (gr g h0 9), .int z10, .ref (gr g h0 11), .int z12, .int w13, .int w14, .int w15, .long w16, .int z17, .int z18, .ref (gr g h0 19), .ref (gr g h0 20), .ref (gr g h0 21), .ref (gr g h0 22), .int z23, .long z24, .long z25, .long z26])) ∧ (0 ≤ w14.toInt ∧ w14.toInt ≤ z12.toInt)) A) ([.ref h0].toArray) s 0 0 A) (F0 m 319 ls [.long y_243, .ref h0]) := by
                              intro y_243 H locs ls hI hS  hl
                              refine k_put (ci := 12) (v := .long y_243) (ty := .long) (C := RX12) (T := TX12) (N := 27) hx hb hts (fun _ h0_ => List.mem_cons_of_mem _ (List.mem_append_right _ (List.mem_append_left _ h0_))) tyX12 tyX12_ok nmX12 hown hK hI hS i_h0.1 k_226 rfl 16 (by decide) (hts (.fieldLink RX12 180 "DeadlineShareModel" "worth" "J") (List.mem_cons_of_mem _ (List.mem_append_left _ (List.mem_of_getElem? (i := 3) rfl)))) (fun _ h9 => h9) rfl (by decide +kernel) rfl rfl (Nat.le_of_ble_eq_true rfl) rfl (cl_12 i_h0 (by omega) (by omega) (by omega)) dX12_next_319 (fun f_244 H locs e_245 hI hS => ?_)
                              have k_247 : f_244 h0 = .inr (12, [.int z0, .int z1, .ref (gr g h0 2), .ref (gr g h0 3), .ref (gr g h0 4), .ref (gr g h0 5), .ref (gr g h0 6), .ref (gr g h0 7), .ref (gr g h0 8), .ref (gr g h0 9), .int z10, .ref (gr g h0 11), .int z12, .int y_6, .int y_224, .int y_23, .long y_243, .int z17, .int z18, .ref (gr g h0 19), .ref (gr g h0 20), .ref (gr g h0 21), .ref (gr g h0 22), .int z23, .long z24, .long z25, .long z26]) := by rw [e_245]; exact va_up_self _ _ _
                              have k_248 : f_244 (gr g h0 11) = .inl (gc g 0, 200, .inl q_196) := by rw [e_245, va_up_ne _ _ (ik_ne i_194 i_h0 (by decide))]; exact k_227
                              have kp_246 := Kp.put kp_228 i_h0 (by decide) e_245
                              refine lv_aload_n hx hb dX12_next_322 rfl (lv_at hl 0 rfl) ?_
                              refine lv_dup hx hb dX12_next_323 rfl ?_
                              refine k_get (ci := 12) (v := .int y_224) (C := RX12) (T := TX12) (N := 27) hx hb hts (fun _ h0_ => List.mem_cons_of_mem _ (List.mem_append_right _ (List.mem_append_left _ h0_))) hown hK hI i_h0.1 k_247 rfl 14 (by decide) (hts (.fieldLink RX12 174 "DeadlineShareModel" "to" "I") (List.mem_cons_of_mem _ (List.mem_append_left _ (List.mem_of_getElem? (i := 0) rfl)))) (fun _ h9 => h9) rfl dX12_next_324 ?_
                              refine lv_iconst (v := 1) hx hb dX12_next_327 (by decide) ?_
                              refine lv_iadd hx hb dX12_next_328 ?_
                              refine lv_topi (fun v_249 ev_249 => ?_)
                              have tv_249 := k_ad y_224 1
                              rw [← ev_249, show Int32.toInt 1 = 1 from by decide] at tv_249
                              refine k_put (ci := 12) (v := .int v_249) (ty := .int) (C := RX12) (T := TX12) (N := 27) hx hb hts (fun _ h0_ => List.mem_cons_of_mem _ (List.mem_append_right _ (List.mem_append_left _ h0_))) tyX12 tyX12_ok nmX12 hown hK hI hS i_h0.1 k_247 rfl 14 (by decide) (hts (.fieldLink RX12 174 "DeadlineShareModel" "to" "I") (List.mem_cons_of_mem _ (List.mem_append_left _ (List.mem_of_getElem? (i := 0) rfl)))) (fun _ h9 => h9) rfl (by decide +kernel) rfl rfl (Nat.le_of_ble_eq_true rfl) rfl (cl_12 i_h0 (by omega) (by omega) (by omega)) dX12_next_329 (fun f_250 H locs e_251 hI hS => ?_)
                              have k_253 : f_250 h0 = .inr (12, [.int z0, .int z1, .ref (gr g h0 2), .ref (gr g h0 3), .ref (gr g h0 4), .ref (gr g h0 5), .ref (gr g h0 6), .ref (gr g h0 7), .ref (gr g h0 8), .ref (gr g h0 9), .int z10, .ref (gr g h0 11), .int z12, .int y_6, .int v_249, .int y_23, .long y_243, .int z17, .int z18, .ref (gr g h0 19), .ref (gr g h0 20), .ref (gr g h0 21), .ref (gr g h0 22), .int z23, .long z24, .long z25, .long z26]) := by rw [e_251]; exact va_up_self _ _ _
                              have k_254 : f_250 (gr g h0 11) = .inl (gc g 0, 200, .inl q_196) := by rw [e_251, va_up_ne _ _ (ik_ne i_194 i_h0 (by decide))]; exact k_248
                              have kp_252 := Kp.put kp_246 i_h0 (by decide) e_251
                              refine lv_goto (tgt := 243) hx hb dX12_next_332 (by decide) ?_
                              exact ih v_249 y_243 f_250 _ _ _ (by omega) hI hS k_253 k_254 kp_252 (by first | omega | decide) (lv_sub hl [0] rfl)
                            refine lv_if_le (tgt := 296) hx hb dX12_next_286 (by decide) (fun c_255 => ?_) (fun c_255 => ?_)
                            · have c_255 := lc_le rfl (by decide : Int64.toInt 1000000 = 1000000) ((lg_cmp_le _ _).mp c_255)
                              refine lv_aload_n hx hb dX12_next_296 rfl (lv_at hl 0 rfl) ?_
                              refine k_get (ci := 12) (v := .long y_225) (C := RX12) (T := TX12) (N := 27) hx hb hts (fun _ h0_ => List.mem_cons_of_mem _ (List.mem_append_right _ (List.mem_append_left _ h0_))) hown hK hI i_h0.1 k_226 rfl 16 (by decide) (hts (.fieldLink RX12 180 "DeadlineShareModel" "worth" "J") (List.mem_cons_of_mem _ (List.mem_append_left _ (List.mem_of_getElem? (i := 3) rfl)))) (fun _ h9 => h9) rfl dX12_next_297 ?_
                              refine lv_ldc2 hx hb hown (hts (.constantLong RX12 197 (10)) (List.mem_cons_of_mem _ (List.mem_append_left _ (List.mem_of_getElem? (i := 10) rfl)))) dX12_next_300 ?_
                              refine lv_lmul hx hb dX12_next_303 ?_
                              refine lv_topl (fun v_256 ev_256 => ?_)
                              refine lv_aload_n hx hb dX12_next_304 rfl (lv_at hl 0 rfl) ?_
                              refine k_get (ci := 12) (v := .ref (gr g h0 11)) (C := RX12) (T := TX12) (N := 27) hx hb hts (fun _ h0_ => List.mem_cons_of_mem _ (List.mem_append_right _ (List.mem_append_left _ h0_))) hown hK hI i_h0.1 k_226 rfl 11 (by decide) (hts (.fieldLink RX12 36 "DeadlineShareModel" "tape" "[I") (List.mem_cons_of_mem _ (List.mem_append_left _ (List.mem_of_getElem? (i := 5) rfl)))) (fun _ h9 => h9) rfl dX12_next_305 ?_
                              refine lv_aload_n hx hb dX12_next_308 rfl (lv_at hl 0 rfl) ?_
                              refine k_get (ci := 12) (v := .int y_224) (C := RX12) (T := TX12) (N := 27) hx hb hts (fun _ h0_ => List.mem_cons_of_mem _ (List.mem_append_right _ (List.mem_append_left _ h0_))) hown hK hI i_h0.1 k_226 rfl 14 (by decide) (hts (.fieldLink RX12 174 "DeadlineShareModel" "to" "I") (List.mem_cons_of_mem _ (List.mem_append_left _ (List.mem_of_getElem? (i := 0) rfl)))) (fun _ h9 => h9) rfl dX12_next_309 ?_
                              refine k_iald hx hb hK hI i_194.1 0 k_227 rfl (vp_in_iff.mpr (by omega)) dX12_next_312 ?_
                              refine lv_topi (fun v_259 ev_259 => ?_)
                              refine lv_i2l (v := v_259.toInt64) hx hb dX12_next_313 rfl ?_
                              have t_260 := Int32.toInt_toInt64 v_259
                              refine lv_ladd hx hb dX12_next_314 ?_
                              refine lv_topl (fun v_261 ev_261 => ?_)
                              have tv_261 := l_ad v_256 v_259.toInt64
                              rw [← ev_261] at tv_261
                              refine lv_ldc2 hx hb hown (hts (.constantLong RX12 199 (48)) (List.mem_cons_of_mem _ (List.mem_append_left _ (List.mem_of_getElem? (i := 11) rfl)))) dX12_next_315 ?_
                              refine lv_lsub hx hb dX12_next_318 ?_
                              refine lv_topl (fun v_262 ev_262 => ?_)
                              have tv_262 := l_sb v_261 48
                              rw [← ev_262, show Int64.toInt 48 = 48 from by decide] at tv_262
                              exact J_319 v_262 _ _ _ hI hS  (lv_sub hl [0] rfl)
                            · have c_255 := ln_le rfl (by decide : Int64.toInt 1000000 = 1000000) (fun h9 => c_255 ((lg_cmp_le _ _).mpr h9))
                              refine lv_aload_n hx hb dX12_next_289 rfl (lv_at hl 0 rfl) ?_
                              refine k_get (ci := 12) (v := .long y_225) (C := RX12) (T := TX12) (N := 27) hx hb hts (fun _ h0_ => List.mem_cons_of_mem _ (List.mem_append_right _ (List.mem_append_left _ h0_))) hown hK hI i_h0.1 k_226 rfl 16 (by decide) (hts (.fieldLink RX12 180 "DeadlineShareModel" "worth" "J") (List.mem_cons_of_mem _ (List.mem_append_left _ (List.mem_of_getElem? (i := 3) rfl)))) (fun _ h9 => h9) rfl dX12_next_290 ?_
                              refine lv_goto (tgt := 319) hx hb dX12_next_293 (by decide) ?_
                              exact J_319 y_225 _ _ _ hI hS  (lv_sub hl [0] rfl)
                  exact K_243 _ y_211 y_212 f_210 _ _ _ (Nat.lt_succ_self _) hI hS k_213 k_214 kp_215 (by first | omega | decide) (lv_sub hl [0] rfl)
                · have c_222 := kc_eq rfl (by decide : Int32.toInt 1 = 1) c_222
                  refine lv_aload_n hx hb dX12_next_157 rfl (lv_at hl 0 rfl) ?_
                  refine k_get (ci := 12) (v := .int y_211) (C := RX12) (T := TX12) (N := 27) hx hb hts (fun _ h0_ => List.mem_cons_of_mem _ (List.mem_append_right _ (List.mem_append_left _ h0_))) hown hK hI i_h0.1 k_213 rfl 14 (by decide) (hts (.fieldLink RX12 174 "DeadlineShareModel" "to" "I") (List.mem_cons_of_mem _ (List.mem_append_left _ (List.mem_of_getElem? (i := 0) rfl)))) (fun _ h9 => h9) rfl dX12_next_158 ?_
                  refine lv_aload_n hx hb dX12_next_161 rfl (lv_at hl 0 rfl) ?_
                  refine k_get (ci := 12) (v := .int z12) (C := RX12) (T := TX12) (N := 27) hx hb hts (fun _ h0_ => List.mem_cons_of_mem _ (List.mem_append_right _ (List.mem_append_left _ h0_))) hown hK hI i_h0.1 k_213 rfl 12 (by decide) (hts (.fieldLink RX12 128 "DeadlineShareModel" "taped" "I") (List.mem_cons_of_mem _ (List.mem_append_left _ (List.mem_of_getElem? (i := 2) rfl)))) (fun _ h9 => h9) rfl dX12_next_162 ?_
                  refine lv_icmp_ge (tgt := 243) hx hb dX12_next_165 (by decide) (fun c_263 => ?_) (fun c_263 => ?_)
                  · have c_263 := kc_le rfl rfl c_263
                    have K_243 : ∀ (nn : Nat) (y_265 : Int32) (y_266 : Int64) (f_264 : Nat → va_E) (H : Heap) (locs : List Loc) (ls : Array Slot), (z12.toInt - y_265.toInt).toNat < nn → Iv dC dI g A f_264 H → va_S A s.heap H locs → f_264 h0 = .inr (12, [.int z0, .int z1, .ref (gr g h0 2), .ref (gr g h0 3), .ref (gr g h0 4), .ref (gr g h0 5), .ref (gr g h0 6), .ref (gr g h0 7), .ref (gr g h0 8), .ref (gr g h0 9), .int z10, .ref (gr g h0 11), .int z12, .int y_6, .int y_265, .int y_23, .long y_266, .int z17, .int z18, .ref (gr g h0 19), .ref (gr g h0 20), .ref (gr g h0 21), .ref (gr g h0 22), .int z23, .long z24, .long z25, .long z26]) → f_264 (gr g h0 11) = .inl (gc g 0, 200, .inl q_196) → Kp g [12] f f_264 → (0 ≤ y_265.toInt ∧ y_265.toInt ≤ z12.toInt) → lv_has ls 1 [(0, .ref h0)] → W p l e (headSpec wq_c_X12_next ({ frames := 1, cells := 0, slots := 0, locals := 20 } : Room)).room s m ([.ref h0].toArray) below meth c H locs 0 0 (MQ below (va_Qv (fun (_ : Unit) => True) (fun (_ : Unit) t => ∃ f1 : Nat → va_E, Iv dC dI g A f1 t.heap ∧ Kp g [12] f f1 ∧ ∃ (w13 : Int32) (w14 : Int32) (w15 : Int32) (w16 : Int64), (f1 h0 = .inr (12, [.int z0, .int z1, .ref (gr g h0 2), .ref (gr g h0 3), .ref (gr g h0 4), .ref (gr g h0 5), .ref (gr g h0 6), .ref (gr g h0 7), .ref (gr g h0 8), .ref (gr g h0 9), .int z10, .ref (gr g h0 11), .int z12, .int w13, .int w14, .int w15, .long w16, .int z17, .int z18, .ref (gr g h0 19), .ref (gr g h0 20), .ref (gr g h0 21), .ref (gr g h0 22), .int z23, .long z24, .long z25, .long z26])) ∧ (0 ≤ w14.toInt ∧ w14.toInt ≤ z12.toInt)) A) ([.ref h0].toArray) s 0 0 A) (F0 m 243 ls []) := by
                      intro nn
                      induction nn with
                      | zero => intro y_265 y_266 f_264 H locs ls m_271; exact absurd m_271 (Nat.not_lt_zero _)
                      | succ nn ih =>
                        intro y_265 y_266 f_264 H locs ls m_271 hI hS k_267 k_268 kp_269 t_270 hl
                        have g_272 := Int32.toInt_lt y_265
                        have g_273 := Int32.le_toInt y_265
                        have g_274 := Int32.toInt_lt z12
                        have g_275 := Int32.le_toInt z12
                        refine lv_aload_n hx hb dX12_next_243 rfl (lv_at hl 0 rfl) ?_
                        refine k_get (ci := 12) (v := .int y_23) (C := RX12) (T := TX12) (N := 27) hx hb hts (fun _ h0_ => List.mem_cons_of_mem _ (List.mem_append_right _ (List.mem_append_left _ h0_))) hown hK hI i_h0.1 k_267 rfl 15 (by decide) (hts (.fieldLink RX12 190 "DeadlineShareModel" "sort" "I") (List.mem_cons_of_mem _ (List.mem_append_left _ (List.mem_of_getElem? (i := 4) rfl)))) (fun _ h9 => h9) rfl dX12_next_244 ?_
                        refine lv_iconst (v := 2) hx hb dX12_next_247 (by decide) ?_
                        refine lv_icmp_ne (tgt := 335) hx hb dX12_next_248 (by decide) (fun c_276 => ?_) (fun c_276 => ?_)
                        · have c_276 := kn_eq rfl (by decide : Int32.toInt 2 = 2) c_276
                          exact W.vret hx hb hr (fun t ht hW => ⟨⟨(), rfl, trivial, ⟨f_264, k_ret ht hI, kp_269, y_6, y_265, y_23, y_266, k_267, (by first | omega | decide)⟩⟩, hS.F ht⟩) hS.2.2 dX12_next_335
                        · have c_276 := kc_eq rfl (by decide : Int32.toInt 2 = 2) c_276
                          refine lv_aload_n hx hb dX12_next_251 rfl (lv_at hl 0 rfl) ?_
                          refine k_get (ci := 12) (v := .int y_265) (C := RX12) (T := TX12) (N := 27) hx hb hts (fun _ h0_ => List.mem_cons_of_mem _ (List.mem_append_right _ (List.mem_append_left _ h0_))) hown hK hI i_h0.1 k_267 rfl 14 (by decide) (hts (.fieldLink RX12 174 "DeadlineShareModel" "to" "I") (List.mem_cons_of_mem _ (List.mem_append_left _ (List.mem_of_getElem? (i := 0) rfl)))) (fun _ h9 => h9) rfl dX12_next_252 ?_
                          refine lv_aload_n hx hb dX12_next_255 rfl (lv_at hl 0 rfl) ?_
                          refine k_get (ci := 12) (v := .int z12) (C := RX12) (T := TX12) (N := 27) hx hb hts (fun _ h0_ => List.mem_cons_of_mem _ (List.mem_append_right _ (List.mem_append_left _ h0_))) hown hK hI i_h0.1 k_267 rfl 12 (by decide) (hts (.fieldLink RX12 128 "DeadlineShareModel" "taped" "I") (List.mem_cons_of_mem _ (List.mem_append_left _ (List.mem_of_getElem? (i := 2) rfl)))) (fun _ h9 => h9) rfl dX12_next_256 ?_
                          refine lv_icmp_ge (tgt := 335) hx hb dX12_next_259 (by decide) (fun c_277 => ?_) (fun c_277 => ?_)
                          · have c_277 := kc_le rfl rfl c_277
                            exact W.vret hx hb hr (fun t ht hW => ⟨⟨(), rfl, trivial, ⟨f_264, k_ret ht hI, kp_269, y_6, y_265, y_23, y_266, k_267, (by first | omega | decide)⟩⟩, hS.F ht⟩) hS.2.2 dX12_next_335
                          · have c_277 := kn_le rfl rfl c_277
                            refine lv_aload_n hx hb dX12_next_262 rfl (lv_at hl 0 rfl) ?_
                            refine k_get (ci := 12) (v := .ref (gr g h0 11)) (C := RX12) (T := TX12) (N := 27) hx hb hts (fun _ h0_ => List.mem_cons_of_mem _ (List.mem_append_right _ (List.mem_append_left _ h0_))) hown hK hI i_h0.1 k_267 rfl 11 (by decide) (hts (.fieldLink RX12 36 "DeadlineShareModel" "tape" "[I") (List.mem_cons_of_mem _ (List.mem_append_left _ (List.mem_of_getElem? (i := 5) rfl)))) (fun _ h9 => h9) rfl dX12_next_263 ?_
                            refine lv_aload_n hx hb dX12_next_266 rfl (lv_at hl 0 rfl) ?_
                            refine k_get (ci := 12) (v := .int y_265) (C := RX12) (T := TX12) (N := 27) hx hb hts (fun _ h0_ => List.mem_cons_of_mem _ (List.mem_append_right _ (List.mem_append_left _ h0_))) hown hK hI i_h0.1 k_267 rfl 14 (by decide) (hts (.fieldLink RX12 174 "DeadlineShareModel" "to" "I") (List.mem_cons_of_mem _ (List.mem_append_left _ (List.mem_of_getElem? (i := 0) rfl)))) (fun _ h9 => h9) rfl dX12_next_267 ?_
                            refine k_iald hx hb hK hI i_194.1 0 k_268 rfl (vp_in_iff.mpr (by omega)) dX12_next_270 ?_
                            refine lv_topi (fun v_280 ev_280 => ?_)
                            refine va_calli (va_runS (As := [.int v_280]) (rest := []) ⟨hx, hb, hml, hown, hts⟩ (c_X12_isDigit l dC dI g A hG f_264 v_280) (va_cwS 1 hts (gi_S (fun w_ h0_ => ⟨List.mem_cons_of_mem _ (List.mem_append_right _ (List.mem_append_right _ (List.mem_append_left _ h0_))), (tb_c_X12_isDigit w_ h0_).2⟩) (List.mem_cons_of_mem _ (List.mem_append_left _ (List.mem_of_getElem? (i := 6) rfl))) (List.mem_cons_of_mem _ (List.mem_append_left _ (List.mem_of_getElem? (i := 7) rfl))) (List.mem_cons_of_mem _ (List.mem_append_left _ (List.mem_of_getElem? (i := 8) rfl)))) rfl rfl rfl (by decide +kernel) ⟨Nat.le_of_ble_eq_true rfl, Nat.le_of_ble_eq_true rfl⟩) ⟨fun a U g mk q => ⟨q.1, q.2.calling rfl rfl⟩, fun U hU hW => ⟨rfl, kIn.of hI hK hE hS hU hW⟩⟩ rfl rfl hl.1 rfl (lv_room (Nat.le_of_ble_eq_true rfl)) dX12_next_271 ⟨Nat.le_of_ble_eq_true rfl, Nat.le_of_ble_eq_true rfl⟩) hS (fun q _ h => h) (fun q h => h) (fun r_282 u t H1 locs ht hvm w_281 hB hz1 hk1 hS => ?_)
                            have hI : Iv dC dI g A f_264 t.heap := hB
                            rw [ht] at hI
                            generalize H1 = H at hI hS ⊢
                            refine W.widen (k := 0) (n := 0) (Nat.le_of_ble_eq_true rfl) (Nat.le_of_ble_eq_true rfl) ?_
                            refine lv_if_eq (tgt := 335) hx hb dX12_next_274 (by decide) (fun c_283 => ?_) (fun c_283 => ?_)
                            · have c_283 := kc_eq rfl (by decide : Int32.toInt 0 = 0) c_283
                              exact W.vret hx hb hr (fun t ht hW => ⟨⟨(), rfl, trivial, ⟨f_264, k_ret ht hI, kp_269, y_6, y_265, y_23, y_266, k_267, (by first | omega | decide)⟩⟩, hS.F ht⟩) hS.2.2 dX12_next_335
                            · have c_283 := kn_eq rfl (by decide : Int32.toInt 0 = 0) c_283
                              refine lv_aload_n hx hb dX12_next_277 rfl (lv_at hl 0 rfl) ?_
                              refine lv_aload_n hx hb dX12_next_278 rfl (lv_at hl 0 rfl) ?_
                              refine k_get (ci := 12) (v := .long y_266) (C := RX12) (T := TX12) (N := 27) hx hb hts (fun _ h0_ => List.mem_cons_of_mem _ (List.mem_append_right _ (List.mem_append_left _ h0_))) hown hK hI i_h0.1 k_267 rfl 16 (by decide) (hts (.fieldLink RX12 180 "DeadlineShareModel" "worth" "J") (List.mem_cons_of_mem _ (List.mem_append_left _ (List.mem_of_getElem? (i := 3) rfl)))) (fun _ h9 => h9) rfl dX12_next_279 ?_
                              refine lv_ldc2 hx hb hown (hts (.constantLong RX12 126 (1000000)) (List.mem_cons_of_mem _ (List.mem_append_left _ (List.mem_of_getElem? (i := 9) rfl)))) dX12_next_282 ?_
                              refine W.lcmp hx hb dX12_next_285 ?_
                              have J_319 : ∀ (y_284 : Int64) (H : Heap) (locs : List Loc) (ls : Array Slot), Iv dC dI g A f_264 H → va_S A s.heap H locs → lv_has ls 1 [(0, .ref h0)] → W p l e (headSpec wq_c_X12_next ({ frames := 1, cells := 0, slots := 0, locals := 20 } : Room)).room s m ([.ref h0].toArray) below meth c H locs 0 0 (MQ below (va_Qv (fun (_ : Unit) => True) (fun (_ : Unit) t => ∃ f1 : Nat → va_E, Iv dC dI g A f1 t.heap ∧ Kp g [12] f f1 ∧ ∃ (w13 : Int32) (w14 : Int32) (w15 : Int32) (w16 : Int64), (f1 h0 = .inr (12, [.int z0, .int z1, .ref (gr g h0 2), .ref (gr g h0 3), .ref (gr g h0 4), .ref (gr g h0 5), .ref (gr g h0 6), .ref (gr g h0 7), .ref (gr g h0 8), .ref (gr g h0 9), .int z10, .ref (gr g h0 11), .int z12, .int w13, .int w14, .int w15, .long w16, .int z17, .int z18, .ref (gr g h0 19), .ref (gr g h0 20), .ref (gr g h0 21), .ref (gr g h0 22), .int z23, .long z24, .long z25, .long z26])) ∧ (0 ≤ w14.toInt ∧ w14.toInt ≤ z12.toInt)) A) ([.ref h0].toArray) s 0 0 A) (F0 m 319 ls [.long y_284, .ref h0]) := by
                                intro y_284 H locs ls hI hS  hl
                                refine k_put (ci := 12) (v := .long y_284) (ty := .long) (C := RX12) (T := TX12) (N := 27) hx hb hts (fun _ h0_ => List.mem_cons_of_mem _ (List.mem_append_right _ (List.mem_append_left _ h0_))) tyX12 tyX12_ok nmX12 hown hK hI hS i_h0.1 k_267 rfl 16 (by decide) (hts (.fieldLink RX12 180 "DeadlineShareModel" "worth" "J") (List.mem_cons_of_mem _ (List.mem_append_left _ (List.mem_of_getElem? (i := 3) rfl)))) (fun _ h9 => h9) rfl (by decide +kernel) rfl rfl (Nat.le_of_ble_eq_true rfl) rfl (cl_12 i_h0 (by omega) (by omega) (by omega)) dX12_next_319 (fun f_285 H locs e_286 hI hS => ?_)
                                have k_288 : f_285 h0 = .inr (12, [.int z0, .int z1, .ref (gr g h0 2), .ref (gr g h0 3), .ref (gr g h0 4), .ref (gr g h0 5), .ref (gr g h0 6), .ref (gr g h0 7), .ref (gr g h0 8), .ref (gr g h0 9), .int z10, .ref (gr g h0 11), .int z12, .int y_6, .int y_265, .int y_23, .long y_284, .int z17, .int z18, .ref (gr g h0 19), .ref (gr g h0 20), .ref (gr g h0 21), .ref (gr g h0 22), .int z23, .long z24, .long z25, .long z26]) := by rw [e_286]; exact va_up_self _ _ _
                                have k_289 : f_285 (gr g h0 11) = .inl (gc g 0, 200, .inl q_196) := by rw [e_286, va_up_ne _ _ (ik_ne i_194 i_h0 (by decide))]; exact k_268
                                have kp_287 := Kp.put kp_269 i_h0 (by decide) e_286
                                refine lv_aload_n hx hb dX12_next_322 rfl (lv_at hl 0 rfl) ?_
                                refine lv_dup hx hb dX12_next_323 rfl ?_
                                refine k_get (ci := 12) (v := .int y_265) (C := RX12) (T := TX12) (N := 27) hx hb hts (fun _ h0_ => List.mem_cons_of_mem _ (List.mem_append_right _ (List.mem_append_left _ h0_))) hown hK hI i_h0.1 k_288 rfl 14 (by decide) (hts (.fieldLink RX12 174 "DeadlineShareModel" "to" "I") (List.mem_cons_of_mem _ (List.mem_append_left _ (List.mem_of_getElem? (i := 0) rfl)))) (fun _ h9 => h9) rfl dX12_next_324 ?_
                                refine lv_iconst (v := 1) hx hb dX12_next_327 (by decide) ?_
                                refine lv_iadd hx hb dX12_next_328 ?_
                                refine lv_topi (fun v_290 ev_290 => ?_)
                                have tv_290 := k_ad y_265 1
                                rw [← ev_290, show Int32.toInt 1 = 1 from by decide] at tv_290
                                refine k_put (ci := 12) (v := .int v_290) (ty := .int) (C := RX12) (T := TX12) (N := 27) hx hb hts (fun _ h0_ => List.mem_cons_of_mem _ (List.mem_append_right _ (List.mem_append_left _ h0_))) tyX12 tyX12_ok nmX12 hown hK hI hS i_h0.1 k_288 rfl 14 (by decide) (hts (.fieldLink RX12 174 "DeadlineShareModel" "to" "I") (List.mem_cons_of_mem _ (List.mem_append_left _ (List.mem_of_getElem? (i := 0) rfl)))) (fun _ h9 => h9) rfl (by decide +kernel) rfl rfl (Nat.le_of_ble_eq_true rfl) rfl (cl_12 i_h0 (by omega) (by omega) (by omega)) dX12_next_329 (fun f_291 H locs e_292 hI hS => ?_)
                                have k_294 : f_291 h0 = .inr (12, [.int z0, .int z1, .ref (gr g h0 2), .ref (gr g h0 3), .ref (gr g h0 4), .ref (gr g h0 5), .ref (gr g h0 6), .ref (gr g h0 7), .ref (gr g h0 8), .ref (gr g h0 9), .int z10, .ref (gr g h0 11), .int z12, .int y_6, .int v_290, .int y_23, .long y_284, .int z17, .int z18, .ref (gr g h0 19), .ref (gr g h0 20), .ref (gr g h0 21), .ref (gr g h0 22), .int z23, .long z24, .long z25, .long z26]) := by rw [e_292]; exact va_up_self _ _ _
                                have k_295 : f_291 (gr g h0 11) = .inl (gc g 0, 200, .inl q_196) := by rw [e_292, va_up_ne _ _ (ik_ne i_194 i_h0 (by decide))]; exact k_289
                                have kp_293 := Kp.put kp_287 i_h0 (by decide) e_292
                                refine lv_goto (tgt := 243) hx hb dX12_next_332 (by decide) ?_
                                exact ih v_290 y_284 f_291 _ _ _ (by omega) hI hS k_294 k_295 kp_293 (by first | omega | decide) (lv_sub hl [0] rfl)
                              refine lv_if_le (tgt := 296) hx hb dX12_next_286 (by decide) (fun c_296 => ?_) (fun c_296 => ?_)
                              · have c_296 := lc_le rfl (by decide : Int64.toInt 1000000 = 1000000) ((lg_cmp_le _ _).mp c_296)
                                refine lv_aload_n hx hb dX12_next_296 rfl (lv_at hl 0 rfl) ?_
                                refine k_get (ci := 12) (v := .long y_266) (C := RX12) (T := TX12) (N := 27) hx hb hts (fun _ h0_ => List.mem_cons_of_mem _ (List.mem_append_right _ (List.mem_append_left _ h0_))) hown hK hI i_h0.1 k_267 rfl 16 (by decide) (hts (.fieldLink RX12 180 "DeadlineShareModel" "worth" "J") (List.mem_cons_of_mem _ (List.mem_append_left _ (List.mem_of_getElem? (i := 3) rfl)))) (fun _ h9 => h9) rfl dX12_next_297 ?_
                                refine lv_ldc2 hx hb hown (hts (.constantLong RX12 197 (10)) (List.mem_cons_of_mem _ (List.mem_append_left _ (List.mem_of_getElem? (i := 10) rfl)))) dX12_next_300 ?_
                                refine lv_lmul hx hb dX12_next_303 ?_
                                refine lv_topl (fun v_297 ev_297 => ?_)
                                refine lv_aload_n hx hb dX12_next_304 rfl (lv_at hl 0 rfl) ?_
                                refine k_get (ci := 12) (v := .ref (gr g h0 11)) (C := RX12) (T := TX12) (N := 27) hx hb hts (fun _ h0_ => List.mem_cons_of_mem _ (List.mem_append_right _ (List.mem_append_left _ h0_))) hown hK hI i_h0.1 k_267 rfl 11 (by decide) (hts (.fieldLink RX12 36 "DeadlineShareModel" "tape" "[I") (List.mem_cons_of_mem _ (List.mem_append_left _ (List.mem_of_getElem? (i := 5) rfl)))) (fun _ h9 => h9) rfl dX12_next_305 ?_
                                refine lv_aload_n hx hb dX12_next_308 rfl (lv_at hl 0 rfl) ?_
                                refine k_get (ci := 12) (v := .int y_265) (C := RX12) (T := TX12) (N := 27) hx hb hts (fun _ h0_ => List.mem_cons_of_mem _ (List.mem_append_right _ (List.mem_append_left _ h0_))) hown hK hI i_h0.1 k_267 rfl 14 (by decide) (hts (.fieldLink RX12 174 "DeadlineShareModel" "to" "I") (List.mem_cons_of_mem _ (List.mem_append_left _ (List.mem_of_getElem? (i := 0) rfl)))) (fun _ h9 => h9) rfl dX12_next_309 ?_
                                refine k_iald hx hb hK hI i_194.1 0 k_268 rfl (vp_in_iff.mpr (by omega)) dX12_next_312 ?_
                                refine lv_topi (fun v_300 ev_300 => ?_)
                                refine lv_i2l (v := v_300.toInt64) hx hb dX12_next_313 rfl ?_
                                have t_301 := Int32.toInt_toInt64 v_300
                                refine lv_ladd hx hb dX12_next_314 ?_
                                refine lv_topl (fun v_302 ev_302 => ?_)
                                have tv_302 := l_ad v_297 v_300.toInt64
                                rw [← ev_302] at tv_302
                                refine lv_ldc2 hx hb hown (hts (.constantLong RX12 199 (48)) (List.mem_cons_of_mem _ (List.mem_append_left _ (List.mem_of_getElem? (i := 11) rfl)))) dX12_next_315 ?_
                                refine lv_lsub hx hb dX12_next_318 ?_
                                refine lv_topl (fun v_303 ev_303 => ?_)
                                have tv_303 := l_sb v_302 48
                                rw [← ev_303, show Int64.toInt 48 = 48 from by decide] at tv_303
                                exact J_319 v_303 _ _ _ hI hS  (lv_sub hl [0] rfl)
                              · have c_296 := ln_le rfl (by decide : Int64.toInt 1000000 = 1000000) (fun h9 => c_296 ((lg_cmp_le _ _).mpr h9))
                                refine lv_aload_n hx hb dX12_next_289 rfl (lv_at hl 0 rfl) ?_
                                refine k_get (ci := 12) (v := .long y_266) (C := RX12) (T := TX12) (N := 27) hx hb hts (fun _ h0_ => List.mem_cons_of_mem _ (List.mem_append_right _ (List.mem_append_left _ h0_))) hown hK hI i_h0.1 k_267 rfl 16 (by decide) (hts (.fieldLink RX12 180 "DeadlineShareModel" "worth" "J") (List.mem_cons_of_mem _ (List.mem_append_left _ (List.mem_of_getElem? (i := 3) rfl)))) (fun _ h9 => h9) rfl dX12_next_290 ?_
                                refine lv_goto (tgt := 319) hx hb dX12_next_293 (by decide) ?_
                                exact J_319 y_266 _ _ _ hI hS  (lv_sub hl [0] rfl)
                    exact K_243 _ y_211 y_212 f_210 _ _ _ (Nat.lt_succ_self _) hI hS k_213 k_214 kp_215 (by first | omega | decide) (lv_sub hl [0] rfl)
                  · have c_263 := kn_le rfl rfl c_263
                    refine lv_aload_n hx hb dX12_next_168 rfl (lv_at hl 0 rfl) ?_
                    refine k_get (ci := 12) (v := .ref (gr g h0 11)) (C := RX12) (T := TX12) (N := 27) hx hb hts (fun _ h0_ => List.mem_cons_of_mem _ (List.mem_append_right _ (List.mem_append_left _ h0_))) hown hK hI i_h0.1 k_213 rfl 11 (by decide) (hts (.fieldLink RX12 36 "DeadlineShareModel" "tape" "[I") (List.mem_cons_of_mem _ (List.mem_append_left _ (List.mem_of_getElem? (i := 5) rfl)))) (fun _ h9 => h9) rfl dX12_next_169 ?_
                    refine lv_aload_n hx hb dX12_next_172 rfl (lv_at hl 0 rfl) ?_
                    refine k_get (ci := 12) (v := .int y_211) (C := RX12) (T := TX12) (N := 27) hx hb hts (fun _ h0_ => List.mem_cons_of_mem _ (List.mem_append_right _ (List.mem_append_left _ h0_))) hown hK hI i_h0.1 k_213 rfl 14 (by decide) (hts (.fieldLink RX12 174 "DeadlineShareModel" "to" "I") (List.mem_cons_of_mem _ (List.mem_append_left _ (List.mem_of_getElem? (i := 0) rfl)))) (fun _ h9 => h9) rfl dX12_next_173 ?_
                    refine k_iald hx hb hK hI i_194.1 0 k_214 rfl (vp_in_iff.mpr (by omega)) dX12_next_176 ?_
                    refine lv_topi (fun v_306 ev_306 => ?_)
                    refine va_calli (va_runS (As := [.int v_306]) (rest := []) ⟨hx, hb, hml, hown, hts⟩ (c_X12_isSmall l dC dI g A hG f_210 v_306) (va_cwS 1 hts (gi_S (fun w_ h0_ => ⟨List.mem_cons_of_mem _ (List.mem_append_right _ (List.mem_append_right _ (List.mem_append_right _ (List.mem_append_left _ h0_)))), (tb_c_X12_isSmall w_ h0_).2⟩) (List.mem_cons_of_mem _ (List.mem_append_left _ (List.mem_of_getElem? (i := 12) rfl))) (List.mem_cons_of_mem _ (List.mem_append_left _ (List.mem_of_getElem? (i := 13) rfl))) (List.mem_cons_of_mem _ (List.mem_append_left _ (List.mem_of_getElem? (i := 8) rfl)))) rfl rfl rfl (by decide +kernel) ⟨Nat.le_of_ble_eq_true rfl, Nat.le_of_ble_eq_true rfl⟩) ⟨fun a U g mk q => ⟨q.1, q.2.calling rfl rfl⟩, fun U hU hW => ⟨rfl, kIn.of hI hK hE hS hU hW⟩⟩ rfl rfl hl.1 rfl (lv_room (Nat.le_of_ble_eq_true rfl)) dX12_next_177 ⟨Nat.le_of_ble_eq_true rfl, Nat.le_of_ble_eq_true rfl⟩) hS (fun q _ h => h) (fun q h => h) (fun r_308 u t H1 locs ht hvm w_307 hB hz1 hk1 hS => ?_)
                    have hI : Iv dC dI g A f_210 t.heap := hB
                    rw [ht] at hI
                    generalize H1 = H at hI hS ⊢
                    refine W.widen (k := 0) (n := 0) (Nat.le_of_ble_eq_true rfl) (Nat.le_of_ble_eq_true rfl) ?_
                    refine lv_if_eq (tgt := 243) hx hb dX12_next_180 (by decide) (fun c_309 => ?_) (fun c_309 => ?_)
                    · have c_309 := kc_eq rfl (by decide : Int32.toInt 0 = 0) c_309
                      have K_243 : ∀ (nn : Nat) (y_311 : Int32) (y_312 : Int64) (f_310 : Nat → va_E) (H : Heap) (locs : List Loc) (ls : Array Slot), (z12.toInt - y_311.toInt).toNat < nn → Iv dC dI g A f_310 H → va_S A s.heap H locs → f_310 h0 = .inr (12, [.int z0, .int z1, .ref (gr g h0 2), .ref (gr g h0 3), .ref (gr g h0 4), .ref (gr g h0 5), .ref (gr g h0 6), .ref (gr g h0 7), .ref (gr g h0 8), .ref (gr g h0 9), .int z10, .ref (gr g h0 11), .int z12, .int y_6, .int y_311, .int y_23, .long y_312, .int z17, .int z18, .ref (gr g h0 19), .ref (gr g h0 20), .ref (gr g h0 21), .ref (gr g h0 22), .int z23, .long z24, .long z25, .long z26]) → f_310 (gr g h0 11) = .inl (gc g 0, 200, .inl q_196) → Kp g [12] f f_310 → (0 ≤ y_311.toInt ∧ y_311.toInt ≤ z12.toInt) → lv_has ls 1 [(0, .ref h0)] → W p l e (headSpec wq_c_X12_next ({ frames := 1, cells := 0, slots := 0, locals := 20 } : Room)).room s m ([.ref h0].toArray) below meth c H locs 0 0 (MQ below (va_Qv (fun (_ : Unit) => True) (fun (_ : Unit) t => ∃ f1 : Nat → va_E, Iv dC dI g A f1 t.heap ∧ Kp g [12] f f1 ∧ ∃ (w13 : Int32) (w14 : Int32) (w15 : Int32) (w16 : Int64), (f1 h0 = .inr (12, [.int z0, .int z1, .ref (gr g h0 2), .ref (gr g h0 3), .ref (gr g h0 4), .ref (gr g h0 5), .ref (gr g h0 6), .ref (gr g h0 7), .ref (gr g h0 8), .ref (gr g h0 9), .int z10, .ref (gr g h0 11), .int z12, .int w13, .int w14, .int w15, .long w16, .int z17, .int z18, .ref (gr g h0 19), .ref (gr g h0 20), .ref (gr g h0 21), .ref (gr g h0 22), .int z23, .long z24, .long z25, .long z26])) ∧ (0 ≤ w14.toInt ∧ w14.toInt ≤ z12.toInt)) A) ([.ref h0].toArray) s 0 0 A) (F0 m 243 ls []) := by
                        intro nn
                        induction nn with
                        | zero => intro y_311 y_312 f_310 H locs ls m_317; exact absurd m_317 (Nat.not_lt_zero _)
                        | succ nn ih =>
                          intro y_311 y_312 f_310 H locs ls m_317 hI hS k_313 k_314 kp_315 t_316 hl
                          have g_318 := Int32.toInt_lt y_311
                          have g_319 := Int32.le_toInt y_311
                          have g_320 := Int32.toInt_lt z12
                          have g_321 := Int32.le_toInt z12
                          refine lv_aload_n hx hb dX12_next_243 rfl (lv_at hl 0 rfl) ?_
                          refine k_get (ci := 12) (v := .int y_23) (C := RX12) (T := TX12) (N := 27) hx hb hts (fun _ h0_ => List.mem_cons_of_mem _ (List.mem_append_right _ (List.mem_append_left _ h0_))) hown hK hI i_h0.1 k_313 rfl 15 (by decide) (hts (.fieldLink RX12 190 "DeadlineShareModel" "sort" "I") (List.mem_cons_of_mem _ (List.mem_append_left _ (List.mem_of_getElem? (i := 4) rfl)))) (fun _ h9 => h9) rfl dX12_next_244 ?_
                          refine lv_iconst (v := 2) hx hb dX12_next_247 (by decide) ?_
                          refine lv_icmp_ne (tgt := 335) hx hb dX12_next_248 (by decide) (fun c_322 => ?_) (fun c_322 => ?_)
                          · have c_322 := kn_eq rfl (by decide : Int32.toInt 2 = 2) c_322
                            exact W.vret hx hb hr (fun t ht hW => ⟨⟨(), rfl, trivial, ⟨f_310, k_ret ht hI, kp_315, y_6, y_311, y_23, y_312, k_313, (by first | omega | decide)⟩⟩, hS.F ht⟩) hS.2.2 dX12_next_335
                          · have c_322 := kc_eq rfl (by decide : Int32.toInt 2 = 2) c_322
                            refine lv_aload_n hx hb dX12_next_251 rfl (lv_at hl 0 rfl) ?_
                            refine k_get (ci := 12) (v := .int y_311) (C := RX12) (T := TX12) (N := 27) hx hb hts (fun _ h0_ => List.mem_cons_of_mem _ (List.mem_append_right _ (List.mem_append_left _ h0_))) hown hK hI i_h0.1 k_313 rfl 14 (by decide) (hts (.fieldLink RX12 174 "DeadlineShareModel" "to" "I") (List.mem_cons_of_mem _ (List.mem_append_left _ (List.mem_of_getElem? (i := 0) rfl)))) (fun _ h9 => h9) rfl dX12_next_252 ?_
                            refine lv_aload_n hx hb dX12_next_255 rfl (lv_at hl 0 rfl) ?_
                            refine k_get (ci := 12) (v := .int z12) (C := RX12) (T := TX12) (N := 27) hx hb hts (fun _ h0_ => List.mem_cons_of_mem _ (List.mem_append_right _ (List.mem_append_left _ h0_))) hown hK hI i_h0.1 k_313 rfl 12 (by decide) (hts (.fieldLink RX12 128 "DeadlineShareModel" "taped" "I") (List.mem_cons_of_mem _ (List.mem_append_left _ (List.mem_of_getElem? (i := 2) rfl)))) (fun _ h9 => h9) rfl dX12_next_256 ?_
                            refine lv_icmp_ge (tgt := 335) hx hb dX12_next_259 (by decide) (fun c_323 => ?_) (fun c_323 => ?_)
                            · have c_323 := kc_le rfl rfl c_323
                              exact W.vret hx hb hr (fun t ht hW => ⟨⟨(), rfl, trivial, ⟨f_310, k_ret ht hI, kp_315, y_6, y_311, y_23, y_312, k_313, (by first | omega | decide)⟩⟩, hS.F ht⟩) hS.2.2 dX12_next_335
                            · have c_323 := kn_le rfl rfl c_323
                              refine lv_aload_n hx hb dX12_next_262 rfl (lv_at hl 0 rfl) ?_
                              refine k_get (ci := 12) (v := .ref (gr g h0 11)) (C := RX12) (T := TX12) (N := 27) hx hb hts (fun _ h0_ => List.mem_cons_of_mem _ (List.mem_append_right _ (List.mem_append_left _ h0_))) hown hK hI i_h0.1 k_313 rfl 11 (by decide) (hts (.fieldLink RX12 36 "DeadlineShareModel" "tape" "[I") (List.mem_cons_of_mem _ (List.mem_append_left _ (List.mem_of_getElem? (i := 5) rfl)))) (fun _ h9 => h9) rfl dX12_next_263 ?_
                              refine lv_aload_n hx hb dX12_next_266 rfl (lv_at hl 0 rfl) ?_
                              refine k_get (ci := 12) (v := .int y_311) (C := RX12) (T := TX12) (N := 27) hx hb hts (fun _ h0_ => List.mem_cons_of_mem _ (List.mem_append_right _ (List.mem_append_left _ h0_))) hown hK hI i_h0.1 k_313 rfl 14 (by decide) (hts (.fieldLink RX12 174 "DeadlineShareModel" "to" "I") (List.mem_cons_of_mem _ (List.mem_append_left _ (List.mem_of_getElem? (i := 0) rfl)))) (fun _ h9 => h9) rfl dX12_next_267 ?_
                              refine k_iald hx hb hK hI i_194.1 0 k_314 rfl (vp_in_iff.mpr (by omega)) dX12_next_270 ?_
                              refine lv_topi (fun v_326 ev_326 => ?_)
                              refine va_calli (va_runS (As := [.int v_326]) (rest := []) ⟨hx, hb, hml, hown, hts⟩ (c_X12_isDigit l dC dI g A hG f_310 v_326) (va_cwS 1 hts (gi_S (fun w_ h0_ => ⟨List.mem_cons_of_mem _ (List.mem_append_right _ (List.mem_append_right _ (List.mem_append_left _ h0_))), (tb_c_X12_isDigit w_ h0_).2⟩) (List.mem_cons_of_mem _ (List.mem_append_left _ (List.mem_of_getElem? (i := 6) rfl))) (List.mem_cons_of_mem _ (List.mem_append_left _ (List.mem_of_getElem? (i := 7) rfl))) (List.mem_cons_of_mem _ (List.mem_append_left _ (List.mem_of_getElem? (i := 8) rfl)))) rfl rfl rfl (by decide +kernel) ⟨Nat.le_of_ble_eq_true rfl, Nat.le_of_ble_eq_true rfl⟩) ⟨fun a U g mk q => ⟨q.1, q.2.calling rfl rfl⟩, fun U hU hW => ⟨rfl, kIn.of hI hK hE hS hU hW⟩⟩ rfl rfl hl.1 rfl (lv_room (Nat.le_of_ble_eq_true rfl)) dX12_next_271 ⟨Nat.le_of_ble_eq_true rfl, Nat.le_of_ble_eq_true rfl⟩) hS (fun q _ h => h) (fun q h => h) (fun r_328 u t H1 locs ht hvm w_327 hB hz1 hk1 hS => ?_)
                              have hI : Iv dC dI g A f_310 t.heap := hB
                              rw [ht] at hI
                              generalize H1 = H at hI hS ⊢
                              refine W.widen (k := 0) (n := 0) (Nat.le_of_ble_eq_true rfl) (Nat.le_of_ble_eq_true rfl) ?_
                              refine lv_if_eq (tgt := 335) hx hb dX12_next_274 (by decide) (fun c_329 => ?_) (fun c_329 => ?_)
                              · have c_329 := kc_eq rfl (by decide : Int32.toInt 0 = 0) c_329
                                exact W.vret hx hb hr (fun t ht hW => ⟨⟨(), rfl, trivial, ⟨f_310, k_ret ht hI, kp_315, y_6, y_311, y_23, y_312, k_313, (by first | omega | decide)⟩⟩, hS.F ht⟩) hS.2.2 dX12_next_335
                              · have c_329 := kn_eq rfl (by decide : Int32.toInt 0 = 0) c_329
                                refine lv_aload_n hx hb dX12_next_277 rfl (lv_at hl 0 rfl) ?_
                                refine lv_aload_n hx hb dX12_next_278 rfl (lv_at hl 0 rfl) ?_
                                refine k_get (ci := 12) (v := .long y_312) (C := RX12) (T := TX12) (N := 27) hx hb hts (fun _ h0_ => List.mem_cons_of_mem _ (List.mem_append_right _ (List.mem_append_left _ h0_))) hown hK hI i_h0.1 k_313 rfl 16 (by decide) (hts (.fieldLink RX12 180 "DeadlineShareModel" "worth" "J") (List.mem_cons_of_mem _ (List.mem_append_left _ (List.mem_of_getElem? (i := 3) rfl)))) (fun _ h9 => h9) rfl dX12_next_279 ?_
                                refine lv_ldc2 hx hb hown (hts (.constantLong RX12 126 (1000000)) (List.mem_cons_of_mem _ (List.mem_append_left _ (List.mem_of_getElem? (i := 9) rfl)))) dX12_next_282 ?_
                                refine W.lcmp hx hb dX12_next_285 ?_
                                have J_319 : ∀ (y_330 : Int64) (H : Heap) (locs : List Loc) (ls : Array Slot), Iv dC dI g A f_310 H → va_S A s.heap H locs → lv_has ls 1 [(0, .ref h0)] → W p l e (headSpec wq_c_X12_next ({ frames := 1, cells := 0, slots := 0, locals := 20 } : Room)).room s m ([.ref h0].toArray) below meth c H locs 0 0 (MQ below (va_Qv (fun (_ : Unit) => True) (fun (_ : Unit) t => ∃ f1 : Nat → va_E, Iv dC dI g A f1 t.heap ∧ Kp g [12] f f1 ∧ ∃ (w13 : Int32) (w14 : Int32) (w15 : Int32) (w16 : Int64), (f1 h0 = .inr (12, [.int z0, .int z1, .ref (gr g h0 2), .ref (gr g h0 3), .ref (gr g h0 4), .ref (gr g h0 5), .ref (gr g h0 6), .ref (gr g h0 7), .ref (gr g h0 8), .ref (gr g h0 9), .int z10, .ref (gr g h0 11), .int z12, .int w13, .int w14, .int w15, .long w16, .int z17, .int z18, .ref (gr g h0 19), .ref (gr g h0 20), .ref (gr g h0 21), .ref (gr g h0 22), .int z23, .long z24, .long z25, .long z26])) ∧ (0 ≤ w14.toInt ∧ w14.toInt ≤ z12.toInt)) A) ([.ref h0].toArray) s 0 0 A) (F0 m 319 ls [.long y_330, .ref h0]) := by
                                  intro y_330 H locs ls hI hS  hl
                                  refine k_put (ci := 12) (v := .long y_330) (ty := .long) (C := RX12) (T := TX12) (N := 27) hx hb hts (fun _ h0_ => List.mem_cons_of_mem _ (List.mem_append_right _ (List.mem_append_left _ h0_))) tyX12 tyX12_ok nmX12 hown hK hI hS i_h0.1 k_313 rfl 16 (by decide) (hts (.fieldLink RX12 180 "DeadlineShareModel" "worth" "J") (List.mem_cons_of_mem _ (List.mem_append_left _ (List.mem_of_getElem? (i := 3) rfl)))) (fun _ h9 => h9) rfl (by decide +kernel) rfl rfl (Nat.le_of_ble_eq_true rfl) rfl (cl_12 i_h0 (by omega) (by omega) (by omega)) dX12_next_319 (fun f_331 H locs e_332 hI hS => ?_)
                                  have k_334 : f_331 h0 = .inr (12, [.int z0, .int z1, .ref (gr g h0 2), .ref (gr g h0 3), .ref (gr g h0 4), .ref (gr g h0 5), .ref (gr g h0 6), .ref (gr g h0 7), .ref (gr g h0 8), .ref (gr g h0 9), .int z10, .ref (gr g h0 11), .int z12, .int y_6, .int y_311, .int y_23, .long y_330, .int z17, .int z18, .ref (gr g h0 19), .ref (gr g h0 20), .ref (gr g h0 21), .ref (gr g h0 22), .int z23, .long z24, .long z25, .long z26]) := by rw [e_332]; exact va_up_self _ _ _
                                  have k_335 : f_331 (gr g h0 11) = .inl (gc g 0, 200, .inl q_196) := by rw [e_332, va_up_ne _ _ (ik_ne i_194 i_h0 (by decide))]; exact k_314
                                  have kp_333 := Kp.put kp_315 i_h0 (by decide) e_332
                                  refine lv_aload_n hx hb dX12_next_322 rfl (lv_at hl 0 rfl) ?_
                                  refine lv_dup hx hb dX12_next_323 rfl ?_
                                  refine k_get (ci := 12) (v := .int y_311) (C := RX12) (T := TX12) (N := 27) hx hb hts (fun _ h0_ => List.mem_cons_of_mem _ (List.mem_append_right _ (List.mem_append_left _ h0_))) hown hK hI i_h0.1 k_334 rfl 14 (by decide) (hts (.fieldLink RX12 174 "DeadlineShareModel" "to" "I") (List.mem_cons_of_mem _ (List.mem_append_left _ (List.mem_of_getElem? (i := 0) rfl)))) (fun _ h9 => h9) rfl dX12_next_324 ?_
                                  refine lv_iconst (v := 1) hx hb dX12_next_327 (by decide) ?_
                                  refine lv_iadd hx hb dX12_next_328 ?_
                                  refine lv_topi (fun v_336 ev_336 => ?_)
                                  have tv_336 := k_ad y_311 1
                                  rw [← ev_336, show Int32.toInt 1 = 1 from by decide] at tv_336
                                  refine k_put (ci := 12) (v := .int v_336) (ty := .int) (C := RX12) (T := TX12) (N := 27) hx hb hts (fun _ h0_ => List.mem_cons_of_mem _ (List.mem_append_right _ (List.mem_append_left _ h0_))) tyX12 tyX12_ok nmX12 hown hK hI hS i_h0.1 k_334 rfl 14 (by decide) (hts (.fieldLink RX12 174 "DeadlineShareModel" "to" "I") (List.mem_cons_of_mem _ (List.mem_append_left _ (List.mem_of_getElem? (i := 0) rfl)))) (fun _ h9 => h9) rfl (by decide +kernel) rfl rfl (Nat.le_of_ble_eq_true rfl) rfl (cl_12 i_h0 (by omega) (by omega) (by omega)) dX12_next_329 (fun f_337 H locs e_338 hI hS => ?_)
                                  have k_340 : f_337 h0 = .inr (12, [.int z0, .int z1, .ref (gr g h0 2), .ref (gr g h0 3), .ref (gr g h0 4), .ref (gr g h0 5), .ref (gr g h0 6), .ref (gr g h0 7), .ref (gr g h0 8), .ref (gr g h0 9), .int z10, .ref (gr g h0 11), .int z12, .int y_6, .int v_336, .int y_23, .long y_330, .int z17, .int z18, .ref (gr g h0 19), .ref (gr g h0 20), .ref (gr g h0 21), .ref (gr g h0 22), .int z23, .long z24, .long z25, .long z26]) := by rw [e_338]; exact va_up_self _ _ _
                                  have k_341 : f_337 (gr g h0 11) = .inl (gc g 0, 200, .inl q_196) := by rw [e_338, va_up_ne _ _ (ik_ne i_194 i_h0 (by decide))]; exact k_335
                                  have kp_339 := Kp.put kp_333 i_h0 (by decide) e_338
                                  refine lv_goto (tgt := 243) hx hb dX12_next_332 (by decide) ?_
                                  exact ih v_336 y_330 f_337 _ _ _ (by omega) hI hS k_340 k_341 kp_339 (by first | omega | decide) (lv_sub hl [0] rfl)
                                refine lv_if_le (tgt := 296) hx hb dX12_next_286 (by decide) (fun c_342 => ?_) (fun c_342 => ?_)
                                · have c_342 := lc_le rfl (by decide : Int64.toInt 1000000 = 1000000) ((lg_cmp_le _ _).mp c_342)
                                  refine lv_aload_n hx hb dX12_next_296 rfl (lv_at hl 0 rfl) ?_
                                  refine k_get (ci := 12) (v := .long y_312) (C := RX12) (T := TX12) (N := 27) hx hb hts (fun _ h0_ => List.mem_cons_of_mem _ (List.mem_append_right _ (List.mem_append_left _ h0_))) hown hK hI i_h0.1 k_313 rfl 16 (by decide) (hts (.fieldLink RX12 180 "DeadlineShareModel" "worth" "J") (List.mem_cons_of_mem _ (List.mem_append_left _ (List.mem_of_getElem? (i := 3) rfl)))) (fun _ h9 => h9) rfl dX12_next_297 ?_
                                  refine lv_ldc2 hx hb hown (hts (.constantLong RX12 197 (10)) (List.mem_cons_of_mem _ (List.mem_append_left _ (List.mem_of_getElem? (i := 10) rfl)))) dX12_next_300 ?_
                                  refine lv_lmul hx hb dX12_next_303 ?_
                                  refine lv_topl (fun v_343 ev_343 => ?_)
                                  refine lv_aload_n hx hb dX12_next_304 rfl (lv_at hl 0 rfl) ?_
                                  refine k_get (ci := 12) (v := .ref (gr g h0 11)) (C := RX12) (T := TX12) (N := 27) hx hb hts (fun _ h0_ => List.mem_cons_of_mem _ (List.mem_append_right _ (List.mem_append_left _ h0_))) hown hK hI i_h0.1 k_313 rfl 11 (by decide) (hts (.fieldLink RX12 36 "DeadlineShareModel" "tape" "[I") (List.mem_cons_of_mem _ (List.mem_append_left _ (List.mem_of_getElem? (i := 5) rfl)))) (fun _ h9 => h9) rfl dX12_next_305 ?_
                                  refine lv_aload_n hx hb dX12_next_308 rfl (lv_at hl 0 rfl) ?_
                                  refine k_get (ci := 12) (v := .int y_311) (C := RX12) (T := TX12) (N := 27) hx hb hts (fun _ h0_ => List.mem_cons_of_mem _ (List.mem_append_right _ (List.mem_append_left _ h0_))) hown hK hI i_h0.1 k_313 rfl 14 (by decide) (hts (.fieldLink RX12 174 "DeadlineShareModel" "to" "I") (List.mem_cons_of_mem _ (List.mem_append_left _ (List.mem_of_getElem? (i := 0) rfl)))) (fun _ h9 => h9) rfl dX12_next_309 ?_
                                  refine k_iald hx hb hK hI i_194.1 0 k_314 rfl (vp_in_iff.mpr (by omega)) dX12_next_312 ?_
                                  refine lv_topi (fun v_346 ev_346 => ?_)
                                  refine lv_i2l (v := v_346.toInt64) hx hb dX12_next_313 rfl ?_
                                  have t_347 := Int32.toInt_toInt64 v_346
                                  refine lv_ladd hx hb dX12_next_314 ?_
                                  refine lv_topl (fun v_348 ev_348 => ?_)
                                  have tv_348 := l_ad v_343 v_346.toInt64
                                  rw [← ev_348] at tv_348
                                  refine lv_ldc2 hx hb hown (hts (.constantLong RX12 199 (48)) (List.mem_cons_of_mem _ (List.mem_append_left _ (List.mem_of_getElem? (i := 11) rfl)))) dX12_next_315 ?_
                                  refine lv_lsub hx hb dX12_next_318 ?_
                                  refine lv_topl (fun v_349 ev_349 => ?_)
                                  have tv_349 := l_sb v_348 48
                                  rw [← ev_349, show Int64.toInt 48 = 48 from by decide] at tv_349
                                  exact J_319 v_349 _ _ _ hI hS  (lv_sub hl [0] rfl)
                                · have c_342 := ln_le rfl (by decide : Int64.toInt 1000000 = 1000000) (fun h9 => c_342 ((lg_cmp_le _ _).mpr h9))
                                  refine lv_aload_n hx hb dX12_next_289 rfl (lv_at hl 0 rfl) ?_
                                  refine k_get (ci := 12) (v := .long y_312) (C := RX12) (T := TX12) (N := 27) hx hb hts (fun _ h0_ => List.mem_cons_of_mem _ (List.mem_append_right _ (List.mem_append_left _ h0_))) hown hK hI i_h0.1 k_313 rfl 16 (by decide) (hts (.fieldLink RX12 180 "DeadlineShareModel" "worth" "J") (List.mem_cons_of_mem _ (List.mem_append_left _ (List.mem_of_getElem? (i := 3) rfl)))) (fun _ h9 => h9) rfl dX12_next_290 ?_
                                  refine lv_goto (tgt := 319) hx hb dX12_next_293 (by decide) ?_
                                  exact J_319 y_312 _ _ _ hI hS  (lv_sub hl [0] rfl)
                      exact K_243 _ y_211 y_212 f_210 _ _ _ (Nat.lt_succ_self _) hI hS k_213 k_214 kp_215 (by first | omega | decide) (lv_sub hl [0] rfl)
                    · have c_309 := kn_eq rfl (by decide : Int32.toInt 0 = 0) c_309
                      refine lv_aload_n hx hb dX12_next_183 rfl (lv_at hl 0 rfl) ?_
                      refine lv_aload_n hx hb dX12_next_184 rfl (lv_at hl 0 rfl) ?_
                      refine k_get (ci := 12) (v := .int y_211) (C := RX12) (T := TX12) (N := 27) hx hb hts (fun _ h0_ => List.mem_cons_of_mem _ (List.mem_append_right _ (List.mem_append_left _ h0_))) hown hK hI i_h0.1 k_213 rfl 14 (by decide) (hts (.fieldLink RX12 174 "DeadlineShareModel" "to" "I") (List.mem_cons_of_mem _ (List.mem_append_left _ (List.mem_of_getElem? (i := 0) rfl)))) (fun _ h9 => h9) rfl dX12_next_185 ?_
                      refine lv_aload_n hx hb dX12_next_188 rfl (lv_at hl 0 rfl) ?_
                      refine k_get (ci := 12) (v := .int y_6) (C := RX12) (T := TX12) (N := 27) hx hb hts (fun _ h0_ => List.mem_cons_of_mem _ (List.mem_append_right _ (List.mem_append_left _ h0_))) hown hK hI i_h0.1 k_213 rfl 13 (by decide) (hts (.fieldLink RX12 177 "DeadlineShareModel" "from" "I") (List.mem_cons_of_mem _ (List.mem_append_left _ (List.mem_of_getElem? (i := 1) rfl)))) (fun _ h9 => h9) rfl dX12_next_189 ?_
                      refine lv_isub hx hb dX12_next_192 ?_
                      refine lv_topi (fun v_350 ev_350 => ?_)
                      have tv_350 := k_sb y_211 y_6
                      rw [← ev_350] at tv_350
                      refine lv_bipush (v := 10) hx hb dX12_next_193 (by decide) ?_
                      have J_227 : ∀ (y_351 : Int64) (H : Heap) (locs : List Loc) (ls : Array Slot), Iv dC dI g A f_210 H → va_S A s.heap H locs → lv_has ls 1 [(0, .ref h0)] → W p l e (headSpec wq_c_X12_next ({ frames := 1, cells := 0, slots := 0, locals := 20 } : Room)).room s m ([.ref h0].toArray) below meth c H locs 0 0 (MQ below (va_Qv (fun (_ : Unit) => True) (fun (_ : Unit) t => ∃ f1 : Nat → va_E, Iv dC dI g A f1 t.heap ∧ Kp g [12] f f1 ∧ ∃ (w13 : Int32) (w14 : Int32) (w15 : Int32) (w16 : Int64), (f1 h0 = .inr (12, [.int z0, .int z1, .ref (gr g h0 2), .ref (gr g h0 3), .ref (gr g h0 4), .ref (gr g h0 5), .ref (gr g h0 6), .ref (gr g h0 7), .ref (gr g h0 8), .ref (gr g h0 9), .int z10, .ref (gr g h0 11), .int z12, .int w13, .int w14, .int w15, .long w16, .int z17, .int z18, .ref (gr g h0 19), .ref (gr g h0 20), .ref (gr g h0 21), .ref (gr g h0 22), .int z23, .long z24, .long z25, .long z26])) ∧ (0 ≤ w14.toInt ∧ w14.toInt ≤ z12.toInt)) A) ([.ref h0].toArray) s 0 0 A) (F0 m 227 ls [.long y_351, .ref h0]) := by
                        intro y_351 H locs ls hI hS  hl
                        refine k_put (ci := 12) (v := .long y_351) (ty := .long) (C := RX12) (T := TX12) (N := 27) hx hb hts (fun _ h0_ => List.mem_cons_of_mem _ (List.mem_append_right _ (List.mem_append_left _ h0_))) tyX12 tyX12_ok nmX12 hown hK hI hS i_h0.1 k_213 rfl 16 (by decide) (hts (.fieldLink RX12 180 "DeadlineShareModel" "worth" "J") (List.mem_cons_of_mem _ (List.mem_append_left _ (List.mem_of_getElem? (i := 3) rfl)))) (fun _ h9 => h9) rfl (by decide +kernel) rfl rfl (Nat.le_of_ble_eq_true rfl) rfl (cl_12 i_h0 (by omega) (by omega) (by omega)) dX12_next_227 (fun f_352 H locs e_353 hI hS => ?_)
                        have k_355 : f_352 h0 = .inr (12, [.int z0, .int z1, .ref (gr g h0 2), .ref (gr g h0 3), .ref (gr g h0 4), .ref (gr g h0 5), .ref (gr g h0 6), .ref (gr g h0 7), .ref (gr g h0 8), .ref (gr g h0 9), .int z10, .ref (gr g h0 11), .int z12, .int y_6, .int y_211, .int y_23, .long y_351, .int z17, .int z18, .ref (gr g h0 19), .ref (gr g h0 20), .ref (gr g h0 21), .ref (gr g h0 22), .int z23, .long z24, .long z25, .long z26]) := by rw [e_353]; exact va_up_self _ _ _
                        have k_356 : f_352 (gr g h0 11) = .inl (gc g 0, 200, .inl q_196) := by rw [e_353, va_up_ne _ _ (ik_ne i_194 i_h0 (by decide))]; exact k_214
                        have kp_354 := Kp.put kp_215 i_h0 (by decide) e_353
                        refine lv_aload_n hx hb dX12_next_230 rfl (lv_at hl 0 rfl) ?_
                        refine lv_dup hx hb dX12_next_231 rfl ?_
                        refine k_get (ci := 12) (v := .int y_211) (C := RX12) (T := TX12) (N := 27) hx hb hts (fun _ h0_ => List.mem_cons_of_mem _ (List.mem_append_right _ (List.mem_append_left _ h0_))) hown hK hI i_h0.1 k_355 rfl 14 (by decide) (hts (.fieldLink RX12 174 "DeadlineShareModel" "to" "I") (List.mem_cons_of_mem _ (List.mem_append_left _ (List.mem_of_getElem? (i := 0) rfl)))) (fun _ h9 => h9) rfl dX12_next_232 ?_
                        refine lv_iconst (v := 1) hx hb dX12_next_235 (by decide) ?_
                        refine lv_iadd hx hb dX12_next_236 ?_
                        refine lv_topi (fun v_357 ev_357 => ?_)
                        have tv_357 := k_ad y_211 1
                        rw [← ev_357, show Int32.toInt 1 = 1 from by decide] at tv_357
                        refine k_put (ci := 12) (v := .int v_357) (ty := .int) (C := RX12) (T := TX12) (N := 27) hx hb hts (fun _ h0_ => List.mem_cons_of_mem _ (List.mem_append_right _ (List.mem_append_left _ h0_))) tyX12 tyX12_ok nmX12 hown hK hI hS i_h0.1 k_355 rfl 14 (by decide) (hts (.fieldLink RX12 174 "DeadlineShareModel" "to" "I") (List.mem_cons_of_mem _ (List.mem_append_left _ (List.mem_of_getElem? (i := 0) rfl)))) (fun _ h9 => h9) rfl (by decide +kernel) rfl rfl (Nat.le_of_ble_eq_true rfl) rfl (cl_12 i_h0 (by omega) (by omega) (by omega)) dX12_next_237 (fun f_358 H locs e_359 hI hS => ?_)
                        have k_361 : f_358 h0 = .inr (12, [.int z0, .int z1, .ref (gr g h0 2), .ref (gr g h0 3), .ref (gr g h0 4), .ref (gr g h0 5), .ref (gr g h0 6), .ref (gr g h0 7), .ref (gr g h0 8), .ref (gr g h0 9), .int z10, .ref (gr g h0 11), .int z12, .int y_6, .int v_357, .int y_23, .long y_351, .int z17, .int z18, .ref (gr g h0 19), .ref (gr g h0 20), .ref (gr g h0 21), .ref (gr g h0 22), .int z23, .long z24, .long z25, .long z26]) := by rw [e_359]; exact va_up_self _ _ _
                        have k_362 : f_358 (gr g h0 11) = .inl (gc g 0, 200, .inl q_196) := by rw [e_359, va_up_ne _ _ (ik_ne i_194 i_h0 (by decide))]; exact k_356
                        have kp_360 := Kp.put kp_354 i_h0 (by decide) e_359
                        refine lv_goto (tgt := 149) hx hb dX12_next_240 (by decide) ?_
                        exact ih v_357 y_351 f_358 _ _ _ (by omega) hI hS k_361 k_362 kp_360 (by first | omega | decide) (lv_sub hl [0] rfl)
                      refine lv_icmp_ge (tgt := 224) hx hb dX12_next_195 (by decide) (fun c_363 => ?_) (fun c_363 => ?_)
                      · have c_363 := kc_le (by decide : Int32.toInt 10 = 10) rfl c_363
                        refine lv_ldc2 hx hb hown (hts (.constantLong RX12 65 (-1)) (List.mem_cons_of_mem _ (List.mem_append_left _ (List.mem_of_getElem? (i := 14) rfl)))) dX12_next_224 ?_
                        exact J_227 (-1) _ _ _ hI hS  (lv_sub hl [0] rfl)
                      · have c_363 := kn_le (by decide : Int32.toInt 10 = 10) rfl c_363
                        refine lv_aload_n hx hb dX12_next_198 rfl (lv_at hl 0 rfl) ?_
                        refine k_get (ci := 12) (v := .long y_212) (C := RX12) (T := TX12) (N := 27) hx hb hts (fun _ h0_ => List.mem_cons_of_mem _ (List.mem_append_right _ (List.mem_append_left _ h0_))) hown hK hI i_h0.1 k_213 rfl 16 (by decide) (hts (.fieldLink RX12 180 "DeadlineShareModel" "worth" "J") (List.mem_cons_of_mem _ (List.mem_append_left _ (List.mem_of_getElem? (i := 3) rfl)))) (fun _ h9 => h9) rfl dX12_next_199 ?_
                        refine lv_ldc2 hx hb hown (hts (.constantLong RX12 193 (32)) (List.mem_cons_of_mem _ (List.mem_append_left _ (List.mem_of_getElem? (i := 15) rfl)))) dX12_next_202 ?_
                        refine lv_lmul hx hb dX12_next_205 ?_
                        refine lv_topl (fun v_364 ev_364 => ?_)
                        refine lv_aload_n hx hb dX12_next_206 rfl (lv_at hl 0 rfl) ?_
                        refine k_get (ci := 12) (v := .ref (gr g h0 11)) (C := RX12) (T := TX12) (N := 27) hx hb hts (fun _ h0_ => List.mem_cons_of_mem _ (List.mem_append_right _ (List.mem_append_left _ h0_))) hown hK hI i_h0.1 k_213 rfl 11 (by decide) (hts (.fieldLink RX12 36 "DeadlineShareModel" "tape" "[I") (List.mem_cons_of_mem _ (List.mem_append_left _ (List.mem_of_getElem? (i := 5) rfl)))) (fun _ h9 => h9) rfl dX12_next_207 ?_
                        refine lv_aload_n hx hb dX12_next_210 rfl (lv_at hl 0 rfl) ?_
                        refine k_get (ci := 12) (v := .int y_211) (C := RX12) (T := TX12) (N := 27) hx hb hts (fun _ h0_ => List.mem_cons_of_mem _ (List.mem_append_right _ (List.mem_append_left _ h0_))) hown hK hI i_h0.1 k_213 rfl 14 (by decide) (hts (.fieldLink RX12 174 "DeadlineShareModel" "to" "I") (List.mem_cons_of_mem _ (List.mem_append_left _ (List.mem_of_getElem? (i := 0) rfl)))) (fun _ h9 => h9) rfl dX12_next_211 ?_
                        refine k_iald hx hb hK hI i_194.1 0 k_214 rfl (vp_in_iff.mpr (by omega)) dX12_next_214 ?_
                        refine lv_topi (fun v_367 ev_367 => ?_)
                        refine lv_i2l (v := v_367.toInt64) hx hb dX12_next_215 rfl ?_
                        have t_368 := Int32.toInt_toInt64 v_367
                        refine lv_ladd hx hb dX12_next_216 ?_
                        refine lv_topl (fun v_369 ev_369 => ?_)
                        have tv_369 := l_ad v_364 v_367.toInt64
                        rw [← ev_369] at tv_369
                        refine lv_ldc2 hx hb hown (hts (.constantLong RX12 195 (96)) (List.mem_cons_of_mem _ (List.mem_append_left _ (List.mem_of_getElem? (i := 16) rfl)))) dX12_next_217 ?_
                        refine lv_lsub hx hb dX12_next_220 ?_
                        refine lv_topl (fun v_370 ev_370 => ?_)
                        have tv_370 := l_sb v_369 96
                        rw [← ev_370, show Int64.toInt 96 = 96 from by decide] at tv_370
                        refine lv_goto (tgt := 227) hx hb dX12_next_221 (by decide) ?_
                        exact J_227 v_370 _ _ _ hI hS  (lv_sub hl [0] rfl)
            exact K_149 _ v_204 v_197.toInt64 f_205 _ _ _ (Nat.lt_succ_self _) hI hS k_208 k_209 kp_207 (by first | omega | decide) (lv_sub hl [0] rfl)
        refine lv_icmp_ne (tgt := 75) hx hb dX12_next_68 (by decide) (fun c_371 => ?_) (fun c_371 => ?_)
        · have c_371 := kn_eq rfl rfl c_371
          refine lv_aload_n hx hb dX12_next_75 rfl (lv_at hl 0 rfl) ?_
          refine k_get (ci := 12) (v := .ref (gr g h0 11)) (C := RX12) (T := TX12) (N := 27) hx hb hts (fun _ h0_ => List.mem_cons_of_mem _ (List.mem_append_right _ (List.mem_append_left _ h0_))) hown hK hI i_h0.1 k_22 rfl 11 (by decide) (hts (.fieldLink RX12 36 "DeadlineShareModel" "tape" "[I") (List.mem_cons_of_mem _ (List.mem_append_left _ (List.mem_of_getElem? (i := 5) rfl)))) (fun _ h9 => h9) rfl dX12_next_76 ?_
          have i_373 := kw_12_11 hG i_h0
          refine lv_aload_n hx hb dX12_next_79 rfl (lv_at hl 0 rfl) ?_
          refine k_get (ci := 12) (v := .int y_6) (C := RX12) (T := TX12) (N := 27) hx hb hts (fun _ h0_ => List.mem_cons_of_mem _ (List.mem_append_right _ (List.mem_append_left _ h0_))) hown hK hI i_h0.1 k_22 rfl 13 (by decide) (hts (.fieldLink RX12 177 "DeadlineShareModel" "from" "I") (List.mem_cons_of_mem _ (List.mem_append_left _ (List.mem_of_getElem? (i := 1) rfl)))) (fun _ h9 => h9) rfl dX12_next_80 ?_
          obtain ⟨q_375, k_374⟩ := op_38 hI i_373
          refine k_iald hx hb hK hI i_373.1 0 k_374 rfl (vp_in_iff.mpr (by omega)) dX12_next_83 ?_
          refine lv_topi (fun v_376 ev_376 => ?_)
          refine va_calli (va_runS (As := [.int v_376]) (rest := [.ref h0]) ⟨hx, hb, hml, hown, hts⟩ (c_X12_isSmall l dC dI g A hG f_19 v_376) (va_cwS 1 hts (gi_S (fun w_ h0_ => ⟨List.mem_cons_of_mem _ (List.mem_append_right _ (List.mem_append_right _ (List.mem_append_right _ (List.mem_append_left _ h0_)))), (tb_c_X12_isSmall w_ h0_).2⟩) (List.mem_cons_of_mem _ (List.mem_append_left _ (List.mem_of_getElem? (i := 12) rfl))) (List.mem_cons_of_mem _ (List.mem_append_left _ (List.mem_of_getElem? (i := 13) rfl))) (List.mem_cons_of_mem _ (List.mem_append_left _ (List.mem_of_getElem? (i := 8) rfl)))) rfl rfl rfl (by decide +kernel) ⟨Nat.le_of_ble_eq_true rfl, Nat.le_of_ble_eq_true rfl⟩) ⟨fun a U g mk q => ⟨q.1, q.2.calling rfl rfl⟩, fun U hU hW => ⟨rfl, kIn.of hI hK hE hS hU hW⟩⟩ rfl rfl hl.1 rfl (lv_room (Nat.le_of_ble_eq_true rfl)) dX12_next_84 ⟨Nat.le_of_ble_eq_true rfl, Nat.le_of_ble_eq_true rfl⟩) hS (fun q _ h => h) (fun q h => h) (fun r_378 u t H1 locs ht hvm w_377 hB hz1 hk1 hS => ?_)
          have hI : Iv dC dI g A f_19 t.heap := hB
          rw [ht] at hI
          generalize H1 = H at hI hS ⊢
          refine W.widen (k := 0) (n := 0) (Nat.le_of_ble_eq_true rfl) (Nat.le_of_ble_eq_true rfl) ?_
          refine lv_if_eq (tgt := 94) hx hb dX12_next_87 (by decide) (fun c_379 => ?_) (fun c_379 => ?_)
          · have c_379 := kc_eq rfl (by decide : Int32.toInt 0 = 0) c_379
            refine lv_aload_n hx hb dX12_next_94 rfl (lv_at hl 0 rfl) ?_
            refine k_get (ci := 12) (v := .ref (gr g h0 11)) (C := RX12) (T := TX12) (N := 27) hx hb hts (fun _ h0_ => List.mem_cons_of_mem _ (List.mem_append_right _ (List.mem_append_left _ h0_))) hown hK hI i_h0.1 k_22 rfl 11 (by decide) (hts (.fieldLink RX12 36 "DeadlineShareModel" "tape" "[I") (List.mem_cons_of_mem _ (List.mem_append_left _ (List.mem_of_getElem? (i := 5) rfl)))) (fun _ h9 => h9) rfl dX12_next_95 ?_
            refine lv_aload_n hx hb dX12_next_98 rfl (lv_at hl 0 rfl) ?_
            refine k_get (ci := 12) (v := .int y_6) (C := RX12) (T := TX12) (N := 27) hx hb hts (fun _ h0_ => List.mem_cons_of_mem _ (List.mem_append_right _ (List.mem_append_left _ h0_))) hown hK hI i_h0.1 k_22 rfl 13 (by decide) (hts (.fieldLink RX12 177 "DeadlineShareModel" "from" "I") (List.mem_cons_of_mem _ (List.mem_append_left _ (List.mem_of_getElem? (i := 1) rfl)))) (fun _ h9 => h9) rfl dX12_next_99 ?_
            refine k_iald hx hb hK hI i_373.1 0 k_374 rfl (vp_in_iff.mpr (by omega)) dX12_next_102 ?_
            refine lv_topi (fun v_382 ev_382 => ?_)
            refine va_calli (va_runS (As := [.int v_382]) (rest := [.ref h0]) ⟨hx, hb, hml, hown, hts⟩ (c_X12_isDigit l dC dI g A hG f_19 v_382) (va_cwS 1 hts (gi_S (fun w_ h0_ => ⟨List.mem_cons_of_mem _ (List.mem_append_right _ (List.mem_append_right _ (List.mem_append_left _ h0_))), (tb_c_X12_isDigit w_ h0_).2⟩) (List.mem_cons_of_mem _ (List.mem_append_left _ (List.mem_of_getElem? (i := 6) rfl))) (List.mem_cons_of_mem _ (List.mem_append_left _ (List.mem_of_getElem? (i := 7) rfl))) (List.mem_cons_of_mem _ (List.mem_append_left _ (List.mem_of_getElem? (i := 8) rfl)))) rfl rfl rfl (by decide +kernel) ⟨Nat.le_of_ble_eq_true rfl, Nat.le_of_ble_eq_true rfl⟩) ⟨fun a U g mk q => ⟨q.1, q.2.calling rfl rfl⟩, fun U hU hW => ⟨rfl, kIn.of hI hK hE hS hU hW⟩⟩ rfl rfl hl.1 rfl (lv_room (Nat.le_of_ble_eq_true rfl)) dX12_next_103 ⟨Nat.le_of_ble_eq_true rfl, Nat.le_of_ble_eq_true rfl⟩) hS (fun q _ h => h) (fun q h => h) (fun r_384 u t H1 locs ht hvm w_383 hB hz1 hk1 hS => ?_)
            have hI : Iv dC dI g A f_19 t.heap := hB
            rw [ht] at hI
            generalize H1 = H at hI hS ⊢
            refine W.widen (k := 0) (n := 0) (Nat.le_of_ble_eq_true rfl) (Nat.le_of_ble_eq_true rfl) ?_
            refine lv_if_eq (tgt := 113) hx hb dX12_next_106 (by decide) (fun c_385 => ?_) (fun c_385 => ?_)
            · have c_385 := kc_eq rfl (by decide : Int32.toInt 0 = 0) c_385
              refine lv_iconst (v := 3) hx hb dX12_next_113 (by decide) ?_
              exact J_114 3 _ _ _ hI hS  (lv_sub hl [0] rfl)
            · have c_385 := kn_eq rfl (by decide : Int32.toInt 0 = 0) c_385
              refine lv_iconst (v := 2) hx hb dX12_next_109 (by decide) ?_
              refine lv_goto (tgt := 114) hx hb dX12_next_110 (by decide) ?_
              exact J_114 2 _ _ _ hI hS  (lv_sub hl [0] rfl)
          · have c_379 := kn_eq rfl (by decide : Int32.toInt 0 = 0) c_379
            refine lv_iconst (v := 1) hx hb dX12_next_90 (by decide) ?_
            refine lv_goto (tgt := 114) hx hb dX12_next_91 (by decide) ?_
            exact J_114 1 _ _ _ hI hS  (lv_sub hl [0] rfl)
        · have c_371 := kc_eq rfl rfl c_371
          refine lv_iconst (v := 0) hx hb dX12_next_71 (by decide) ?_
          refine lv_goto (tgt := 114) hx hb dX12_next_72 (by decide) ?_
          exact J_114 0 _ _ _ hI hS  (lv_sub hl [0] rfl)
      refine lv_icmp_ge (tgt := 46) hx hb dX12_next_16 (by decide) (fun c_386 => ?_) (fun c_386 => ?_)
      · have c_386 := kc_le rfl rfl c_386
        exact J_46  _ _ _ hI hS  (lv_sub hl [0] rfl)
      · have c_386 := kn_le rfl rfl c_386
        refine lv_aload_n hx hb dX12_next_19 rfl (lv_at hl 0 rfl) ?_
        refine k_get (ci := 12) (v := .ref (gr g h0 11)) (C := RX12) (T := TX12) (N := 27) hx hb hts (fun _ h0_ => List.mem_cons_of_mem _ (List.mem_append_right _ (List.mem_append_left _ h0_))) hown hK hI i_h0.1 k_7 rfl 11 (by decide) (hts (.fieldLink RX12 36 "DeadlineShareModel" "tape" "[I") (List.mem_cons_of_mem _ (List.mem_append_left _ (List.mem_of_getElem? (i := 5) rfl)))) (fun _ h9 => h9) rfl dX12_next_20 ?_
        have i_388 := kw_12_11 hG i_h0
        refine lv_aload_n hx hb dX12_next_23 rfl (lv_at hl 0 rfl) ?_
        refine k_get (ci := 12) (v := .int y_6) (C := RX12) (T := TX12) (N := 27) hx hb hts (fun _ h0_ => List.mem_cons_of_mem _ (List.mem_append_right _ (List.mem_append_left _ h0_))) hown hK hI i_h0.1 k_7 rfl 13 (by decide) (hts (.fieldLink RX12 177 "DeadlineShareModel" "from" "I") (List.mem_cons_of_mem _ (List.mem_append_left _ (List.mem_of_getElem? (i := 1) rfl)))) (fun _ h9 => h9) rfl dX12_next_24 ?_
        obtain ⟨q_390, k_389⟩ := op_38 hI i_388
        refine k_iald hx hb hK hI i_388.1 0 k_389 rfl (vp_in_iff.mpr (by omega)) dX12_next_27 ?_
        refine lv_topi (fun v_391 ev_391 => ?_)
        refine lv_bipush (v := 32) hx hb dX12_next_28 (by decide) ?_
        refine lv_icmp_ne (tgt := 46) hx hb dX12_next_30 (by decide) (fun c_392 => ?_) (fun c_392 => ?_)
        · have c_392 := kn_eq rfl (by decide : Int32.toInt 32 = 32) c_392
          exact J_46  _ _ _ hI hS  (lv_sub hl [0] rfl)
        · have c_392 := kc_eq rfl (by decide : Int32.toInt 32 = 32) c_392
          refine lv_aload_n hx hb dX12_next_33 rfl (lv_at hl 0 rfl) ?_
          refine lv_dup hx hb dX12_next_34 rfl ?_
          refine k_get (ci := 12) (v := .int y_6) (C := RX12) (T := TX12) (N := 27) hx hb hts (fun _ h0_ => List.mem_cons_of_mem _ (List.mem_append_right _ (List.mem_append_left _ h0_))) hown hK hI i_h0.1 k_7 rfl 13 (by decide) (hts (.fieldLink RX12 177 "DeadlineShareModel" "from" "I") (List.mem_cons_of_mem _ (List.mem_append_left _ (List.mem_of_getElem? (i := 1) rfl)))) (fun _ h9 => h9) rfl dX12_next_35 ?_
          refine lv_iconst (v := 1) hx hb dX12_next_38 (by decide) ?_
          refine lv_iadd hx hb dX12_next_39 ?_
          refine lv_topi (fun v_393 ev_393 => ?_)
          have tv_393 := k_ad y_6 1
          rw [← ev_393, show Int32.toInt 1 = 1 from by decide] at tv_393
          refine k_put (ci := 12) (v := .int v_393) (ty := .int) (C := RX12) (T := TX12) (N := 27) hx hb hts (fun _ h0_ => List.mem_cons_of_mem _ (List.mem_append_right _ (List.mem_append_left _ h0_))) tyX12 tyX12_ok nmX12 hown hK hI hS i_h0.1 k_7 rfl 13 (by decide) (hts (.fieldLink RX12 177 "DeadlineShareModel" "from" "I") (List.mem_cons_of_mem _ (List.mem_append_left _ (List.mem_of_getElem? (i := 1) rfl)))) (fun _ h9 => h9) rfl (by decide +kernel) rfl rfl (Nat.le_of_ble_eq_true rfl) rfl (cl_12 i_h0 (by omega) (by omega) (by omega)) dX12_next_40 (fun f_394 H locs e_395 hI hS => ?_)
          have k_397 : f_394 h0 = .inr (12, [.int z0, .int z1, .ref (gr g h0 2), .ref (gr g h0 3), .ref (gr g h0 4), .ref (gr g h0 5), .ref (gr g h0 6), .ref (gr g h0 7), .ref (gr g h0 8), .ref (gr g h0 9), .int z10, .ref (gr g h0 11), .int z12, .int v_393, .int z14, .int z15, .long z16, .int z17, .int z18, .ref (gr g h0 19), .ref (gr g h0 20), .ref (gr g h0 21), .ref (gr g h0 22), .int z23, .long z24, .long z25, .long z26]) := by rw [e_395]; exact va_up_self _ _ _
          have k_398 : f_394 (gr g h0 11) = .inl (gc g 0, 200, .inl q_390) := by rw [e_395, va_up_ne _ _ (ik_ne i_388 i_h0 (by decide))]; exact k_389
          have kp_396 := Kp.put kp_8 i_h0 (by decide) e_395
          refine lv_goto (tgt := 8) hx hb dX12_next_43 (by decide) ?_
          exact ih v_393 f_394 _ _ _ (by omega) hI hS k_397 kp_396 (by first | omega | decide) (lv_sub hl [0] rfl)
  exact K_8 _ z14 f_1 _ _ _ (Nat.lt_succ_self _) hI hS k_4 kp_3 (by first | omega | decide) (lv_sub hl [0] rfl)
theorem tw_879 : q_g (.fieldLink RX12 39 "DeadlineShareModel" "fault" "I") := ⟨(List.mem_append_right _ (List.mem_of_getElem? (i := 1114) (by decide +kernel))), good_of_word (by decide +kernel)⟩
theorem tw_880 : q_g (.selects RX12 yX12_next yX12_next) := ⟨(List.mem_append_left _ (List.mem_of_getElem? (i := 41) (by decide +kernel))), good_of_word (by decide +kernel)⟩
theorem tw_881 : q_g (.instanceMethod yX12_next) := ⟨(List.mem_append_right _ (List.mem_of_getElem? (i := 1344) (by decide +kernel))), good_of_word (by decide +kernel)⟩
theorem tw_882 : q_g (.methodLink RX12 205 yX12_next) := ⟨(List.mem_append_right _ (List.mem_of_getElem? (i := 1342) (by decide +kernel))), good_of_word (by decide +kernel)⟩
theorem tw_883 : q_g (.fieldLink RX12 201 "DeadlineShareModel" "bad" "Z") := ⟨(List.mem_append_right _ (List.mem_of_getElem? (i := 1115) (by decide +kernel))), good_of_word (by decide +kernel)⟩
theorem tw_884 : q_g (.code yX12_must cX12_must 2 none) := ⟨(List.mem_append_right _ (List.mem_of_getElem? (i := 1363) (by decide +kernel))), good_of_word (by decide +kernel)⟩
def ow_c_X12_must : List Cond := [.fieldLink RX12 201 "DeadlineShareModel" "bad" "Z", .methodLink RX12 205 yX12_next, .instanceMethod yX12_next, .selects RX12 yX12_next yX12_next, .initialized RX12, .fieldLink RX12 177 "DeadlineShareModel" "from" "I", .fieldLink RX12 39 "DeadlineShareModel" "fault" "I"]
def wq_c_X12_must : List Cond := .code yX12_must cX12_must 2 none :: (ow_c_X12_must ++ (u_ws RX12 TX12 27 ++ (wq_c_X12_next ++ ([] : List Cond))))
theorem tb_c_X12_must : ∀ w ∈ wq_c_X12_must, q_g w := by
  unfold wq_c_X12_must ow_c_X12_must
  exact q_cons tw_884 (q_app (q_cons tw_883 (q_cons tw_882 (q_cons tw_881 (q_cons tw_880 (q_cons tw_728 (q_cons tw_876 (q_cons tw_879 q_nil))))))) (q_app tu_X12 (q_app tb_c_X12_next q_nil)))
set_option maxHeartbeats 4000000 in
set_option maxRecDepth 100000 in
theorem c_X12_must (l : Launch) (dC : Nat → ClassId) (dI : Nat → Nat → Nat) (g : kG) (A : Nat → Prop) (hG : kWf g) (f : Nat → va_E) (h0 : Nat) (p1 : Int32) (z0 : Int32) (z1 : Int32) (z10 : Int32) (z12 : Int32) (z13 : Int32) (z14 : Int32) (z15 : Int32) (z16 : Int64) (z17 : Int32) (z18 : Int32) (z23 : Int32) (z24 : Int64) (z25 : Int64) (z26 : Int64) (i_h0 : ik g 12 h0) (hc0 : f h0 = .inr (12, [.int z0, .int z1, .ref (gr g h0 2), .ref (gr g h0 3), .ref (gr g h0 4), .ref (gr g h0 5), .ref (gr g h0 6), .ref (gr g h0 7), .ref (gr g h0 8), .ref (gr g h0 9), .int z10, .ref (gr g h0 11), .int z12, .int z13, .int z14, .int z15, .long z16, .int z17, .int z18, .ref (gr g h0 19), .ref (gr g h0 20), .ref (gr g h0 21), .ref (gr g h0 22), .int z23, .long z24, .long z25, .long z26])) (hc0_10 : 0 ≤ z10.toInt ∧ z10.toInt ≤ 10) (hc0_12 : 0 ≤ z12.toInt ∧ z12.toInt ≤ 200) (hc0_23 : 0 ≤ z23.toInt ∧ z23.toInt ≤ 8) (ht9 : 0 ≤ z14.toInt ∧ z14.toInt ≤ z12.toInt) : Met l yX12_must wq_c_X12_must ({ frames := 2, cells := 0, slots := 0, locals := 40 } : Room) (va_Pc [.ref h0, .int p1] (fun U => kIn dC dI g A f U)) (va_Qv (fun (_ : Unit) => True) (fun (_ : Unit) t => ∃ f1 : Nat → va_E, Iv dC dI g A f1 t.heap ∧ Kp g [12] f f1 ∧ ∃ (w13 : Int32) (w14 : Int32) (w15 : Int32) (w16 : Int64) (w17 : Int32) (w18 : Int32), (f1 h0 = .inr (12, [.int z0, .int z1, .ref (gr g h0 2), .ref (gr g h0 3), .ref (gr g h0 4), .ref (gr g h0 5), .ref (gr g h0 6), .ref (gr g h0 7), .ref (gr g h0 8), .ref (gr g h0 9), .int z10, .ref (gr g h0 11), .int z12, .int w13, .int w14, .int w15, .long w16, .int w17, .int w18, .ref (gr g h0 19), .ref (gr g h0 20), .ref (gr g h0 21), .ref (gr g h0 22), .int z23, .long z24, .long z25, .long z26])) ∧ (0 ≤ w14.toInt ∧ w14.toInt ≤ z12.toInt) ∧ (w18.toInt = 0 → (z18.toInt = 0 ∧ p1.toInt ≠ 0))) A) 0 0 A := by
  refine Met.ofW (cc := cX12_must) (maxL := 2) (ret := none) (by decide) rfl ?_
  intro p e s m args below meth c s₁ B hml hv
  obtain ⟨rfl, hI, hK, hE⟩ := hv
  have hx := B.exec
  have hb := B.bytes
  have hr := B.returns
  have hts := atoms_spec (ws := wq_c_X12_must) B.pre
  have hown : s.vm.findClass RX12 = some m.cls := findClass_of_methodNamed B.named
  have hlocks := B.notSynchronized
  have hS : va_S A s.heap s.heap [] := va_S.rf
  have hk0 : Kp g [12] f f := Kp.rf
  have hl := lv_entry ([.ref h0, .int p1]) (n := 2) (Nat.le_of_ble_eq_true rfl)
  rw [lg_entry_eq]
  generalize (lg_sl ([.ref h0, .int p1]) ++ List.replicate (2 - (lg_sl ([.ref h0, .int p1])).length) Slot.unset).toArray = ls at hl ⊢
  have hl : lv_has ls 2 [(0, .ref h0), (1, .int p1)] := hl
  refine lv_aload_n hx hb dX12_must_0 rfl (lv_at hl 0 rfl) ?_
  refine k_get (ci := 12) (v := .int z18) (C := RX12) (T := TX12) (N := 27) hx hb hts (fun _ h0_ => List.mem_cons_of_mem _ (List.mem_append_right _ (List.mem_append_left _ h0_))) hown hK hI i_h0.1 hc0 rfl 18 (by decide) (hts (.fieldLink RX12 201 "DeadlineShareModel" "bad" "Z") (List.mem_cons_of_mem _ (List.mem_append_left _ (List.mem_of_getElem? (i := 0) rfl)))) (fun _ h9 => h9) rfl dX12_must_1 ?_
  have J_24 : ∀ (y_2 : Int32) (y_3 : Int32) (f_1 : Nat → va_E) (H : Heap) (locs : List Loc) (ls : Array Slot), Iv dC dI g A f_1 H → va_S A s.heap H locs → f_1 h0 = .inr (12, [.int z0, .int z1, .ref (gr g h0 2), .ref (gr g h0 3), .ref (gr g h0 4), .ref (gr g h0 5), .ref (gr g h0 6), .ref (gr g h0 7), .ref (gr g h0 8), .ref (gr g h0 9), .int z10, .ref (gr g h0 11), .int z12, .int z13, .int z14, .int z15, .long z16, .int y_2, .int y_3, .ref (gr g h0 19), .ref (gr g h0 20), .ref (gr g h0 21), .ref (gr g h0 22), .int z23, .long z24, .long z25, .long z26]) → Kp g [12] f f_1 → (y_3.toInt = 0 → (z18.toInt = 0 ∧ p1.toInt ≠ 0)) → lv_has ls 2 [(0, .ref h0), (1, .int p1)] → W p l e (headSpec wq_c_X12_must ({ frames := 2, cells := 0, slots := 0, locals := 40 } : Room)).room s m ([.ref h0, .int p1].toArray) below meth c H locs 0 0 (MQ below (va_Qv (fun (_ : Unit) => True) (fun (_ : Unit) t => ∃ f1 : Nat → va_E, Iv dC dI g A f1 t.heap ∧ Kp g [12] f f1 ∧ ∃ (w13 : Int32) (w14 : Int32) (w15 : Int32) (w16 : Int64) (w17 : Int32) (w18 : Int32), (f1 h0 = .inr (12, [.int z0, .int z1, .ref (gr g h0 2), .ref (gr g h0 3), .ref (gr g h0 4), .ref (gr g h0 5), .ref (gr g h0 6), .ref (gr g h0 7), .ref (gr g h0 8), .ref (gr g h0 9), .int z10, .ref (gr g h0 11), .int z12, .int w13, .int w14, .int w15, .long w16, .int w17, .int w18, .ref (gr g h0 19), .ref (gr g h0 20), .ref (gr g h0 21), .ref (gr g h0 22), .int z23, .long z24, .long z25, .long z26])) ∧ (0 ≤ w14.toInt ∧ w14.toInt ≤ z12.toInt) ∧ (w18.toInt = 0 → (z18.toInt = 0 ∧ p1.toInt ≠ 0))) A) ([.ref h0, .int p1].toArray) s 0 0 A) (F0 m 24 ls []) := by
    intro y_2 y_3 f_1 H locs ls hI hS k_4 kp_5 t_6 hl
    refine lv_aload_n hx hb dX12_must_24 rfl (lv_at hl 0 rfl) ?_
    refine k_get (ci := 12) (v := .int y_3) (C := RX12) (T := TX12) (N := 27) hx hb hts (fun _ h0_ => List.mem_cons_of_mem _ (List.mem_append_right _ (List.mem_append_left _ h0_))) hown hK hI i_h0.1 k_4 rfl 18 (by decide) (hts (.fieldLink RX12 201 "DeadlineShareModel" "bad" "Z") (List.mem_cons_of_mem _ (List.mem_append_left _ (List.mem_of_getElem? (i := 0) rfl)))) (fun _ h9 => h9) rfl dX12_must_25 ?_
    refine lv_if_ne (tgt := 35) hx hb dX12_must_28 (by decide) (fun c_7 => ?_) (fun c_7 => ?_)
    · have c_7 := kn_eq rfl (by decide : Int32.toInt 0 = 0) c_7
      exact W.vret hx hb hr (fun t ht hW => ⟨⟨(), rfl, trivial, ⟨f_1, k_ret ht hI, kp_5, z13, z14, z15, z16, y_2, y_3, k_4, (by first | omega | decide), (by first | omega | decide)⟩⟩, hS.F ht⟩) hS.2.2 dX12_must_35
    · have c_7 := kc_eq rfl (by decide : Int32.toInt 0 = 0) c_7
      refine lv_aload_n hx hb dX12_must_31 rfl (lv_at hl 0 rfl) ?_
      refine va_callv (va_runV (As := []) (rest := []) ⟨hx, hb, hml, hown, hts⟩ (c_X12_next l dC dI g A hG f_1 h0 z0 z1 z10 z12 z13 z14 z15 z16 y_2 y_3 z23 z24 z25 z26 i_h0 k_4 (by first | omega | (simp only [k_c0]; omega)) (by first | omega | (simp only [k_c0]; omega)) (by first | omega | (simp only [k_c0]; omega)) (by decide)) (cwV 0 hts (gi_V (fun w_ h0_ => ⟨List.mem_cons_of_mem _ (List.mem_append_right _ (List.mem_append_right _ (List.mem_append_left _ h0_))), (tb_c_X12_next w_ h0_).2⟩) (List.mem_cons_of_mem _ (List.mem_append_left _ (List.mem_of_getElem? (i := 1) rfl))) (List.mem_cons_of_mem _ (List.mem_append_left _ (List.mem_of_getElem? (i := 2) rfl))) (List.mem_cons_of_mem _ (List.mem_append_left _ (List.mem_of_getElem? (i := 3) rfl))) (List.mem_cons_of_mem _ (List.mem_append_left _ (List.mem_of_getElem? (i := 4) rfl)))) rfl rfl rfl (by decide +kernel) ⟨Nat.le_of_ble_eq_true rfl, Nat.le_of_ble_eq_true rfl⟩) ⟨fun a U g mk q => ⟨q.1, q.2.calling rfl rfl⟩, k_recv hK hI i_h0.1 k_4 (ci := 12) rfl, fun U hU hW => ⟨rfl, kIn.of hI hK hE hS hU hW⟩⟩ rfl rfl hl.1 rfl (lv_room (Nat.le_of_ble_eq_true rfl)) dX12_must_32 ⟨Nat.le_of_ble_eq_true rfl, Nat.le_of_ble_eq_true rfl⟩) hS (fun q _ h => h) (fun q h => h) (fun u t H1 locs ht hvm _ hB hz1 hk1 hS => ?_)
      obtain ⟨f_8, hI, kc_10, w13_11, w14_12, w15_13, w16_14, k_15, z_16⟩ := hB
      rw [ht] at hI
      have k_15 : f_8 h0 = .inr (12, [.int z0, .int z1, .ref (gr g h0 2), .ref (gr g h0 3), .ref (gr g h0 4), .ref (gr g h0 5), .ref (gr g h0 6), .ref (gr g h0 7), .ref (gr g h0 8), .ref (gr g h0 9), .int z10, .ref (gr g h0 11), .int z12, .int w13_11, .int w14_12, .int w15_13, .long w16_14, .int y_2, .int y_3, .ref (gr g h0 19), .ref (gr g h0 20), .ref (gr g h0 21), .ref (gr g h0 22), .int z23, .long z24, .long z25, .long z26]) := k_15
      have z_16 : 0 ≤ w14_12.toInt ∧ w14_12.toInt ≤ z12.toInt := z_16
      have kp_17 := Kp.call kp_5 kc_10 (by decide)
      generalize H1 = H at hI hS ⊢
      refine W.widen (k := 0) (n := 0) (Nat.le_of_ble_eq_true rfl) (Nat.le_of_ble_eq_true rfl) ?_
      exact W.vret hx hb hr (fun t ht hW => ⟨⟨(), rfl, trivial, ⟨f_8, k_ret ht hI, kp_17, w13_11, w14_12, w15_13, w16_14, y_2, y_3, k_15, (by first | omega | decide), (by first | omega | decide)⟩⟩, hS.F ht⟩) hS.2.2 dX12_must_35
  refine lv_if_ne (tgt := 24) hx hb dX12_must_4 (by decide) (fun c_18 => ?_) (fun c_18 => ?_)
  · have c_18 := kn_eq rfl (by decide : Int32.toInt 0 = 0) c_18
    exact J_24 z17 z18 f _ _ _ hI hS hc0 hk0 (by first | omega | decide) (lv_sub hl [0, 1] rfl)
  · have c_18 := kc_eq rfl (by decide : Int32.toInt 0 = 0) c_18
    refine lv_iload_n hx hb dX12_must_7 rfl (lv_at hl 1 rfl) ?_
    refine lv_if_ne (tgt := 24) hx hb dX12_must_8 (by decide) (fun c_19 => ?_) (fun c_19 => ?_)
    · have c_19 := kn_eq rfl (by decide : Int32.toInt 0 = 0) c_19
      exact J_24 z17 z18 f _ _ _ hI hS hc0 hk0 (by first | omega | decide) (lv_sub hl [0, 1] rfl)
    · have c_19 := kc_eq rfl (by decide : Int32.toInt 0 = 0) c_19
      refine lv_aload_n hx hb dX12_must_11 rfl (lv_at hl 0 rfl) ?_
      refine lv_iconst (v := 1) hx hb dX12_must_12 (by decide) ?_
      refine k_put (ci := 12) (v := .int 1) (ty := .boolean) (C := RX12) (T := TX12) (N := 27) hx hb hts (fun _ h0_ => List.mem_cons_of_mem _ (List.mem_append_right _ (List.mem_append_left _ h0_))) tyX12 tyX12_ok nmX12 hown hK hI hS i_h0.1 hc0 rfl 18 (by decide) (hts (.fieldLink RX12 201 "DeadlineShareModel" "bad" "Z") (List.mem_cons_of_mem _ (List.mem_append_left _ (List.mem_of_getElem? (i := 0) rfl)))) (fun _ h9 => h9) rfl (by decide +kernel) rfl rfl (Nat.le_of_ble_eq_true rfl) rfl (cl_12 i_h0 (by omega) (by omega) (by omega)) dX12_must_13 (fun f_20 H locs e_21 hI hS => ?_)
      have k_23 : f_20 h0 = .inr (12, [.int z0, .int z1, .ref (gr g h0 2), .ref (gr g h0 3), .ref (gr g h0 4), .ref (gr g h0 5), .ref (gr g h0 6), .ref (gr g h0 7), .ref (gr g h0 8), .ref (gr g h0 9), .int z10, .ref (gr g h0 11), .int z12, .int z13, .int z14, .int z15, .long z16, .int z17, .int 1, .ref (gr g h0 19), .ref (gr g h0 20), .ref (gr g h0 21), .ref (gr g h0 22), .int z23, .long z24, .long z25, .long z26]) := by rw [e_21]; exact va_up_self _ _ _
      have kp_22 := Kp.put hk0 i_h0 (by decide) e_21
      refine lv_aload_n hx hb dX12_must_16 rfl (lv_at hl 0 rfl) ?_
      refine lv_aload_n hx hb dX12_must_17 rfl (lv_at hl 0 rfl) ?_
      refine k_get (ci := 12) (v := .int z13) (C := RX12) (T := TX12) (N := 27) hx hb hts (fun _ h0_ => List.mem_cons_of_mem _ (List.mem_append_right _ (List.mem_append_left _ h0_))) hown hK hI i_h0.1 k_23 rfl 13 (by decide) (hts (.fieldLink RX12 177 "DeadlineShareModel" "from" "I") (List.mem_cons_of_mem _ (List.mem_append_left _ (List.mem_of_getElem? (i := 5) rfl)))) (fun _ h9 => h9) rfl dX12_must_18 ?_
      refine k_put (ci := 12) (v := .int z13) (ty := .int) (C := RX12) (T := TX12) (N := 27) hx hb hts (fun _ h0_ => List.mem_cons_of_mem _ (List.mem_append_right _ (List.mem_append_left _ h0_))) tyX12 tyX12_ok nmX12 hown hK hI hS i_h0.1 k_23 rfl 17 (by decide) (hts (.fieldLink RX12 39 "DeadlineShareModel" "fault" "I") (List.mem_cons_of_mem _ (List.mem_append_left _ (List.mem_of_getElem? (i := 6) rfl)))) (fun _ h9 => h9) rfl (by decide +kernel) rfl rfl (Nat.le_of_ble_eq_true rfl) rfl (cl_12 i_h0 (by omega) (by omega) (by omega)) dX12_must_21 (fun f_24 H locs e_25 hI hS => ?_)
      have k_27 : f_24 h0 = .inr (12, [.int z0, .int z1, .ref (gr g h0 2), .ref (gr g h0 3), .ref (gr g h0 4), .ref (gr g h0 5), .ref (gr g h0 6), .ref (gr g h0 7), .ref (gr g h0 8), .ref (gr g h0 9), .int z10, .ref (gr g h0 11), .int z12, .int z13, .int z14, .int z15, .long z16, .int z13, .int 1, .ref (gr g h0 19), .ref (gr g h0 20), .ref (gr g h0 21), .ref (gr g h0 22), .int z23, .long z24, .long z25, .long z26]) := by rw [e_25]; exact va_up_self _ _ _
      have kp_26 := Kp.put kp_22 i_h0 (by decide) e_25
      exact J_24 z13 1 f_24 _ _ _ hI hS k_27 kp_26 (by first | omega | decide | (simp only [show Int32.toInt 1 = 1 from by decide]; omega)) (lv_sub hl [0, 1] rfl)
theorem tw_885 : q_g (.fieldLink RX12 53 "DeadlineShareModel" "words" "[J") := ⟨(List.mem_append_right _ (List.mem_of_getElem? (i := 1116) (by decide +kernel))), good_of_word (by decide +kernel)⟩
theorem tw_886 : q_g (.fieldLink RX12 56 "DeadlineShareModel" "most" "[I") := ⟨(List.mem_append_right _ (List.mem_of_getElem? (i := 1117) (by decide +kernel))), good_of_word (by decide +kernel)⟩
theorem tw_887 : q_g (.fieldLink RX12 62 "DeadlineShareModel" "numbers" "[I") := ⟨(List.mem_append_right _ (List.mem_of_getElem? (i := 1119) (by decide +kernel))), good_of_word (by decide +kernel)⟩
theorem tw_888 : q_g (.fieldLink RX12 208 "DeadlineShareModel" "nSteps" "I") := ⟨(List.mem_append_right _ (List.mem_of_getElem? (i := 1120) (by decide +kernel))), good_of_word (by decide +kernel)⟩
theorem tw_889 : q_g (.fieldLink RX12 59 "DeadlineShareModel" "kinds" "[I") := ⟨(List.mem_append_right _ (List.mem_of_getElem? (i := 1118) (by decide +kernel))), good_of_word (by decide +kernel)⟩
theorem tw_890 : q_g (.selects RX12 yX12_must yX12_must) := ⟨(List.mem_append_left _ (List.mem_of_getElem? (i := 43) (by decide +kernel))), good_of_word (by decide +kernel)⟩
theorem tw_891 : q_g (.instanceMethod yX12_must) := ⟨(List.mem_append_right _ (List.mem_of_getElem? (i := 1362) (by decide +kernel))), good_of_word (by decide +kernel)⟩
theorem tw_892 : q_g (.methodLink RX12 211 yX12_must) := ⟨(List.mem_append_right _ (List.mem_of_getElem? (i := 1360) (by decide +kernel))), good_of_word (by decide +kernel)⟩
theorem tw_893 : q_g (.code yX12_readStep cX12_readStep 3 none) := ⟨(List.mem_append_right _ (List.mem_of_getElem? (i := 1359) (by decide +kernel))), good_of_word (by decide +kernel)⟩
def ow_c_X12_readStep : List Cond := [.methodLink RX12 211 yX12_must, .instanceMethod yX12_must, .selects RX12 yX12_must yX12_must, .initialized RX12, .fieldLink RX12 201 "DeadlineShareModel" "bad" "Z", .fieldLink RX12 59 "DeadlineShareModel" "kinds" "[I", .fieldLink RX12 208 "DeadlineShareModel" "nSteps" "I", .fieldLink RX12 62 "DeadlineShareModel" "numbers" "[I", .fieldLink RX12 180 "DeadlineShareModel" "worth" "J", .fieldLink RX12 190 "DeadlineShareModel" "sort" "I", .fieldLink RX12 56 "DeadlineShareModel" "most" "[I", .methodLink RX12 83 yX12_in, .static yX12_in, .fieldLink RX12 53 "DeadlineShareModel" "words" "[J"]
def wq_c_X12_readStep : List Cond := .code yX12_readStep cX12_readStep 3 none :: (ow_c_X12_readStep ++ (wq_c_X12_must ++ (u_ws RX12 TX12 27 ++ (wq_c_X12_in ++ ([] : List Cond)))))
theorem tb_c_X12_readStep : ∀ w ∈ wq_c_X12_readStep, q_g w := by
  unfold wq_c_X12_readStep ow_c_X12_readStep
  exact q_cons tw_893 (q_app (q_cons tw_892 (q_cons tw_891 (q_cons tw_890 (q_cons tw_728 (q_cons tw_883 (q_cons tw_889 (q_cons tw_888 (q_cons tw_887 (q_cons tw_875 (q_cons tw_874 (q_cons tw_886 (q_cons tw_730 (q_cons tw_729 (q_cons tw_885 q_nil)))))))))))))) (q_app tb_c_X12_must (q_app tu_X12 (q_app tb_c_X12_in q_nil))))
set_option maxHeartbeats 4000000 in
set_option maxRecDepth 100000 in
theorem c_X12_readStep (l : Launch) (dC : Nat → ClassId) (dI : Nat → Nat → Nat) (g : kG) (A : Nat → Prop) (hG : kWf g) (f : Nat → va_E) (h0 : Nat) (z0 : Int32) (z1 : Int32) (z10 : Int32) (z12 : Int32) (z13 : Int32) (z14 : Int32) (z15 : Int32) (z16 : Int64) (z17 : Int32) (z18 : Int32) (z23 : Int32) (z24 : Int64) (z25 : Int64) (z26 : Int64) (kq : Nat → Int32) (nq : Nat → Int32) (i_h0 : ik g 12 h0) (hc0 : f h0 = .inr (12, [.int z0, .int z1, .ref (gr g h0 2), .ref (gr g h0 3), .ref (gr g h0 4), .ref (gr g h0 5), .ref (gr g h0 6), .ref (gr g h0 7), .ref (gr g h0 8), .ref (gr g h0 9), .int z10, .ref (gr g h0 11), .int z12, .int z13, .int z14, .int z15, .long z16, .int z17, .int z18, .ref (gr g h0 19), .ref (gr g h0 20), .ref (gr g h0 21), .ref (gr g h0 22), .int z23, .long z24, .long z25, .long z26])) (hc0_10 : 0 ≤ z10.toInt ∧ z10.toInt ≤ 10) (hc0_12 : 0 ≤ z12.toInt ∧ z12.toInt ≤ 200) (hc0_23 : 0 ≤ z23.toInt ∧ z23.toInt ≤ 8) (hc1 : f (gr g h0 21) = .inl (gc g 0, 8, .inl kq)) (hc2 : f (gr g h0 22) = .inl (gc g 0, 8, .inl nq)) (ht9 : 0 ≤ z14.toInt ∧ z14.toInt ≤ z12.toInt) (hb9 : z18.toInt = 0) (hN : NBq z23 kq nq) : Met l yX12_readStep wq_c_X12_readStep ({ frames := 3, cells := 0, slots := 0, locals := 61 } : Room) (va_Pc [.ref h0] (fun U => kIn dC dI g A f U)) (va_Qv (fun (_ : Unit) => True) (fun (_ : Unit) t => ∃ f1 : Nat → va_E, Iv dC dI g A f1 t.heap ∧ Kp g [12, 41, 42] f f1 ∧ ∃ (w13 : Int32) (w14 : Int32) (w15 : Int32) (w16 : Int64) (w17 : Int32) (w18 : Int32) (w23 : Int32) (kq1 : Nat → Int32) (nq1 : Nat → Int32), (f1 h0 = .inr (12, [.int z0, .int z1, .ref (gr g h0 2), .ref (gr g h0 3), .ref (gr g h0 4), .ref (gr g h0 5), .ref (gr g h0 6), .ref (gr g h0 7), .ref (gr g h0 8), .ref (gr g h0 9), .int z10, .ref (gr g h0 11), .int z12, .int w13, .int w14, .int w15, .long w16, .int w17, .int w18, .ref (gr g h0 19), .ref (gr g h0 20), .ref (gr g h0 21), .ref (gr g h0 22), .int w23, .long z24, .long z25, .long z26])) ∧ (0 ≤ w14.toInt ∧ w14.toInt ≤ z12.toInt) ∧ (w18.toInt = 0 → w23.toInt = z23.toInt + 1) ∧ (0 ≤ w23.toInt ∧ w23.toInt ≤ 8) ∧ (f1 (gr g h0 21) = .inl (gc g 0, 8, .inl kq1)) ∧ (f1 (gr g h0 22) = .inl (gc g 0, 8, .inl nq1)) ∧ (w18.toInt = 0 → NBq w23 kq1 nq1)) A) 0 0 A := by
  refine Met.ofW (cc := cX12_readStep) (maxL := 3) (ret := none) (by decide) rfl ?_
  intro p e s m args below meth c s₁ B hml hv
  obtain ⟨rfl, hI, hK, hE⟩ := hv
  have hx := B.exec
  have hb := B.bytes
  have hr := B.returns
  have hts := atoms_spec (ws := wq_c_X12_readStep) B.pre
  have hown : s.vm.findClass RX12 = some m.cls := findClass_of_methodNamed B.named
  have hlocks := B.notSynchronized
  have hS : va_S A s.heap s.heap [] := va_S.rf
  have hk0 : Kp g [12, 41, 42] f f := Kp.rf
  have hl := lv_entry ([.ref h0]) (n := 3) (Nat.le_of_ble_eq_true rfl)
  rw [lg_entry_eq]
  generalize (lg_sl ([.ref h0]) ++ List.replicate (3 - (lg_sl ([.ref h0])).length) Slot.unset).toArray = ls at hl ⊢
  have hl : lv_has ls 3 [(0, .ref h0)] := hl
  have i_1 := kw_12_21 hG i_h0
  have i_2 := kw_12_22 hG i_h0
  refine lv_iconst (v := (-1)) hx hb dX12_readStep_0 (by decide) ?_
  refine lv_istore_n (lv' := [(1, .int (-1)), (0, .ref h0)]) hx hb dX12_readStep_1 rfl hl (by decide) rfl (fun ls hl => ?_)
  refine lv_iconst (v := 0) hx hb dX12_readStep_2 (by decide) ?_
  refine lv_istore_n (lv' := [(2, .int 0), (1, .int (-1)), (0, .ref h0)]) hx hb dX12_readStep_3 rfl hl (by decide) rfl (fun ls hl => ?_)
  have K_4 : ∀ (nn : Nat) (y_3 : Int32) (y_4 : Int32) (H : Heap) (locs : List Loc) (ls : Array Slot), (6 - y_3.toInt).toNat < nn → Iv dC dI g A f H → va_S A s.heap H locs → (0 ≤ y_3.toInt) → (-1 ≤ y_4.toInt ∧ y_4.toInt ≤ 4) → lv_has ls 3 [(2, .int y_3), (1, .int y_4), (0, .ref h0)] → W p l e (headSpec wq_c_X12_readStep ({ frames := 3, cells := 0, slots := 0, locals := 61 } : Room)).room s m ([.ref h0].toArray) below meth c H locs 0 0 (MQ below (va_Qv (fun (_ : Unit) => True) (fun (_ : Unit) t => ∃ f1 : Nat → va_E, Iv dC dI g A f1 t.heap ∧ Kp g [12, 41, 42] f f1 ∧ ∃ (w13 : Int32) (w14 : Int32) (w15 : Int32) (w16 : Int64) (w17 : Int32) (w18 : Int32) (w23 : Int32) (kq1 : Nat → Int32) (nq1 : Nat → Int32), (f1 h0 = .inr (12, [.int z0, .int z1, .ref (gr g h0 2), .ref (gr g h0 3), .ref (gr g h0 4), .ref (gr g h0 5), .ref (gr g h0 6), .ref (gr g h0 7), .ref (gr g h0 8), .ref (gr g h0 9), .int z10, .ref (gr g h0 11), .int z12, .int w13, .int w14, .int w15, .long w16, .int w17, .int w18, .ref (gr g h0 19), .ref (gr g h0 20), .ref (gr g h0 21), .ref (gr g h0 22), .int w23, .long z24, .long z25, .long z26])) ∧ (0 ≤ w14.toInt ∧ w14.toInt ≤ z12.toInt) ∧ (w18.toInt = 0 → w23.toInt = z23.toInt + 1) ∧ (0 ≤ w23.toInt ∧ w23.toInt ≤ 8) ∧ (f1 (gr g h0 21) = .inl (gc g 0, 8, .inl kq1)) ∧ (f1 (gr g h0 22) = .inl (gc g 0, 8, .inl nq1)) ∧ (w18.toInt = 0 → NBq w23 kq1 nq1)) A) ([.ref h0].toArray) s 0 0 A) (F0 m 4 ls []) := by
    intro nn
    induction nn with
    | zero => intro y_3 y_4 H locs ls m_7; exact absurd m_7 (Nat.not_lt_zero _)
    | succ nn ih =>
      intro y_3 y_4 H locs ls m_7 hI hS t_5 t_6 hl
      have g_8 := Int32.toInt_lt y_3
      have g_9 := Int32.le_toInt y_3
      refine lv_iload_n hx hb dX12_readStep_4 rfl (lv_at hl 0 rfl) ?_
      refine lv_iconst (v := 5) hx hb dX12_readStep_5 (by decide) ?_
      refine lv_icmp_ge (tgt := 43) hx hb dX12_readStep_6 (by decide) (fun c_10 => ?_) (fun c_10 => ?_)
      · have c_10 := kc_le (by decide : Int32.toInt 5 = 5) rfl c_10
        refine lv_aload_n hx hb dX12_readStep_43 rfl (lv_at hl 2 rfl) ?_
        refine lv_iload_n hx hb dX12_readStep_44 rfl (lv_at hl 1 rfl) ?_
        refine lv_iconst (v := (-1)) hx hb dX12_readStep_45 (by decide) ?_
        have J_63 : ∀ (y_11 : Int32) (H : Heap) (locs : List Loc) (ls : Array Slot), Iv dC dI g A f H → va_S A s.heap H locs → (y_11.toInt ≠ 0 → (y_4.toInt ≠ -1 ∧ z23.toInt < 8)) → lv_has ls 3 [(2, .int y_3), (1, .int y_4), (0, .ref h0)] → W p l e (headSpec wq_c_X12_readStep ({ frames := 3, cells := 0, slots := 0, locals := 61 } : Room)).room s m ([.ref h0].toArray) below meth c H locs 0 0 (MQ below (va_Qv (fun (_ : Unit) => True) (fun (_ : Unit) t => ∃ f1 : Nat → va_E, Iv dC dI g A f1 t.heap ∧ Kp g [12, 41, 42] f f1 ∧ ∃ (w13 : Int32) (w14 : Int32) (w15 : Int32) (w16 : Int64) (w17 : Int32) (w18 : Int32) (w23 : Int32) (kq1 : Nat → Int32) (nq1 : Nat → Int32), (f1 h0 = .inr (12, [.int z0, .int z1, .ref (gr g h0 2), .ref (gr g h0 3), .ref (gr g h0 4), .ref (gr g h0 5), .ref (gr g h0 6), .ref (gr g h0 7), .ref (gr g h0 8), .ref (gr g h0 9), .int z10, .ref (gr g h0 11), .int z12, .int w13, .int w14, .int w15, .long w16, .int w17, .int w18, .ref (gr g h0 19), .ref (gr g h0 20), .ref (gr g h0 21), .ref (gr g h0 22), .int w23, .long z24, .long z25, .long z26])) ∧ (0 ≤ w14.toInt ∧ w14.toInt ≤ z12.toInt) ∧ (w18.toInt = 0 → w23.toInt = z23.toInt + 1) ∧ (0 ≤ w23.toInt ∧ w23.toInt ≤ 8) ∧ (f1 (gr g h0 21) = .inl (gc g 0, 8, .inl kq1)) ∧ (f1 (gr g h0 22) = .inl (gc g 0, 8, .inl nq1)) ∧ (w18.toInt = 0 → NBq w23 kq1 nq1)) A) ([.ref h0].toArray) s 0 0 A) (F0 m 63 ls [.int y_11, .ref h0]) := by
          intro y_11 H locs ls hI hS t_12 hl
          refine va_callv (va_runV (As := [.int y_11]) (rest := []) ⟨hx, hb, hml, hown, hts⟩ (c_X12_must l dC dI g A hG f h0 y_11 z0 z1 z10 z12 z13 z14 z15 z16 z17 z18 z23 z24 z25 z26 i_h0 hc0 (by first | omega | (simp only [k_c0]; omega)) (by first | omega | (simp only [k_c0]; omega)) (by first | omega | (simp only [k_c0]; omega)) (by first | omega | decide | (simp only [k_c0, k_c1, k_cm1]; omega))) (cwV 1 hts (gi_V (fun w_ h0_ => ⟨List.mem_cons_of_mem _ (List.mem_append_right _ (List.mem_append_left _ h0_)), (tb_c_X12_must w_ h0_).2⟩) (List.mem_cons_of_mem _ (List.mem_append_left _ (List.mem_of_getElem? (i := 0) rfl))) (List.mem_cons_of_mem _ (List.mem_append_left _ (List.mem_of_getElem? (i := 1) rfl))) (List.mem_cons_of_mem _ (List.mem_append_left _ (List.mem_of_getElem? (i := 2) rfl))) (List.mem_cons_of_mem _ (List.mem_append_left _ (List.mem_of_getElem? (i := 3) rfl)))) rfl rfl rfl (by decide +kernel) ⟨Nat.le_of_ble_eq_true rfl, Nat.le_of_ble_eq_true rfl⟩) ⟨fun a U g mk q => ⟨q.1, q.2.calling rfl rfl⟩, k_recv hK hI i_h0.1 hc0 (ci := 12) rfl, fun U hU hW => ⟨rfl, kIn.of hI hK hE hS hU hW⟩⟩ rfl rfl hl.1 rfl (lv_room (Nat.le_of_ble_eq_true rfl)) dX12_readStep_63 ⟨Nat.le_of_ble_eq_true rfl, Nat.le_of_ble_eq_true rfl⟩) hS (fun q _ h => h) (fun q h => h) (fun u t H1 locs ht hvm _ hB hz1 hk1 hS => ?_)
          obtain ⟨f_13, hI, kc_15, w13_16, w14_17, w15_18, w16_19, w17_20, w18_21, k_22, z_23, z_24⟩ := hB
          rw [ht] at hI
          have k_25 : f_13 (gr g h0 21) = .inl (gc g 0, 8, .inl kq) := Kp.at kc_15 i_1 (by decide) hc1
          have k_26 : f_13 (gr g h0 22) = .inl (gc g 0, 8, .inl nq) := Kp.at kc_15 i_2 (by decide) hc2
          have k_22 : f_13 h0 = .inr (12, [.int z0, .int z1, .ref (gr g h0 2), .ref (gr g h0 3), .ref (gr g h0 4), .ref (gr g h0 5), .ref (gr g h0 6), .ref (gr g h0 7), .ref (gr g h0 8), .ref (gr g h0 9), .int z10, .ref (gr g h0 11), .int z12, .int w13_16, .int w14_17, .int w15_18, .long w16_19, .int w17_20, .int w18_21, .ref (gr g h0 19), .ref (gr g h0 20), .ref (gr g h0 21), .ref (gr g h0 22), .int z23, .long z24, .long z25, .long z26]) := k_22
          have z_23 : 0 ≤ w14_17.toInt ∧ w14_17.toInt ≤ z12.toInt := z_23
          have z_24 : w18_21.toInt = 0 → (z18.toInt = 0 ∧ y_11.toInt ≠ 0) := z_24
          have kp_27 := Kp.call hk0 kc_15 (by decide)
          generalize H1 = H at hI hS ⊢
          refine W.widen (k := 0) (n := 0) (Nat.le_of_ble_eq_true rfl) (Nat.le_of_ble_eq_true rfl) ?_
          refine lv_aload_n hx hb dX12_readStep_66 rfl (lv_at hl 2 rfl) ?_
          refine k_get (ci := 12) (v := .int w18_21) (C := RX12) (T := TX12) (N := 27) hx hb hts (fun _ h0_ => List.mem_cons_of_mem _ (List.mem_append_right _ (List.mem_append_right _ (List.mem_append_left _ h0_)))) hown hK hI i_h0.1 k_22 rfl 18 (by decide) (hts (.fieldLink RX12 201 "DeadlineShareModel" "bad" "Z") (List.mem_cons_of_mem _ (List.mem_append_left _ (List.mem_of_getElem? (i := 4) rfl)))) (fun _ h9 => h9) rfl dX12_readStep_67 ?_
          refine lv_if_eq (tgt := 74) hx hb dX12_readStep_70 (by decide) (fun c_28 => ?_) (fun c_28 => ?_)
          · have c_28 := kc_eq rfl (by decide : Int32.toInt 0 = 0) c_28
            have d_29 := ap_41 hI i_1 k_25
            refine lv_aload_n hx hb dX12_readStep_74 rfl (lv_at hl 2 rfl) ?_
            refine k_get (ci := 12) (v := .ref (gr g h0 21)) (C := RX12) (T := TX12) (N := 27) hx hb hts (fun _ h0_ => List.mem_cons_of_mem _ (List.mem_append_right _ (List.mem_append_right _ (List.mem_append_left _ h0_)))) hown hK hI i_h0.1 k_22 rfl 21 (by decide) (hts (.fieldLink RX12 59 "DeadlineShareModel" "kinds" "[I") (List.mem_cons_of_mem _ (List.mem_append_left _ (List.mem_of_getElem? (i := 5) rfl)))) (fun _ h9 => h9) rfl dX12_readStep_75 ?_
            refine lv_aload_n hx hb dX12_readStep_78 rfl (lv_at hl 2 rfl) ?_
            refine k_get (ci := 12) (v := .int z23) (C := RX12) (T := TX12) (N := 27) hx hb hts (fun _ h0_ => List.mem_cons_of_mem _ (List.mem_append_right _ (List.mem_append_right _ (List.mem_append_left _ h0_)))) hown hK hI i_h0.1 k_22 rfl 23 (by decide) (hts (.fieldLink RX12 208 "DeadlineShareModel" "nSteps" "I") (List.mem_cons_of_mem _ (List.mem_append_left _ (List.mem_of_getElem? (i := 6) rfl)))) (fun _ h9 => h9) rfl dX12_readStep_79 ?_
            obtain ⟨m_32, em_32, tm_32⟩ := k_nat (x := z23) (by omega)
            refine k_topi (y := nI m_32) em_32 ?_
            refine lv_iload_n hx hb dX12_readStep_82 rfl (lv_at hl 1 rfl) ?_
            refine k_iast hx hb hK hI hS i_1.1 0 k_25 rfl (vp_in_nI (by omega) (by omega)) (cl_41 i_1 (fun i9 h9 => by rw [nI_clamp (by omega)]; exact if h8 : i9 = m_32 then (by subst h8; rw [pk_us]; omega) else (by rw [pk_un h8]; exact d_29 i9 h9))) dX12_readStep_83 (fun f_33 H locs e_34 hI hS => ?_)
            generalize eq_35 : upd kq (Int32.toNatClampNeg (nI m_32)) y_4 = q_35 at e_34
            have k_37 : f_33 (gr g h0 21) = .inl (gc g 0, 8, .inl q_35) := by rw [e_34]; exact va_up_self _ _ _
            have k_38 : f_33 (gr g h0 22) = .inl (gc g 0, 8, .inl nq) := by rw [e_34, va_up_ne _ _ (ik_ne i_2 i_1 (by decide))]; exact k_26
            have k_39 : f_33 h0 = .inr (12, [.int z0, .int z1, .ref (gr g h0 2), .ref (gr g h0 3), .ref (gr g h0 4), .ref (gr g h0 5), .ref (gr g h0 6), .ref (gr g h0 7), .ref (gr g h0 8), .ref (gr g h0 9), .int z10, .ref (gr g h0 11), .int z12, .int w13_16, .int w14_17, .int w15_18, .long w16_19, .int w17_20, .int w18_21, .ref (gr g h0 19), .ref (gr g h0 20), .ref (gr g h0 21), .ref (gr g h0 22), .int z23, .long z24, .long z25, .long z26]) := by rw [e_34, va_up_ne _ _ (ik_ne i_h0 i_1 (by decide))]; exact k_22
            have kp_36 := Kp.put kp_27 i_1 (by decide) e_34
            have u_40 : upd kq m_32 y_4 = q_35 := by rw [← eq_35, show Int32.toNatClampNeg (nI m_32) = m_32 from (nI_clamp (by omega))]
            refine lv_aload_n hx hb dX12_readStep_84 rfl (lv_at hl 2 rfl) ?_
            refine k_get (ci := 12) (v := .ref (gr g h0 22)) (C := RX12) (T := TX12) (N := 27) hx hb hts (fun _ h0_ => List.mem_cons_of_mem _ (List.mem_append_right _ (List.mem_append_right _ (List.mem_append_left _ h0_)))) hown hK hI i_h0.1 k_39 rfl 22 (by decide) (hts (.fieldLink RX12 62 "DeadlineShareModel" "numbers" "[I") (List.mem_cons_of_mem _ (List.mem_append_left _ (List.mem_of_getElem? (i := 7) rfl)))) (fun _ h9 => h9) rfl dX12_readStep_85 ?_
            refine lv_aload_n hx hb dX12_readStep_88 rfl (lv_at hl 2 rfl) ?_
            refine k_get (ci := 12) (v := .int z23) (C := RX12) (T := TX12) (N := 27) hx hb hts (fun _ h0_ => List.mem_cons_of_mem _ (List.mem_append_right _ (List.mem_append_right _ (List.mem_append_left _ h0_)))) hown hK hI i_h0.1 k_39 rfl 23 (by decide) (hts (.fieldLink RX12 208 "DeadlineShareModel" "nSteps" "I") (List.mem_cons_of_mem _ (List.mem_append_left _ (List.mem_of_getElem? (i := 6) rfl)))) (fun _ h9 => h9) rfl dX12_readStep_89 ?_
            refine k_topi (y := nI m_32) em_32 ?_
            refine lv_aload_n hx hb dX12_readStep_92 rfl (lv_at hl 2 rfl) ?_
            refine k_get (ci := 12) (v := .long w16_19) (C := RX12) (T := TX12) (N := 27) hx hb hts (fun _ h0_ => List.mem_cons_of_mem _ (List.mem_append_right _ (List.mem_append_right _ (List.mem_append_left _ h0_)))) hown hK hI i_h0.1 k_39 rfl 16 (by decide) (hts (.fieldLink RX12 180 "DeadlineShareModel" "worth" "J") (List.mem_cons_of_mem _ (List.mem_append_left _ (List.mem_of_getElem? (i := 8) rfl)))) (fun _ h9 => h9) rfl dX12_readStep_93 ?_
            refine lv_l2i (v := w16_19.toInt32) hx hb dX12_readStep_96 rfl ?_
            refine lv_topi (fun v_43 ev_43 => ?_)
            have tv_43 := k_l2i w16_19
            rw [← ev_43] at tv_43
            refine k_iast hx hb hK hI hS i_2.1 0 k_38 rfl (vp_in_nI (by omega) (by omega)) (cl_42 i_2) dX12_readStep_97 (fun f_44 H locs e_45 hI hS => ?_)
            generalize eq_46 : upd nq (Int32.toNatClampNeg (nI m_32)) v_43 = q_46 at e_45
            have k_48 : f_44 (gr g h0 21) = .inl (gc g 0, 8, .inl q_35) := by rw [e_45, va_up_ne _ _ (ik_ne i_1 i_2 (by decide))]; exact k_37
            have k_49 : f_44 (gr g h0 22) = .inl (gc g 0, 8, .inl q_46) := by rw [e_45]; exact va_up_self _ _ _
            have k_50 : f_44 h0 = .inr (12, [.int z0, .int z1, .ref (gr g h0 2), .ref (gr g h0 3), .ref (gr g h0 4), .ref (gr g h0 5), .ref (gr g h0 6), .ref (gr g h0 7), .ref (gr g h0 8), .ref (gr g h0 9), .int z10, .ref (gr g h0 11), .int z12, .int w13_16, .int w14_17, .int w15_18, .long w16_19, .int w17_20, .int w18_21, .ref (gr g h0 19), .ref (gr g h0 20), .ref (gr g h0 21), .ref (gr g h0 22), .int z23, .long z24, .long z25, .long z26]) := by rw [e_45, va_up_ne _ _ (ik_ne i_h0 i_2 (by decide))]; exact k_39
            have kp_47 := Kp.put kp_36 i_2 (by decide) e_45
            have u_51 : upd nq m_32 v_43 = q_46 := by rw [← eq_46, show Int32.toNatClampNeg (nI m_32) = m_32 from (nI_clamp (by omega))]
            refine lv_aload_n hx hb dX12_readStep_98 rfl (lv_at hl 2 rfl) ?_
            refine lv_aload_n hx hb dX12_readStep_99 rfl (lv_at hl 2 rfl) ?_
            refine k_get (ci := 12) (v := .int w15_18) (C := RX12) (T := TX12) (N := 27) hx hb hts (fun _ h0_ => List.mem_cons_of_mem _ (List.mem_append_right _ (List.mem_append_right _ (List.mem_append_left _ h0_)))) hown hK hI i_h0.1 k_50 rfl 15 (by decide) (hts (.fieldLink RX12 190 "DeadlineShareModel" "sort" "I") (List.mem_cons_of_mem _ (List.mem_append_left _ (List.mem_of_getElem? (i := 9) rfl)))) (fun _ h9 => h9) rfl dX12_readStep_100 ?_
            refine lv_iconst (v := 2) hx hb dX12_readStep_103 (by decide) ?_
            have J_130 : ∀ (y_52 : Int32) (H : Heap) (locs : List Loc) (ls : Array Slot), Iv dC dI g A f_44 H → va_S A s.heap H locs → (y_52.toInt ≠ 0 → (1 ≤ w16_19.toInt ∧ w16_19.toInt ≤ 99 ∧ (y_4.toInt = 2 → w16_19.toInt ≤ 8))) → lv_has ls 3 [(2, .int y_3), (1, .int y_4), (0, .ref h0)] → W p l e (headSpec wq_c_X12_readStep ({ frames := 3, cells := 0, slots := 0, locals := 61 } : Room)).room s m ([.ref h0].toArray) below meth c H locs 0 0 (MQ below (va_Qv (fun (_ : Unit) => True) (fun (_ : Unit) t => ∃ f1 : Nat → va_E, Iv dC dI g A f1 t.heap ∧ Kp g [12, 41, 42] f f1 ∧ ∃ (w13 : Int32) (w14 : Int32) (w15 : Int32) (w16 : Int64) (w17 : Int32) (w18 : Int32) (w23 : Int32) (kq1 : Nat → Int32) (nq1 : Nat → Int32), (f1 h0 = .inr (12, [.int z0, .int z1, .ref (gr g h0 2), .ref (gr g h0 3), .ref (gr g h0 4), .ref (gr g h0 5), .ref (gr g h0 6), .ref (gr g h0 7), .ref (gr g h0 8), .ref (gr g h0 9), .int z10, .ref (gr g h0 11), .int z12, .int w13, .int w14, .int w15, .long w16, .int w17, .int w18, .ref (gr g h0 19), .ref (gr g h0 20), .ref (gr g h0 21), .ref (gr g h0 22), .int w23, .long z24, .long z25, .long z26])) ∧ (0 ≤ w14.toInt ∧ w14.toInt ≤ z12.toInt) ∧ (w18.toInt = 0 → w23.toInt = z23.toInt + 1) ∧ (0 ≤ w23.toInt ∧ w23.toInt ≤ 8) ∧ (f1 (gr g h0 21) = .inl (gc g 0, 8, .inl kq1)) ∧ (f1 (gr g h0 22) = .inl (gc g 0, 8, .inl nq1)) ∧ (w18.toInt = 0 → NBq w23 kq1 nq1)) A) ([.ref h0].toArray) s 0 0 A) (F0 m 130 ls [.int y_52, .ref h0]) := by
              intro y_52 H locs ls hI hS t_53 hl
              refine va_callv (va_runV (As := [.int y_52]) (rest := []) ⟨hx, hb, hml, hown, hts⟩ (c_X12_must l dC dI g A hG f_44 h0 y_52 z0 z1 z10 z12 w13_16 w14_17 w15_18 w16_19 w17_20 w18_21 z23 z24 z25 z26 i_h0 k_50 (by first | omega | (simp only [k_c0]; omega)) (by first | omega | (simp only [k_c0]; omega)) (by first | omega | (simp only [k_c0]; omega)) (by first | omega | decide | (simp only [k_c0, k_c1, k_cm1]; omega))) (cwV 1 hts (gi_V (fun w_ h0_ => ⟨List.mem_cons_of_mem _ (List.mem_append_right _ (List.mem_append_left _ h0_)), (tb_c_X12_must w_ h0_).2⟩) (List.mem_cons_of_mem _ (List.mem_append_left _ (List.mem_of_getElem? (i := 0) rfl))) (List.mem_cons_of_mem _ (List.mem_append_left _ (List.mem_of_getElem? (i := 1) rfl))) (List.mem_cons_of_mem _ (List.mem_append_left _ (List.mem_of_getElem? (i := 2) rfl))) (List.mem_cons_of_mem _ (List.mem_append_left _ (List.mem_of_getElem? (i := 3) rfl)))) rfl rfl rfl (by decide +kernel) ⟨Nat.le_of_ble_eq_true rfl, Nat.le_of_ble_eq_true rfl⟩) ⟨fun a U g mk q => ⟨q.1, q.2.calling rfl rfl⟩, k_recv hK hI i_h0.1 k_50 (ci := 12) rfl, fun U hU hW => ⟨rfl, kIn.of hI hK hE hS hU hW⟩⟩ rfl rfl hl.1 rfl (lv_room (Nat.le_of_ble_eq_true rfl)) dX12_readStep_130 ⟨Nat.le_of_ble_eq_true rfl, Nat.le_of_ble_eq_true rfl⟩) hS (fun q _ h => h) (fun q h => h) (fun u t H1 locs ht hvm _ hB hz1 hk1 hS => ?_)
              obtain ⟨f_54, hI, kc_56, w13_57, w14_58, w15_59, w16_60, w17_61, w18_62, k_63, z_64, z_65⟩ := hB
              rw [ht] at hI
              have k_66 : f_54 (gr g h0 21) = .inl (gc g 0, 8, .inl q_35) := Kp.at kc_56 i_1 (by decide) k_48
              have k_67 : f_54 (gr g h0 22) = .inl (gc g 0, 8, .inl q_46) := Kp.at kc_56 i_2 (by decide) k_49
              have k_63 : f_54 h0 = .inr (12, [.int z0, .int z1, .ref (gr g h0 2), .ref (gr g h0 3), .ref (gr g h0 4), .ref (gr g h0 5), .ref (gr g h0 6), .ref (gr g h0 7), .ref (gr g h0 8), .ref (gr g h0 9), .int z10, .ref (gr g h0 11), .int z12, .int w13_57, .int w14_58, .int w15_59, .long w16_60, .int w17_61, .int w18_62, .ref (gr g h0 19), .ref (gr g h0 20), .ref (gr g h0 21), .ref (gr g h0 22), .int z23, .long z24, .long z25, .long z26]) := k_63
              have z_64 : 0 ≤ w14_58.toInt ∧ w14_58.toInt ≤ z12.toInt := z_64
              have z_65 : w18_62.toInt = 0 → (w18_21.toInt = 0 ∧ y_52.toInt ≠ 0) := z_65
              have kp_68 := Kp.call kp_47 kc_56 (by decide)
              generalize H1 = H at hI hS ⊢
              refine W.widen (k := 0) (n := 0) (Nat.le_of_ble_eq_true rfl) (Nat.le_of_ble_eq_true rfl) ?_
              refine lv_aload_n hx hb dX12_readStep_133 rfl (lv_at hl 2 rfl) ?_
              refine lv_dup hx hb dX12_readStep_134 rfl ?_
              refine k_get (ci := 12) (v := .int z23) (C := RX12) (T := TX12) (N := 27) hx hb hts (fun _ h0_ => List.mem_cons_of_mem _ (List.mem_append_right _ (List.mem_append_right _ (List.mem_append_left _ h0_)))) hown hK hI i_h0.1 k_63 rfl 23 (by decide) (hts (.fieldLink RX12 208 "DeadlineShareModel" "nSteps" "I") (List.mem_cons_of_mem _ (List.mem_append_left _ (List.mem_of_getElem? (i := 6) rfl)))) (fun _ h9 => h9) rfl dX12_readStep_135 ?_
              refine lv_iconst (v := 1) hx hb dX12_readStep_138 (by decide) ?_
              refine lv_iadd hx hb dX12_readStep_139 ?_
              refine lv_topi (fun v_69 ev_69 => ?_)
              have tv_69 := k_ad z23 1
              rw [← ev_69, show Int32.toInt 1 = 1 from by decide] at tv_69
              have b_70 : 0 ≤ Int32.toInt v_69 ∧ Int32.toInt v_69 ≤ 8 := by omega
              refine k_put (ci := 12) (v := .int v_69) (ty := .int) (C := RX12) (T := TX12) (N := 27) hx hb hts (fun _ h0_ => List.mem_cons_of_mem _ (List.mem_append_right _ (List.mem_append_right _ (List.mem_append_left _ h0_)))) tyX12 tyX12_ok nmX12 hown hK hI hS i_h0.1 k_63 rfl 23 (by decide) (hts (.fieldLink RX12 208 "DeadlineShareModel" "nSteps" "I") (List.mem_cons_of_mem _ (List.mem_append_left _ (List.mem_of_getElem? (i := 6) rfl)))) (fun _ h9 => h9) rfl (by decide +kernel) rfl rfl (Nat.le_of_ble_eq_true rfl) rfl (cl_12 i_h0 (by omega) (by omega) b_70) dX12_readStep_140 (fun f_71 H locs e_72 hI hS => ?_)
              have k_74 : f_71 (gr g h0 21) = .inl (gc g 0, 8, .inl q_35) := by rw [e_72, va_up_ne _ _ (ik_ne i_1 i_h0 (by decide))]; exact k_66
              have k_75 : f_71 (gr g h0 22) = .inl (gc g 0, 8, .inl q_46) := by rw [e_72, va_up_ne _ _ (ik_ne i_2 i_h0 (by decide))]; exact k_67
              have k_76 : f_71 h0 = .inr (12, [.int z0, .int z1, .ref (gr g h0 2), .ref (gr g h0 3), .ref (gr g h0 4), .ref (gr g h0 5), .ref (gr g h0 6), .ref (gr g h0 7), .ref (gr g h0 8), .ref (gr g h0 9), .int z10, .ref (gr g h0 11), .int z12, .int w13_57, .int w14_58, .int w15_59, .long w16_60, .int w17_61, .int w18_62, .ref (gr g h0 19), .ref (gr g h0 20), .ref (gr g h0 21), .ref (gr g h0 22), .int v_69, .long z24, .long z25, .long z26]) := by rw [e_72]; exact va_up_self _ _ _
              have kp_73 := Kp.put kp_68 i_h0 (by decide) e_72
              exact W.vret hx hb hr (fun t ht hW => ⟨⟨(), rfl, trivial, ⟨f_71, k_ret ht hI, kp_73, w13_57, w14_58, w15_59, w16_60, w17_61, w18_62, v_69, q_35, q_46, k_76, (by first | omega | decide), (by first | omega | decide), (by first | omega | decide), k_74, k_75, (fun h9 k9 h8 => by rw [← u_40, ← u_51]; exact if h7 : k9 = m_32 then (by subst h7; rw [pk_us, pk_us]; omega) else (by rw [pk_un h7, pk_un h7]; exact hN k9 (by omega)))⟩⟩, hS.F ht⟩) hS.2.2 dX12_readStep_143
            have J_129 : ∀ (H : Heap) (locs : List Loc) (ls : Array Slot), Iv dC dI g A f_44 H → va_S A s.heap H locs → lv_has ls 3 [(2, .int y_3), (1, .int y_4), (0, .ref h0)] → W p l e (headSpec wq_c_X12_readStep ({ frames := 3, cells := 0, slots := 0, locals := 61 } : Room)).room s m ([.ref h0].toArray) below meth c H locs 0 0 (MQ below (va_Qv (fun (_ : Unit) => True) (fun (_ : Unit) t => ∃ f1 : Nat → va_E, Iv dC dI g A f1 t.heap ∧ Kp g [12, 41, 42] f f1 ∧ ∃ (w13 : Int32) (w14 : Int32) (w15 : Int32) (w16 : Int64) (w17 : Int32) (w18 : Int32) (w23 : Int32) (kq1 : Nat → Int32) (nq1 : Nat → Int32), (f1 h0 = .inr (12, [.int z0, .int z1, .ref (gr g h0 2), .ref (gr g h0 3), .ref (gr g h0 4), .ref (gr g h0 5), .ref (gr g h0 6), .ref (gr g h0 7), .ref (gr g h0 8), .ref (gr g h0 9), .int z10, .ref (gr g h0 11), .int z12, .int w13, .int w14, .int w15, .long w16, .int w17, .int w18, .ref (gr g h0 19), .ref (gr g h0 20), .ref (gr g h0 21), .ref (gr g h0 22), .int w23, .long z24, .long z25, .long z26])) ∧ (0 ≤ w14.toInt ∧ w14.toInt ≤ z12.toInt) ∧ (w18.toInt = 0 → w23.toInt = z23.toInt + 1) ∧ (0 ≤ w23.toInt ∧ w23.toInt ≤ 8) ∧ (f1 (gr g h0 21) = .inl (gc g 0, 8, .inl kq1)) ∧ (f1 (gr g h0 22) = .inl (gc g 0, 8, .inl nq1)) ∧ (w18.toInt = 0 → NBq w23 kq1 nq1)) A) ([.ref h0].toArray) s 0 0 A) (F0 m 129 ls [.ref h0]) := by
              intro H locs ls hI hS  hl
              refine lv_iconst (v := 0) hx hb dX12_readStep_129 (by decide) ?_
              exact J_130 0 _ _ _ hI hS (by first | omega | decide | (simp only [show Int32.toInt 0 = 0 from by decide]; omega)) (lv_sub hl [0, 1, 2] rfl)
            refine lv_icmp_ne (tgt := 129) hx hb dX12_readStep_104 (by decide) (fun c_77 => ?_) (fun c_77 => ?_)
            · have c_77 := kn_eq rfl (by decide : Int32.toInt 2 = 2) c_77
              exact J_129  _ _ _ hI hS  (lv_sub hl [0, 1, 2] rfl)
            · have c_77 := kc_eq rfl (by decide : Int32.toInt 2 = 2) c_77
              refine lv_aload_n hx hb dX12_readStep_107 rfl (lv_at hl 2 rfl) ?_
              refine k_get (ci := 12) (v := .long w16_19) (C := RX12) (T := TX12) (N := 27) hx hb hts (fun _ h0_ => List.mem_cons_of_mem _ (List.mem_append_right _ (List.mem_append_right _ (List.mem_append_left _ h0_)))) hown hK hI i_h0.1 k_50 rfl 16 (by decide) (hts (.fieldLink RX12 180 "DeadlineShareModel" "worth" "J") (List.mem_cons_of_mem _ (List.mem_append_left _ (List.mem_of_getElem? (i := 8) rfl)))) (fun _ h9 => h9) rfl dX12_readStep_108 ?_
              refine lv_lconst (v := 1) hx hb dX12_readStep_111 (by decide) ?_
              refine lv_aload_n hx hb dX12_readStep_112 rfl (lv_at hl 2 rfl) ?_
              refine k_get (ci := 12) (v := .ref (gr g h0 20)) (C := RX12) (T := TX12) (N := 27) hx hb hts (fun _ h0_ => List.mem_cons_of_mem _ (List.mem_append_right _ (List.mem_append_right _ (List.mem_append_left _ h0_)))) hown hK hI i_h0.1 k_50 rfl 20 (by decide) (hts (.fieldLink RX12 56 "DeadlineShareModel" "most" "[I") (List.mem_cons_of_mem _ (List.mem_append_left _ (List.mem_of_getElem? (i := 10) rfl)))) (fun _ h9 => h9) rfl dX12_readStep_113 ?_
              have i_79 := kw_12_20 hG i_h0
              obtain ⟨m_80, em_80, tm_80⟩ := k_nat (x := y_4) (by omega)
              refine lv_iload_n hx hb dX12_readStep_116 rfl (lv_at hl 1 rfl) ?_
              refine k_topi (y := nI m_80) em_80 ?_
              obtain ⟨q_82, k_81, b_83⟩ := op_40 hI i_79
              refine k_iald hx hb hK hI i_79.1 0 k_81 rfl (vp_in_nI (by omega) (by omega)) dX12_readStep_117 ?_
              refine k_topi (y := q_82 m_80) (congrArg q_82 (nI_clamp (by omega))) ?_
              have d_84 := b_83 m_80 (by omega)
              refine lv_i2l (v := (q_82 m_80).toInt64) hx hb dX12_readStep_118 rfl ?_
              have t_85 := Int32.toInt_toInt64 (q_82 m_80)
              refine va_calli (va_runS (As := [.long w16_19, .long 1, .long ((q_82 m_80).toInt64)]) (rest := [.ref h0]) ⟨hx, hb, hml, hown, hts⟩ (c_X12_in l dC dI g A hG f_44 w16_19 1 ((q_82 m_80).toInt64)) (va_cwS 3 hts (gi_S (fun w_ h0_ => ⟨List.mem_cons_of_mem _ (List.mem_append_right _ (List.mem_append_right _ (List.mem_append_right _ (List.mem_append_left _ h0_)))), (tb_c_X12_in w_ h0_).2⟩) (List.mem_cons_of_mem _ (List.mem_append_left _ (List.mem_of_getElem? (i := 11) rfl))) (List.mem_cons_of_mem _ (List.mem_append_left _ (List.mem_of_getElem? (i := 12) rfl))) (List.mem_cons_of_mem _ (List.mem_append_left _ (List.mem_of_getElem? (i := 3) rfl)))) rfl rfl rfl (by decide +kernel) ⟨Nat.le_of_ble_eq_true rfl, Nat.le_of_ble_eq_true rfl⟩) ⟨fun a U g mk q => ⟨q.1, q.2.calling rfl rfl⟩, fun U hU hW => ⟨rfl, kIn.of hI hK hE hS hU hW⟩⟩ rfl rfl hl.1 rfl (lv_room (Nat.le_of_ble_eq_true rfl)) dX12_readStep_119 ⟨Nat.le_of_ble_eq_true rfl, Nat.le_of_ble_eq_true rfl⟩) hS (fun q _ h => h) (fun q h => h) (fun r_87 u t H1 locs ht hvm w_86 hB hz1 hk1 hS => ?_)
              have hI : Iv dC dI g A f_44 t.heap := hB
              rw [ht] at hI
              generalize H1 = H at hI hS ⊢
              refine W.widen (k := 0) (n := 0) (Nat.le_of_ble_eq_true rfl) (Nat.le_of_ble_eq_true rfl) ?_
              have w_86 : (r_87.toInt = 0 ∧ (w16_19.toInt < (1 : Int64).toInt ∨ ((q_82 m_80).toInt64).toInt < w16_19.toInt)) ∨ (r_87.toInt = 1 ∧ (1 : Int64).toInt ≤ w16_19.toInt ∧ w16_19.toInt ≤ ((q_82 m_80).toInt64).toInt) := w_86
              have g_88 : Int64.toInt (1) = 1 := by decide
              refine lv_if_eq (tgt := 129) hx hb dX12_readStep_122 (by decide) (fun c_89 => ?_) (fun c_89 => ?_)
              · have c_89 := kc_eq rfl (by decide : Int32.toInt 0 = 0) c_89
                exact J_129  _ _ _ hI hS  (lv_sub hl [0, 1, 2] rfl)
              · have c_89 := kn_eq rfl (by decide : Int32.toInt 0 = 0) c_89
                refine lv_iconst (v := 1) hx hb dX12_readStep_125 (by decide) ?_
                refine lv_goto (tgt := 130) hx hb dX12_readStep_126 (by decide) ?_
                exact J_130 1 _ _ _ hI hS (by first | omega | decide | (simp only [show Int32.toInt 1 = 1 from by decide]; omega)) (lv_sub hl [0, 1, 2] rfl)
          · have c_28 := kn_eq rfl (by decide : Int32.toInt 0 = 0) c_28
            exact W.vret hx hb hr (fun t ht hW => ⟨⟨(), rfl, trivial, ⟨f_13, k_ret ht hI, kp_27, w13_16, w14_17, w15_18, w16_19, w17_20, w18_21, z23, kq, nq, k_22, (by first | omega | decide), (by first | omega | decide), (by first | omega | decide), k_25, k_26, (fun h9 => absurd h9 (by omega))⟩⟩, hS.F ht⟩) hS.2.2 dX12_readStep_73
        have J_62 : ∀ (H : Heap) (locs : List Loc) (ls : Array Slot), Iv dC dI g A f H → va_S A s.heap H locs → lv_has ls 3 [(2, .int y_3), (1, .int y_4), (0, .ref h0)] → W p l e (headSpec wq_c_X12_readStep ({ frames := 3, cells := 0, slots := 0, locals := 61 } : Room)).room s m ([.ref h0].toArray) below meth c H locs 0 0 (MQ below (va_Qv (fun (_ : Unit) => True) (fun (_ : Unit) t => ∃ f1 : Nat → va_E, Iv dC dI g A f1 t.heap ∧ Kp g [12, 41, 42] f f1 ∧ ∃ (w13 : Int32) (w14 : Int32) (w15 : Int32) (w16 : Int64) (w17 : Int32) (w18 : Int32) (w23 : Int32) (kq1 : Nat → Int32) (nq1 : Nat → Int32), (f1 h0 = .inr (12, [.int z0, .int z1, .ref (gr g h0 2), .ref (gr g h0 3), .ref (gr g h0 4), .ref (gr g h0 5), .ref (gr g h0 6), .ref (gr g h0 7), .ref (gr g h0 8), .ref (gr g h0 9), .int z10, .ref (gr g h0 11), .int z12, .int w13, .int w14, .int w15, .long w16, .int w17, .int w18, .ref (gr g h0 19), .ref (gr g h0 20), .ref (gr g h0 21), .ref (gr g h0 22), .int w23, .long z24, .long z25, .long z26])) ∧ (0 ≤ w14.toInt ∧ w14.toInt ≤ z12.toInt) ∧ (w18.toInt = 0 → w23.toInt = z23.toInt + 1) ∧ (0 ≤ w23.toInt ∧ w23.toInt ≤ 8) ∧ (f1 (gr g h0 21) = .inl (gc g 0, 8, .inl kq1)) ∧ (f1 (gr g h0 22) = .inl (gc g 0, 8, .inl nq1)) ∧ (w18.toInt = 0 → NBq w23 kq1 nq1)) A) ([.ref h0].toArray) s 0 0 A) (F0 m 62 ls [.ref h0]) := by
          intro H locs ls hI hS  hl
          refine lv_iconst (v := 0) hx hb dX12_readStep_62 (by decide) ?_
          exact J_63 0 _ _ _ hI hS (by first | omega | decide | (simp only [show Int32.toInt 0 = 0 from by decide]; omega)) (lv_sub hl [0, 1, 2] rfl)
        refine lv_icmp_eq (tgt := 62) hx hb dX12_readStep_46 (by decide) (fun c_90 => ?_) (fun c_90 => ?_)
        · have c_90 := kc_eq rfl (by decide : Int32.toInt (-1) = (-1)) c_90
          exact J_62  _ _ _ hI hS  (lv_sub hl [0, 1, 2] rfl)
        · have c_90 := kn_eq rfl (by decide : Int32.toInt (-1) = (-1)) c_90
          refine lv_aload_n hx hb dX12_readStep_49 rfl (lv_at hl 2 rfl) ?_
          refine k_get (ci := 12) (v := .int z23) (C := RX12) (T := TX12) (N := 27) hx hb hts (fun _ h0_ => List.mem_cons_of_mem _ (List.mem_append_right _ (List.mem_append_right _ (List.mem_append_left _ h0_)))) hown hK hI i_h0.1 hc0 rfl 23 (by decide) (hts (.fieldLink RX12 208 "DeadlineShareModel" "nSteps" "I") (List.mem_cons_of_mem _ (List.mem_append_left _ (List.mem_of_getElem? (i := 6) rfl)))) (fun _ h9 => h9) rfl dX12_readStep_50 ?_
          refine lv_bipush (v := 8) hx hb dX12_readStep_53 (by decide) ?_
          refine lv_icmp_ge (tgt := 62) hx hb dX12_readStep_55 (by decide) (fun c_91 => ?_) (fun c_91 => ?_)
          · have c_91 := kc_le (by decide : Int32.toInt 8 = 8) rfl c_91
            exact J_62  _ _ _ hI hS  (lv_sub hl [0, 1, 2] rfl)
          · have c_91 := kn_le (by decide : Int32.toInt 8 = 8) rfl c_91
            refine lv_iconst (v := 1) hx hb dX12_readStep_58 (by decide) ?_
            refine lv_goto (tgt := 63) hx hb dX12_readStep_59 (by decide) ?_
            exact J_63 1 _ _ _ hI hS (by first | omega | decide | (simp only [show Int32.toInt 1 = 1 from by decide]; omega)) (lv_sub hl [0, 1, 2] rfl)
      · have c_10 := kn_le (by decide : Int32.toInt 5 = 5) rfl c_10
        refine lv_aload_n hx hb dX12_readStep_9 rfl (lv_at hl 2 rfl) ?_
        refine k_get (ci := 12) (v := .int z15) (C := RX12) (T := TX12) (N := 27) hx hb hts (fun _ h0_ => List.mem_cons_of_mem _ (List.mem_append_right _ (List.mem_append_right _ (List.mem_append_left _ h0_)))) hown hK hI i_h0.1 hc0 rfl 15 (by decide) (hts (.fieldLink RX12 190 "DeadlineShareModel" "sort" "I") (List.mem_cons_of_mem _ (List.mem_append_left _ (List.mem_of_getElem? (i := 9) rfl)))) (fun _ h9 => h9) rfl dX12_readStep_10 ?_
        refine lv_iconst (v := 1) hx hb dX12_readStep_13 (by decide) ?_
        have J_36 : ∀ (y_92 : Int32) (H : Heap) (locs : List Loc) (ls : Array Slot), Iv dC dI g A f H → va_S A s.heap H locs → (-1 ≤ y_92.toInt ∧ y_92.toInt ≤ 4) → lv_has ls 3 [(2, .int y_3), (1, .int y_4), (0, .ref h0)] → W p l e (headSpec wq_c_X12_readStep ({ frames := 3, cells := 0, slots := 0, locals := 61 } : Room)).room s m ([.ref h0].toArray) below meth c H locs 0 0 (MQ below (va_Qv (fun (_ : Unit) => True) (fun (_ : Unit) t => ∃ f1 : Nat → va_E, Iv dC dI g A f1 t.heap ∧ Kp g [12, 41, 42] f f1 ∧ ∃ (w13 : Int32) (w14 : Int32) (w15 : Int32) (w16 : Int64) (w17 : Int32) (w18 : Int32) (w23 : Int32) (kq1 : Nat → Int32) (nq1 : Nat → Int32), (f1 h0 = .inr (12, [.int z0, .int z1, .ref (gr g h0 2), .ref (gr g h0 3), .ref (gr g h0 4), .ref (gr g h0 5), .ref (gr g h0 6), .ref (gr g h0 7), .ref (gr g h0 8), .ref (gr g h0 9), .int z10, .ref (gr g h0 11), .int z12, .int w13, .int w14, .int w15, .long w16, .int w17, .int w18, .ref (gr g h0 19), .ref (gr g h0 20), .ref (gr g h0 21), .ref (gr g h0 22), .int w23, .long z24, .long z25, .long z26])) ∧ (0 ≤ w14.toInt ∧ w14.toInt ≤ z12.toInt) ∧ (w18.toInt = 0 → w23.toInt = z23.toInt + 1) ∧ (0 ≤ w23.toInt ∧ w23.toInt ≤ 8) ∧ (f1 (gr g h0 21) = .inl (gc g 0, 8, .inl kq1)) ∧ (f1 (gr g h0 22) = .inl (gc g 0, 8, .inl nq1)) ∧ (w18.toInt = 0 → NBq w23 kq1 nq1)) A) ([.ref h0].toArray) s 0 0 A) (F0 m 36 ls [.int y_92]) := by
          intro y_92 H locs ls hI hS t_93 hl
          refine lv_istore_n (lv' := [(1, .int y_92), (2, .int y_3), (0, .ref h0)]) hx hb dX12_readStep_36 rfl hl (by decide) rfl (fun ls hl => ?_)
          obtain ⟨v_94, ev_94⟩ : ∃ y : Int32, y = y_3 + Int32.ofInt 1 := ⟨_, rfl⟩
          refine lv_iinc (v := v_94) (lv' := [(2, .int v_94), (1, .int y_92), (0, .ref h0)]) hx hb dX12_readStep_37 hl (k := 1) rfl ev_94.symm (by decide) rfl (fun ls hl => ?_)
          have tv_94 := k_inc y_3
          rw [← ev_94] at tv_94
          refine lv_goto (tgt := 4) hx hb dX12_readStep_40 (by decide) ?_
          exact ih v_94 y_92 _ _ _ (by omega) hI hS (by first | omega | decide) (by first | omega | decide) (lv_sub hl [0, 1, 2] rfl)
        have J_35 : ∀ (H : Heap) (locs : List Loc) (ls : Array Slot), Iv dC dI g A f H → va_S A s.heap H locs → lv_has ls 3 [(2, .int y_3), (1, .int y_4), (0, .ref h0)] → W p l e (headSpec wq_c_X12_readStep ({ frames := 3, cells := 0, slots := 0, locals := 61 } : Room)).room s m ([.ref h0].toArray) below meth c H locs 0 0 (MQ below (va_Qv (fun (_ : Unit) => True) (fun (_ : Unit) t => ∃ f1 : Nat → va_E, Iv dC dI g A f1 t.heap ∧ Kp g [12, 41, 42] f f1 ∧ ∃ (w13 : Int32) (w14 : Int32) (w15 : Int32) (w16 : Int64) (w17 : Int32) (w18 : Int32) (w23 : Int32) (kq1 : Nat → Int32) (nq1 : Nat → Int32), (f1 h0 = .inr (12, [.int z0, .int z1, .ref (gr g h0 2), .ref (gr g h0 3), .ref (gr g h0 4), .ref (gr g h0 5), .ref (gr g h0 6), .ref (gr g h0 7), .ref (gr g h0 8), .ref (gr g h0 9), .int z10, .ref (gr g h0 11), .int z12, .int w13, .int w14, .int w15, .long w16, .int w17, .int w18, .ref (gr g h0 19), .ref (gr g h0 20), .ref (gr g h0 21), .ref (gr g h0 22), .int w23, .long z24, .long z25, .long z26])) ∧ (0 ≤ w14.toInt ∧ w14.toInt ≤ z12.toInt) ∧ (w18.toInt = 0 → w23.toInt = z23.toInt + 1) ∧ (0 ≤ w23.toInt ∧ w23.toInt ≤ 8) ∧ (f1 (gr g h0 21) = .inl (gc g 0, 8, .inl kq1)) ∧ (f1 (gr g h0 22) = .inl (gc g 0, 8, .inl nq1)) ∧ (w18.toInt = 0 → NBq w23 kq1 nq1)) A) ([.ref h0].toArray) s 0 0 A) (F0 m 35 ls []) := by
          intro H locs ls hI hS  hl
          refine lv_iload_n hx hb dX12_readStep_35 rfl (lv_at hl 1 rfl) ?_
          exact J_36 y_4 _ _ _ hI hS (by first | omega | decide) (lv_sub hl [0, 1, 2] rfl)
        refine lv_icmp_ne (tgt := 35) hx hb dX12_readStep_14 (by decide) (fun c_95 => ?_) (fun c_95 => ?_)
        · have c_95 := kn_eq rfl (by decide : Int32.toInt 1 = 1) c_95
          exact J_35  _ _ _ hI hS  (lv_sub hl [0, 1, 2] rfl)
        · have c_95 := kc_eq rfl (by decide : Int32.toInt 1 = 1) c_95
          refine lv_aload_n hx hb dX12_readStep_17 rfl (lv_at hl 2 rfl) ?_
          refine k_get (ci := 12) (v := .long z16) (C := RX12) (T := TX12) (N := 27) hx hb hts (fun _ h0_ => List.mem_cons_of_mem _ (List.mem_append_right _ (List.mem_append_right _ (List.mem_append_left _ h0_)))) hown hK hI i_h0.1 hc0 rfl 16 (by decide) (hts (.fieldLink RX12 180 "DeadlineShareModel" "worth" "J") (List.mem_cons_of_mem _ (List.mem_append_left _ (List.mem_of_getElem? (i := 8) rfl)))) (fun _ h9 => h9) rfl dX12_readStep_18 ?_
          refine lv_aload_n hx hb dX12_readStep_21 rfl (lv_at hl 2 rfl) ?_
          refine k_get (ci := 12) (v := .ref (gr g h0 19)) (C := RX12) (T := TX12) (N := 27) hx hb hts (fun _ h0_ => List.mem_cons_of_mem _ (List.mem_append_right _ (List.mem_append_right _ (List.mem_append_left _ h0_)))) hown hK hI i_h0.1 hc0 rfl 19 (by decide) (hts (.fieldLink RX12 53 "DeadlineShareModel" "words" "[J") (List.mem_cons_of_mem _ (List.mem_append_left _ (List.mem_of_getElem? (i := 13) rfl)))) (fun _ h9 => h9) rfl dX12_readStep_22 ?_
          have i_97 := kw_12_19 hG i_h0
          refine lv_iload_n hx hb dX12_readStep_25 rfl (lv_at hl 0 rfl) ?_
          obtain ⟨q_99, k_98, b_100⟩ := op_39 hI i_97
          refine k_lald hx hb hK hI i_97.1 1 k_98 rfl (vp_in_iff.mpr (by omega)) dX12_readStep_26 ?_
          refine lv_topl (fun v_101 ev_101 => ?_)
          refine W.lcmp hx hb dX12_readStep_27 ?_
          refine lv_if_ne (tgt := 35) hx hb dX12_readStep_28 (by decide) (fun c_102 => ?_) (fun c_102 => ?_)
          · have c_102 := ln_eq rfl rfl (fun h9 => c_102 ((lg_cmp_eq _ _).mpr h9))
            exact J_35  _ _ _ hI hS  (lv_sub hl [0, 1, 2] rfl)
          · have c_102 := lc_eq rfl rfl ((lg_cmp_eq _ _).mp c_102)
            refine lv_iload_n hx hb dX12_readStep_31 rfl (lv_at hl 0 rfl) ?_
            refine lv_goto (tgt := 36) hx hb dX12_readStep_32 (by decide) ?_
            exact J_36 y_3 _ _ _ hI hS (by first | omega | decide) (lv_sub hl [0, 1, 2] rfl)
  exact K_4 _ 0 (-1) _ _ _ (Nat.lt_succ_self _) hI hS (by first | omega | decide | (simp only [show Int32.toInt 0 = 0 from by decide, show Int32.toInt (-1) = (-1) from by decide]; omega)) (by first | omega | decide | (simp only [show Int32.toInt 0 = 0 from by decide, show Int32.toInt (-1) = (-1) from by decide]; omega)) (lv_sub hl [0, 1, 2] rfl)
theorem tw_894 : q_g (.constantLong RX12 218 (44)) := ⟨(List.mem_append_right _ (List.mem_of_getElem? (i := 1364) (by decide +kernel))), good_of_word (by decide +kernel)⟩
theorem tw_895 : q_g (.selects RX12 yX12_readStep yX12_readStep) := ⟨(List.mem_append_left _ (List.mem_of_getElem? (i := 42) (by decide +kernel))), good_of_word (by decide +kernel)⟩
theorem tw_896 : q_g (.instanceMethod yX12_readStep) := ⟨(List.mem_append_right _ (List.mem_of_getElem? (i := 1358) (by decide +kernel))), good_of_word (by decide +kernel)⟩
theorem tw_897 : q_g (.methodLink RX12 215 yX12_readStep) := ⟨(List.mem_append_right _ (List.mem_of_getElem? (i := 1356) (by decide +kernel))), good_of_word (by decide +kernel)⟩
theorem tw_898 : q_g (.code yX12_readScript cX12_readScript 1 none) := ⟨(List.mem_append_right _ (List.mem_of_getElem? (i := 1341) (by decide +kernel))), good_of_word (by decide +kernel)⟩
def ow_c_X12_readScript : List Cond := [.fieldLink RX12 174 "DeadlineShareModel" "to" "I", .fieldLink RX12 201 "DeadlineShareModel" "bad" "Z", .fieldLink RX12 39 "DeadlineShareModel" "fault" "I", .fieldLink RX12 208 "DeadlineShareModel" "nSteps" "I", .methodLink RX12 205 yX12_next, .instanceMethod yX12_next, .selects RX12 yX12_next yX12_next, .initialized RX12, .methodLink RX12 215 yX12_readStep, .instanceMethod yX12_readStep, .selects RX12 yX12_readStep yX12_readStep, .fieldLink RX12 190 "DeadlineShareModel" "sort" "I", .methodLink RX12 211 yX12_must, .instanceMethod yX12_must, .selects RX12 yX12_must yX12_must, .fieldLink RX12 180 "DeadlineShareModel" "worth" "J", .constantLong RX12 218 (44)]
def wq_c_X12_readScript : List Cond := .code yX12_readScript cX12_readScript 1 none :: (ow_c_X12_readScript ++ (u_ws RX12 TX12 27 ++ (wq_c_X12_next ++ (wq_c_X12_readStep ++ (wq_c_X12_must ++ ([] : List Cond))))))
theorem tb_c_X12_readScript : ∀ w ∈ wq_c_X12_readScript, q_g w := by
  unfold wq_c_X12_readScript ow_c_X12_readScript
  exact q_cons tw_898 (q_app (q_cons tw_877 (q_cons tw_883 (q_cons tw_879 (q_cons tw_888 (q_cons tw_882 (q_cons tw_881 (q_cons tw_880 (q_cons tw_728 (q_cons tw_897 (q_cons tw_896 (q_cons tw_895 (q_cons tw_874 (q_cons tw_892 (q_cons tw_891 (q_cons tw_890 (q_cons tw_875 (q_cons tw_894 q_nil))))))))))))))))) (q_app tu_X12 (q_app tb_c_X12_next (q_app tb_c_X12_readStep (q_app tb_c_X12_must q_nil)))))
set_option maxHeartbeats 4000000 in
set_option maxRecDepth 100000 in
theorem c_X12_readScript (l : Launch) (dC : Nat → ClassId) (dI : Nat → Nat → Nat) (g : kG) (A : Nat → Prop) (hG : kWf g) (f : Nat → va_E) (h0 : Nat) (z0 : Int32) (z1 : Int32) (z10 : Int32) (z12 : Int32) (z13 : Int32) (z14 : Int32) (z15 : Int32) (z16 : Int64) (z17 : Int32) (z18 : Int32) (z23 : Int32) (z24 : Int64) (z25 : Int64) (z26 : Int64) (kq : Nat → Int32) (nq : Nat → Int32) (i_h0 : ik g 12 h0) (hc0 : f h0 = .inr (12, [.int z0, .int z1, .ref (gr g h0 2), .ref (gr g h0 3), .ref (gr g h0 4), .ref (gr g h0 5), .ref (gr g h0 6), .ref (gr g h0 7), .ref (gr g h0 8), .ref (gr g h0 9), .int z10, .ref (gr g h0 11), .int z12, .int z13, .int z14, .int z15, .long z16, .int z17, .int z18, .ref (gr g h0 19), .ref (gr g h0 20), .ref (gr g h0 21), .ref (gr g h0 22), .int z23, .long z24, .long z25, .long z26])) (hc0_10 : 0 ≤ z10.toInt ∧ z10.toInt ≤ 10) (hc0_12 : 0 ≤ z12.toInt ∧ z12.toInt ≤ 200) (hc0_23 : 0 ≤ z23.toInt ∧ z23.toInt ≤ 8) (hc1 : f (gr g h0 21) = .inl (gc g 0, 8, .inl kq)) (hc2 : f (gr g h0 22) = .inl (gc g 0, 8, .inl nq)) : Met l yX12_readScript wq_c_X12_readScript ({ frames := 4, cells := 0, slots := 0, locals := 83 } : Room) (va_Pc [.ref h0] (fun U => kIn dC dI g A f U)) (va_Qv (fun (_ : Unit) => True) (fun (_ : Unit) t => ∃ f1 : Nat → va_E, Iv dC dI g A f1 t.heap ∧ Kp g [12, 41, 42] f f1 ∧ ∃ (w13 : Int32) (w14 : Int32) (w15 : Int32) (w16 : Int64) (w17 : Int32) (w18 : Int32) (w23 : Int32) (kq1 : Nat → Int32) (nq1 : Nat → Int32), (f1 h0 = .inr (12, [.int z0, .int z1, .ref (gr g h0 2), .ref (gr g h0 3), .ref (gr g h0 4), .ref (gr g h0 5), .ref (gr g h0 6), .ref (gr g h0 7), .ref (gr g h0 8), .ref (gr g h0 9), .int z10, .ref (gr g h0 11), .int z12, .int w13, .int w14, .int w15, .long w16, .int w17, .int w18, .ref (gr g h0 19), .ref (gr g h0 20), .ref (gr g h0 21), .ref (gr g h0 22), .int w23, .long z24, .long z25, .long z26])) ∧ (0 ≤ w23.toInt ∧ w23.toInt ≤ 8) ∧ (f1 (gr g h0 21) = .inl (gc g 0, 8, .inl kq1)) ∧ (f1 (gr g h0 22) = .inl (gc g 0, 8, .inl nq1)) ∧ (w18.toInt = 0 → NBq w23 kq1 nq1)) A) 0 0 A := by
  refine Met.ofW (cc := cX12_readScript) (maxL := 1) (ret := none) (by decide) rfl ?_
  intro p e s m args below meth c s₁ B hml hv
  obtain ⟨rfl, hI, hK, hE⟩ := hv
  have hx := B.exec
  have hb := B.bytes
  have hr := B.returns
  have hts := atoms_spec (ws := wq_c_X12_readScript) B.pre
  have hown : s.vm.findClass RX12 = some m.cls := findClass_of_methodNamed B.named
  have hlocks := B.notSynchronized
  have hS : va_S A s.heap s.heap [] := va_S.rf
  have hk0 : Kp g [12, 41, 42] f f := Kp.rf
  have hl := lv_entry ([.ref h0]) (n := 1) (Nat.le_of_ble_eq_true rfl)
  rw [lg_entry_eq]
  generalize (lg_sl ([.ref h0]) ++ List.replicate (1 - (lg_sl ([.ref h0])).length) Slot.unset).toArray = ls at hl ⊢
  have hl : lv_has ls 1 [(0, .ref h0)] := hl
  have i_1 := kw_12_21 hG i_h0
  have i_2 := kw_12_22 hG i_h0
  refine lv_aload_n hx hb dX12_readScript_0 rfl (lv_at hl 0 rfl) ?_
  refine lv_iconst (v := 0) hx hb dX12_readScript_1 (by decide) ?_
  refine k_put (ci := 12) (v := .int 0) (ty := .int) (C := RX12) (T := TX12) (N := 27) hx hb hts (fun _ h0_ => List.mem_cons_of_mem _ (List.mem_append_right _ (List.mem_append_left _ h0_))) tyX12 tyX12_ok nmX12 hown hK hI hS i_h0.1 hc0 rfl 14 (by decide) (hts (.fieldLink RX12 174 "DeadlineShareModel" "to" "I") (List.mem_cons_of_mem _ (List.mem_append_left _ (List.mem_of_getElem? (i := 0) rfl)))) (fun _ h9 => h9) rfl (by decide +kernel) rfl rfl (Nat.le_of_ble_eq_true rfl) rfl (cl_12 i_h0 (by omega) (by omega) (by omega)) dX12_readScript_2 (fun f_3 H locs e_4 hI hS => ?_)
  have k_6 : f_3 h0 = .inr (12, [.int z0, .int z1, .ref (gr g h0 2), .ref (gr g h0 3), .ref (gr g h0 4), .ref (gr g h0 5), .ref (gr g h0 6), .ref (gr g h0 7), .ref (gr g h0 8), .ref (gr g h0 9), .int z10, .ref (gr g h0 11), .int z12, .int z13, .int 0, .int z15, .long z16, .int z17, .int z18, .ref (gr g h0 19), .ref (gr g h0 20), .ref (gr g h0 21), .ref (gr g h0 22), .int z23, .long z24, .long z25, .long z26]) := by rw [e_4]; exact va_up_self _ _ _
  have k_7 : f_3 (gr g h0 21) = .inl (gc g 0, 8, .inl kq) := by rw [e_4, va_up_ne _ _ (ik_ne i_1 i_h0 (by decide))]; exact hc1
  have k_8 : f_3 (gr g h0 22) = .inl (gc g 0, 8, .inl nq) := by rw [e_4, va_up_ne _ _ (ik_ne i_2 i_h0 (by decide))]; exact hc2
  have kp_5 := Kp.put hk0 i_h0 (by decide) e_4
  refine lv_aload_n hx hb dX12_readScript_5 rfl (lv_at hl 0 rfl) ?_
  refine lv_iconst (v := 0) hx hb dX12_readScript_6 (by decide) ?_
  refine k_put (ci := 12) (v := .int 0) (ty := .boolean) (C := RX12) (T := TX12) (N := 27) hx hb hts (fun _ h0_ => List.mem_cons_of_mem _ (List.mem_append_right _ (List.mem_append_left _ h0_))) tyX12 tyX12_ok nmX12 hown hK hI hS i_h0.1 k_6 rfl 18 (by decide) (hts (.fieldLink RX12 201 "DeadlineShareModel" "bad" "Z") (List.mem_cons_of_mem _ (List.mem_append_left _ (List.mem_of_getElem? (i := 1) rfl)))) (fun _ h9 => h9) rfl (by decide +kernel) rfl rfl (Nat.le_of_ble_eq_true rfl) rfl (cl_12 i_h0 (by omega) (by omega) (by omega)) dX12_readScript_7 (fun f_9 H locs e_10 hI hS => ?_)
  have k_12 : f_9 h0 = .inr (12, [.int z0, .int z1, .ref (gr g h0 2), .ref (gr g h0 3), .ref (gr g h0 4), .ref (gr g h0 5), .ref (gr g h0 6), .ref (gr g h0 7), .ref (gr g h0 8), .ref (gr g h0 9), .int z10, .ref (gr g h0 11), .int z12, .int z13, .int 0, .int z15, .long z16, .int z17, .int 0, .ref (gr g h0 19), .ref (gr g h0 20), .ref (gr g h0 21), .ref (gr g h0 22), .int z23, .long z24, .long z25, .long z26]) := by rw [e_10]; exact va_up_self _ _ _
  have k_13 : f_9 (gr g h0 21) = .inl (gc g 0, 8, .inl kq) := by rw [e_10, va_up_ne _ _ (ik_ne i_1 i_h0 (by decide))]; exact k_7
  have k_14 : f_9 (gr g h0 22) = .inl (gc g 0, 8, .inl nq) := by rw [e_10, va_up_ne _ _ (ik_ne i_2 i_h0 (by decide))]; exact k_8
  have kp_11 := Kp.put kp_5 i_h0 (by decide) e_10
  refine lv_aload_n hx hb dX12_readScript_10 rfl (lv_at hl 0 rfl) ?_
  refine lv_iconst (v := (-1)) hx hb dX12_readScript_11 (by decide) ?_
  refine k_put (ci := 12) (v := .int (-1)) (ty := .int) (C := RX12) (T := TX12) (N := 27) hx hb hts (fun _ h0_ => List.mem_cons_of_mem _ (List.mem_append_right _ (List.mem_append_left _ h0_))) tyX12 tyX12_ok nmX12 hown hK hI hS i_h0.1 k_12 rfl 17 (by decide) (hts (.fieldLink RX12 39 "DeadlineShareModel" "fault" "I") (List.mem_cons_of_mem _ (List.mem_append_left _ (List.mem_of_getElem? (i := 2) rfl)))) (fun _ h9 => h9) rfl (by decide +kernel) rfl rfl (Nat.le_of_ble_eq_true rfl) rfl (cl_12 i_h0 (by omega) (by omega) (by omega)) dX12_readScript_12 (fun f_15 H locs e_16 hI hS => ?_)
  have k_18 : f_15 h0 = .inr (12, [.int z0, .int z1, .ref (gr g h0 2), .ref (gr g h0 3), .ref (gr g h0 4), .ref (gr g h0 5), .ref (gr g h0 6), .ref (gr g h0 7), .ref (gr g h0 8), .ref (gr g h0 9), .int z10, .ref (gr g h0 11), .int z12, .int z13, .int 0, .int z15, .long z16, .int (-1), .int 0, .ref (gr g h0 19), .ref (gr g h0 20), .ref (gr g h0 21), .ref (gr g h0 22), .int z23, .long z24, .long z25, .long z26]) := by rw [e_16]; exact va_up_self _ _ _
  have k_19 : f_15 (gr g h0 21) = .inl (gc g 0, 8, .inl kq) := by rw [e_16, va_up_ne _ _ (ik_ne i_1 i_h0 (by decide))]; exact k_13
  have k_20 : f_15 (gr g h0 22) = .inl (gc g 0, 8, .inl nq) := by rw [e_16, va_up_ne _ _ (ik_ne i_2 i_h0 (by decide))]; exact k_14
  have kp_17 := Kp.put kp_11 i_h0 (by decide) e_16
  refine lv_aload_n hx hb dX12_readScript_15 rfl (lv_at hl 0 rfl) ?_
  refine lv_iconst (v := 0) hx hb dX12_readScript_16 (by decide) ?_
  have b_21 : 0 ≤ Int32.toInt 0 ∧ Int32.toInt 0 ≤ 8 := (by decide)
  refine k_put (ci := 12) (v := .int 0) (ty := .int) (C := RX12) (T := TX12) (N := 27) hx hb hts (fun _ h0_ => List.mem_cons_of_mem _ (List.mem_append_right _ (List.mem_append_left _ h0_))) tyX12 tyX12_ok nmX12 hown hK hI hS i_h0.1 k_18 rfl 23 (by decide) (hts (.fieldLink RX12 208 "DeadlineShareModel" "nSteps" "I") (List.mem_cons_of_mem _ (List.mem_append_left _ (List.mem_of_getElem? (i := 3) rfl)))) (fun _ h9 => h9) rfl (by decide +kernel) rfl rfl (Nat.le_of_ble_eq_true rfl) rfl (cl_12 i_h0 (by omega) (by omega) b_21) dX12_readScript_17 (fun f_22 H locs e_23 hI hS => ?_)
  have k_25 : f_22 h0 = .inr (12, [.int z0, .int z1, .ref (gr g h0 2), .ref (gr g h0 3), .ref (gr g h0 4), .ref (gr g h0 5), .ref (gr g h0 6), .ref (gr g h0 7), .ref (gr g h0 8), .ref (gr g h0 9), .int z10, .ref (gr g h0 11), .int z12, .int z13, .int 0, .int z15, .long z16, .int (-1), .int 0, .ref (gr g h0 19), .ref (gr g h0 20), .ref (gr g h0 21), .ref (gr g h0 22), .int 0, .long z24, .long z25, .long z26]) := by rw [e_23]; exact va_up_self _ _ _
  have k_26 : f_22 (gr g h0 21) = .inl (gc g 0, 8, .inl kq) := by rw [e_23, va_up_ne _ _ (ik_ne i_1 i_h0 (by decide))]; exact k_19
  have k_27 : f_22 (gr g h0 22) = .inl (gc g 0, 8, .inl nq) := by rw [e_23, va_up_ne _ _ (ik_ne i_2 i_h0 (by decide))]; exact k_20
  have kp_24 := Kp.put kp_17 i_h0 (by decide) e_23
  refine lv_aload_n hx hb dX12_readScript_20 rfl (lv_at hl 0 rfl) ?_
  refine va_callv (va_runV (As := []) (rest := []) ⟨hx, hb, hml, hown, hts⟩ (c_X12_next l dC dI g A hG f_22 h0 z0 z1 z10 z12 z13 0 z15 z16 (-1) 0 0 z24 z25 z26 i_h0 k_25 (by first | omega | (simp only [k_c0]; omega)) (by first | omega | (simp only [k_c0]; omega)) (by decide) (by decide)) (cwV 0 hts (gi_V (fun w_ h0_ => ⟨List.mem_cons_of_mem _ (List.mem_append_right _ (List.mem_append_right _ (List.mem_append_left _ h0_))), (tb_c_X12_next w_ h0_).2⟩) (List.mem_cons_of_mem _ (List.mem_append_left _ (List.mem_of_getElem? (i := 4) rfl))) (List.mem_cons_of_mem _ (List.mem_append_left _ (List.mem_of_getElem? (i := 5) rfl))) (List.mem_cons_of_mem _ (List.mem_append_left _ (List.mem_of_getElem? (i := 6) rfl))) (List.mem_cons_of_mem _ (List.mem_append_left _ (List.mem_of_getElem? (i := 7) rfl)))) rfl rfl rfl (by decide +kernel) ⟨Nat.le_of_ble_eq_true rfl, Nat.le_of_ble_eq_true rfl⟩) ⟨fun a U g mk q => ⟨q.1, q.2.calling rfl rfl⟩, k_recv hK hI i_h0.1 k_25 (ci := 12) rfl, fun U hU hW => ⟨rfl, kIn.of hI hK hE hS hU hW⟩⟩ rfl rfl hl.1 rfl (lv_room (Nat.le_of_ble_eq_true rfl)) dX12_readScript_21 ⟨Nat.le_of_ble_eq_true rfl, Nat.le_of_ble_eq_true rfl⟩) hS (fun q _ h => h) (fun q h => h) (fun u t H1 locs ht hvm _ hB hz1 hk1 hS => ?_)
  obtain ⟨f_28, hI, kc_30, w13_31, w14_32, w15_33, w16_34, k_35, z_36⟩ := hB
  rw [ht] at hI
  have k_37 : f_28 (gr g h0 21) = .inl (gc g 0, 8, .inl kq) := Kp.at kc_30 i_1 (by decide) k_26
  have k_38 : f_28 (gr g h0 22) = .inl (gc g 0, 8, .inl nq) := Kp.at kc_30 i_2 (by decide) k_27
  have k_35 : f_28 h0 = .inr (12, [.int z0, .int z1, .ref (gr g h0 2), .ref (gr g h0 3), .ref (gr g h0 4), .ref (gr g h0 5), .ref (gr g h0 6), .ref (gr g h0 7), .ref (gr g h0 8), .ref (gr g h0 9), .int z10, .ref (gr g h0 11), .int z12, .int w13_31, .int w14_32, .int w15_33, .long w16_34, .int (-1), .int 0, .ref (gr g h0 19), .ref (gr g h0 20), .ref (gr g h0 21), .ref (gr g h0 22), .int 0, .long z24, .long z25, .long z26]) := k_35
  have z_36 : 0 ≤ w14_32.toInt ∧ w14_32.toInt ≤ z12.toInt := z_36
  have kp_39 := Kp.call kp_24 kc_30 (by decide)
  generalize H1 = H at hI hS ⊢
  refine W.widen (k := 0) (n := 0) (Nat.le_of_ble_eq_true rfl) (Nat.le_of_ble_eq_true rfl) ?_
  refine lv_aload_n hx hb dX12_readScript_24 rfl (lv_at hl 0 rfl) ?_
  refine va_callv (va_runV (As := []) (rest := []) ⟨hx, hb, hml, hown, hts⟩ (c_X12_readStep l dC dI g A hG f_28 h0 z0 z1 z10 z12 w13_31 w14_32 w15_33 w16_34 (-1) 0 0 z24 z25 z26 kq nq i_h0 k_35 (by first | omega | (simp only [k_c0]; omega)) (by first | omega | (simp only [k_c0]; omega)) (by decide) k_37 k_38 (by decide) (by decide) (fun k9 h9 => absurd h9 (by simp only [k_c0]; omega))) (cwV 0 hts (gi_V (fun w_ h0_ => ⟨List.mem_cons_of_mem _ (List.mem_append_right _ (List.mem_append_right _ (List.mem_append_right _ (List.mem_append_left _ h0_)))), (tb_c_X12_readStep w_ h0_).2⟩) (List.mem_cons_of_mem _ (List.mem_append_left _ (List.mem_of_getElem? (i := 8) rfl))) (List.mem_cons_of_mem _ (List.mem_append_left _ (List.mem_of_getElem? (i := 9) rfl))) (List.mem_cons_of_mem _ (List.mem_append_left _ (List.mem_of_getElem? (i := 10) rfl))) (List.mem_cons_of_mem _ (List.mem_append_left _ (List.mem_of_getElem? (i := 7) rfl)))) rfl rfl rfl (by decide +kernel) ⟨Nat.le_of_ble_eq_true rfl, Nat.le_of_ble_eq_true rfl⟩) ⟨fun a U g mk q => ⟨q.1, q.2.calling rfl rfl⟩, k_recv hK hI i_h0.1 k_35 (ci := 12) rfl, fun U hU hW => ⟨rfl, kIn.of hI hK hE hS hU hW⟩⟩ rfl rfl hl.1 rfl (lv_room (Nat.le_of_ble_eq_true rfl)) dX12_readScript_25 ⟨Nat.le_of_ble_eq_true rfl, Nat.le_of_ble_eq_true rfl⟩) hS (fun q _ h => h) (fun q h => h) (fun u t H1 locs ht hvm _ hB hz1 hk1 hS => ?_)
  obtain ⟨f_40, hI, kc_42, w13_43, w14_44, w15_45, w16_46, w17_47, w18_48, w23_49, kq1_50, nq1_51, k_52, z_53, z_54, z_55, k_56, k_57, z_58⟩ := hB
  rw [ht] at hI
  have k_52 : f_40 h0 = .inr (12, [.int z0, .int z1, .ref (gr g h0 2), .ref (gr g h0 3), .ref (gr g h0 4), .ref (gr g h0 5), .ref (gr g h0 6), .ref (gr g h0 7), .ref (gr g h0 8), .ref (gr g h0 9), .int z10, .ref (gr g h0 11), .int z12, .int w13_43, .int w14_44, .int w15_45, .long w16_46, .int w17_47, .int w18_48, .ref (gr g h0 19), .ref (gr g h0 20), .ref (gr g h0 21), .ref (gr g h0 22), .int w23_49, .long z24, .long z25, .long z26]) := k_52
  have z_53 : 0 ≤ w14_44.toInt ∧ w14_44.toInt ≤ z12.toInt := z_53
  have z_54 : w18_48.toInt = 0 → w23_49.toInt = 0.toInt + 1 := z_54
  have z_55 : 0 ≤ w23_49.toInt ∧ w23_49.toInt ≤ 8 := z_55
  have z_58 : w18_48.toInt = 0 → NBq w23_49 kq1_50 nq1_51 := z_58
  have kp_59 := Kp.call kp_39 kc_42 (by decide)
  generalize H1 = H at hI hS ⊢
  refine W.widen (k := 0) (n := 0) (Nat.le_of_ble_eq_true rfl) (Nat.le_of_ble_eq_true rfl) ?_
  have K_28 : ∀ (nn : Nat) (q_61 : Nat → Int32) (q_63 : Nat → Int32) (y_65 : Int32) (y_66 : Int32) (y_67 : Int32) (y_68 : Int64) (y_69 : Int32) (y_70 : Int32) (y_71 : Int32) (f_60 : Nat → va_E) (H : Heap) (locs : List Loc) (ls : Array Slot), (if y_70.toInt = 0 then (10 - y_71.toInt).toNat else 0) < nn → Iv dC dI g A f_60 H → va_S A s.heap H locs → f_60 (gr g h0 21) = .inl (gc g 0, 8, .inl q_61) → f_60 (gr g h0 22) = .inl (gc g 0, 8, .inl q_63) → f_60 h0 = .inr (12, [.int z0, .int z1, .ref (gr g h0 2), .ref (gr g h0 3), .ref (gr g h0 4), .ref (gr g h0 5), .ref (gr g h0 6), .ref (gr g h0 7), .ref (gr g h0 8), .ref (gr g h0 9), .int z10, .ref (gr g h0 11), .int z12, .int y_65, .int y_66, .int y_67, .long y_68, .int y_69, .int y_70, .ref (gr g h0 19), .ref (gr g h0 20), .ref (gr g h0 21), .ref (gr g h0 22), .int y_71, .long z24, .long z25, .long z26]) → Kp g [12, 41, 42] f f_60 → (0 ≤ y_66.toInt ∧ y_66.toInt ≤ z12.toInt) → (y_70.toInt = 0 → NBq y_71 q_61 q_63) → (0 ≤ y_71.toInt ∧ y_71.toInt ≤ 8) → lv_has ls 1 [(0, .ref h0)] → W p l e (headSpec wq_c_X12_readScript ({ frames := 4, cells := 0, slots := 0, locals := 83 } : Room)).room s m ([.ref h0].toArray) below meth c H locs 0 0 (MQ below (va_Qv (fun (_ : Unit) => True) (fun (_ : Unit) t => ∃ f1 : Nat → va_E, Iv dC dI g A f1 t.heap ∧ Kp g [12, 41, 42] f f1 ∧ ∃ (w13 : Int32) (w14 : Int32) (w15 : Int32) (w16 : Int64) (w17 : Int32) (w18 : Int32) (w23 : Int32) (kq1 : Nat → Int32) (nq1 : Nat → Int32), (f1 h0 = .inr (12, [.int z0, .int z1, .ref (gr g h0 2), .ref (gr g h0 3), .ref (gr g h0 4), .ref (gr g h0 5), .ref (gr g h0 6), .ref (gr g h0 7), .ref (gr g h0 8), .ref (gr g h0 9), .int z10, .ref (gr g h0 11), .int z12, .int w13, .int w14, .int w15, .long w16, .int w17, .int w18, .ref (gr g h0 19), .ref (gr g h0 20), .ref (gr g h0 21), .ref (gr g h0 22), .int w23, .long z24, .long z25, .long z26])) ∧ (0 ≤ w23.toInt ∧ w23.toInt ≤ 8) ∧ (f1 (gr g h0 21) = .inl (gc g 0, 8, .inl kq1)) ∧ (f1 (gr g h0 22) = .inl (gc g 0, 8, .inl nq1)) ∧ (w18.toInt = 0 → NBq w23 kq1 nq1)) A) ([.ref h0].toArray) s 0 0 A) (F0 m 28 ls []) := by
    intro nn
    induction nn with
    | zero => intro q_61 q_63 y_65 y_66 y_67 y_68 y_69 y_70 y_71 f_60 H locs ls m_77; exact absurd m_77 (Nat.not_lt_zero _)
    | succ nn ih =>
      intro q_61 q_63 y_65 y_66 y_67 y_68 y_69 y_70 y_71 f_60 H locs ls m_77 hI hS k_62 k_64 k_72 kp_73 t_74 t_75 t_76 hl
      have g_78 := Int32.toInt_lt y_70
      have g_79 := Int32.le_toInt y_70
      have g_80 := Int32.toInt_lt y_71
      have g_81 := Int32.le_toInt y_71
      refine lv_aload_n hx hb dX12_readScript_28 rfl (lv_at hl 0 rfl) ?_
      refine k_get (ci := 12) (v := .int y_70) (C := RX12) (T := TX12) (N := 27) hx hb hts (fun _ h0_ => List.mem_cons_of_mem _ (List.mem_append_right _ (List.mem_append_left _ h0_))) hown hK hI i_h0.1 k_72 rfl 18 (by decide) (hts (.fieldLink RX12 201 "DeadlineShareModel" "bad" "Z") (List.mem_cons_of_mem _ (List.mem_append_left _ (List.mem_of_getElem? (i := 1) rfl)))) (fun _ h9 => h9) rfl dX12_readScript_29 ?_
      have J_65 : ∀ (H : Heap) (locs : List Loc) (ls : Array Slot), Iv dC dI g A f_60 H → va_S A s.heap H locs → lv_has ls 1 [(0, .ref h0)] → W p l e (headSpec wq_c_X12_readScript ({ frames := 4, cells := 0, slots := 0, locals := 83 } : Room)).room s m ([.ref h0].toArray) below meth c H locs 0 0 (MQ below (va_Qv (fun (_ : Unit) => True) (fun (_ : Unit) t => ∃ f1 : Nat → va_E, Iv dC dI g A f1 t.heap ∧ Kp g [12, 41, 42] f f1 ∧ ∃ (w13 : Int32) (w14 : Int32) (w15 : Int32) (w16 : Int64) (w17 : Int32) (w18 : Int32) (w23 : Int32) (kq1 : Nat → Int32) (nq1 : Nat → Int32), (f1 h0 = .inr (12, [.int z0, .int z1, .ref (gr g h0 2), .ref (gr g h0 3), .ref (gr g h0 4), .ref (gr g h0 5), .ref (gr g h0 6), .ref (gr g h0 7), .ref (gr g h0 8), .ref (gr g h0 9), .int z10, .ref (gr g h0 11), .int z12, .int w13, .int w14, .int w15, .long w16, .int w17, .int w18, .ref (gr g h0 19), .ref (gr g h0 20), .ref (gr g h0 21), .ref (gr g h0 22), .int w23, .long z24, .long z25, .long z26])) ∧ (0 ≤ w23.toInt ∧ w23.toInt ≤ 8) ∧ (f1 (gr g h0 21) = .inl (gc g 0, 8, .inl kq1)) ∧ (f1 (gr g h0 22) = .inl (gc g 0, 8, .inl nq1)) ∧ (w18.toInt = 0 → NBq w23 kq1 nq1)) A) ([.ref h0].toArray) s 0 0 A) (F0 m 65 ls []) := by
        intro H locs ls hI hS  hl
        refine lv_aload_n hx hb dX12_readScript_65 rfl (lv_at hl 0 rfl) ?_
        refine k_get (ci := 12) (v := .int y_70) (C := RX12) (T := TX12) (N := 27) hx hb hts (fun _ h0_ => List.mem_cons_of_mem _ (List.mem_append_right _ (List.mem_append_left _ h0_))) hown hK hI i_h0.1 k_72 rfl 18 (by decide) (hts (.fieldLink RX12 201 "DeadlineShareModel" "bad" "Z") (List.mem_cons_of_mem _ (List.mem_append_left _ (List.mem_of_getElem? (i := 1) rfl)))) (fun _ h9 => h9) rfl dX12_readScript_66 ?_
        refine lv_if_ne (tgt := 88) hx hb dX12_readScript_69 (by decide) (fun c_82 => ?_) (fun c_82 => ?_)
        · have c_82 := kn_eq rfl (by decide : Int32.toInt 0 = 0) c_82
          exact W.vret hx hb hr (fun t ht hW => ⟨⟨(), rfl, trivial, ⟨f_60, k_ret ht hI, kp_73, y_65, y_66, y_67, y_68, y_69, y_70, y_71, q_61, q_63, k_72, (by first | omega | decide), k_62, k_64, (fun h9 => t_75 (by omega))⟩⟩, hS.F ht⟩) hS.2.2 dX12_readScript_88
        · have c_82 := kc_eq rfl (by decide : Int32.toInt 0 = 0) c_82
          refine lv_aload_n hx hb dX12_readScript_72 rfl (lv_at hl 0 rfl) ?_
          refine lv_aload_n hx hb dX12_readScript_73 rfl (lv_at hl 0 rfl) ?_
          refine k_get (ci := 12) (v := .int y_67) (C := RX12) (T := TX12) (N := 27) hx hb hts (fun _ h0_ => List.mem_cons_of_mem _ (List.mem_append_right _ (List.mem_append_left _ h0_))) hown hK hI i_h0.1 k_72 rfl 15 (by decide) (hts (.fieldLink RX12 190 "DeadlineShareModel" "sort" "I") (List.mem_cons_of_mem _ (List.mem_append_left _ (List.mem_of_getElem? (i := 11) rfl)))) (fun _ h9 => h9) rfl dX12_readScript_74 ?_
          have J_85 : ∀ (y_83 : Int32) (H : Heap) (locs : List Loc) (ls : Array Slot), Iv dC dI g A f_60 H → va_S A s.heap H locs → lv_has ls 1 [(0, .ref h0)] → W p l e (headSpec wq_c_X12_readScript ({ frames := 4, cells := 0, slots := 0, locals := 83 } : Room)).room s m ([.ref h0].toArray) below meth c H locs 0 0 (MQ below (va_Qv (fun (_ : Unit) => True) (fun (_ : Unit) t => ∃ f1 : Nat → va_E, Iv dC dI g A f1 t.heap ∧ Kp g [12, 41, 42] f f1 ∧ ∃ (w13 : Int32) (w14 : Int32) (w15 : Int32) (w16 : Int64) (w17 : Int32) (w18 : Int32) (w23 : Int32) (kq1 : Nat → Int32) (nq1 : Nat → Int32), (f1 h0 = .inr (12, [.int z0, .int z1, .ref (gr g h0 2), .ref (gr g h0 3), .ref (gr g h0 4), .ref (gr g h0 5), .ref (gr g h0 6), .ref (gr g h0 7), .ref (gr g h0 8), .ref (gr g h0 9), .int z10, .ref (gr g h0 11), .int z12, .int w13, .int w14, .int w15, .long w16, .int w17, .int w18, .ref (gr g h0 19), .ref (gr g h0 20), .ref (gr g h0 21), .ref (gr g h0 22), .int w23, .long z24, .long z25, .long z26])) ∧ (0 ≤ w23.toInt ∧ w23.toInt ≤ 8) ∧ (f1 (gr g h0 21) = .inl (gc g 0, 8, .inl kq1)) ∧ (f1 (gr g h0 22) = .inl (gc g 0, 8, .inl nq1)) ∧ (w18.toInt = 0 → NBq w23 kq1 nq1)) A) ([.ref h0].toArray) s 0 0 A) (F0 m 85 ls [.int y_83, .ref h0]) := by
            intro y_83 H locs ls hI hS  hl
            refine va_callv (va_runV (As := [.int y_83]) (rest := []) ⟨hx, hb, hml, hown, hts⟩ (c_X12_must l dC dI g A hG f_60 h0 y_83 z0 z1 z10 z12 y_65 y_66 y_67 y_68 y_69 y_70 y_71 z24 z25 z26 i_h0 k_72 (by first | omega | (simp only [k_c0]; omega)) (by first | omega | (simp only [k_c0]; omega)) (by first | omega | (simp only [k_c0]; omega)) (by first | omega | decide | (simp only [k_c0, k_c1, k_cm1]; omega))) (cwV 1 hts (gi_V (fun w_ h0_ => ⟨List.mem_cons_of_mem _ (List.mem_append_right _ (List.mem_append_right _ (List.mem_append_right _ (List.mem_append_right _ (List.mem_append_left _ h0_))))), (tb_c_X12_must w_ h0_).2⟩) (List.mem_cons_of_mem _ (List.mem_append_left _ (List.mem_of_getElem? (i := 12) rfl))) (List.mem_cons_of_mem _ (List.mem_append_left _ (List.mem_of_getElem? (i := 13) rfl))) (List.mem_cons_of_mem _ (List.mem_append_left _ (List.mem_of_getElem? (i := 14) rfl))) (List.mem_cons_of_mem _ (List.mem_append_left _ (List.mem_of_getElem? (i := 7) rfl)))) rfl rfl rfl (by decide +kernel) ⟨Nat.le_of_ble_eq_true rfl, Nat.le_of_ble_eq_true rfl⟩) ⟨fun a U g mk q => ⟨q.1, q.2.calling rfl rfl⟩, k_recv hK hI i_h0.1 k_72 (ci := 12) rfl, fun U hU hW => ⟨rfl, kIn.of hI hK hE hS hU hW⟩⟩ rfl rfl hl.1 rfl (lv_room (Nat.le_of_ble_eq_true rfl)) dX12_readScript_85 ⟨Nat.le_of_ble_eq_true rfl, Nat.le_of_ble_eq_true rfl⟩) hS (fun q _ h => h) (fun q h => h) (fun u t H1 locs ht hvm _ hB hz1 hk1 hS => ?_)
            obtain ⟨f_84, hI, kc_86, w13_87, w14_88, w15_89, w16_90, w17_91, w18_92, k_93, z_94, z_95⟩ := hB
            rw [ht] at hI
            have k_96 : f_84 (gr g h0 21) = .inl (gc g 0, 8, .inl q_61) := Kp.at kc_86 i_1 (by decide) k_62
            have k_97 : f_84 (gr g h0 22) = .inl (gc g 0, 8, .inl q_63) := Kp.at kc_86 i_2 (by decide) k_64
            have k_93 : f_84 h0 = .inr (12, [.int z0, .int z1, .ref (gr g h0 2), .ref (gr g h0 3), .ref (gr g h0 4), .ref (gr g h0 5), .ref (gr g h0 6), .ref (gr g h0 7), .ref (gr g h0 8), .ref (gr g h0 9), .int z10, .ref (gr g h0 11), .int z12, .int w13_87, .int w14_88, .int w15_89, .long w16_90, .int w17_91, .int w18_92, .ref (gr g h0 19), .ref (gr g h0 20), .ref (gr g h0 21), .ref (gr g h0 22), .int y_71, .long z24, .long z25, .long z26]) := k_93
            have z_94 : 0 ≤ w14_88.toInt ∧ w14_88.toInt ≤ z12.toInt := z_94
            have z_95 : w18_92.toInt = 0 → (y_70.toInt = 0 ∧ y_83.toInt ≠ 0) := z_95
            have kp_98 := Kp.call kp_73 kc_86 (by decide)
            generalize H1 = H at hI hS ⊢
            refine W.widen (k := 0) (n := 0) (Nat.le_of_ble_eq_true rfl) (Nat.le_of_ble_eq_true rfl) ?_
            exact W.vret hx hb hr (fun t ht hW => ⟨⟨(), rfl, trivial, ⟨f_84, k_ret ht hI, kp_98, w13_87, w14_88, w15_89, w16_90, w17_91, w18_92, y_71, q_61, q_63, k_93, (by first | omega | decide), k_96, k_97, (fun h9 => t_75 (by omega))⟩⟩, hS.F ht⟩) hS.2.2 dX12_readScript_88
          refine lv_if_ne (tgt := 84) hx hb dX12_readScript_77 (by decide) (fun c_99 => ?_) (fun c_99 => ?_)
          · have c_99 := kn_eq rfl (by decide : Int32.toInt 0 = 0) c_99
            refine lv_iconst (v := 0) hx hb dX12_readScript_84 (by decide) ?_
            exact J_85 0 _ _ _ hI hS  (lv_sub hl [0] rfl)
          · have c_99 := kc_eq rfl (by decide : Int32.toInt 0 = 0) c_99
            refine lv_iconst (v := 1) hx hb dX12_readScript_80 (by decide) ?_
            refine lv_goto (tgt := 85) hx hb dX12_readScript_81 (by decide) ?_
            exact J_85 1 _ _ _ hI hS  (lv_sub hl [0] rfl)
      refine lv_if_ne (tgt := 65) hx hb dX12_readScript_32 (by decide) (fun c_100 => ?_) (fun c_100 => ?_)
      · have c_100 := kn_eq rfl (by decide : Int32.toInt 0 = 0) c_100
        exact J_65  _ _ _ hI hS  (lv_sub hl [0] rfl)
      · have c_100 := kc_eq rfl (by decide : Int32.toInt 0 = 0) c_100
        rw [if_pos (show y_70.toInt = 0 by omega)] at m_77
        refine lv_aload_n hx hb dX12_readScript_35 rfl (lv_at hl 0 rfl) ?_
        refine k_get (ci := 12) (v := .int y_67) (C := RX12) (T := TX12) (N := 27) hx hb hts (fun _ h0_ => List.mem_cons_of_mem _ (List.mem_append_right _ (List.mem_append_left _ h0_))) hown hK hI i_h0.1 k_72 rfl 15 (by decide) (hts (.fieldLink RX12 190 "DeadlineShareModel" "sort" "I") (List.mem_cons_of_mem _ (List.mem_append_left _ (List.mem_of_getElem? (i := 11) rfl)))) (fun _ h9 => h9) rfl dX12_readScript_36 ?_
        refine lv_iconst (v := 3) hx hb dX12_readScript_39 (by decide) ?_
        refine lv_icmp_ne (tgt := 65) hx hb dX12_readScript_40 (by decide) (fun c_101 => ?_) (fun c_101 => ?_)
        · have c_101 := kn_eq rfl (by decide : Int32.toInt 3 = 3) c_101
          exact J_65  _ _ _ hI hS  (lv_sub hl [0] rfl)
        · have c_101 := kc_eq rfl (by decide : Int32.toInt 3 = 3) c_101
          refine lv_aload_n hx hb dX12_readScript_43 rfl (lv_at hl 0 rfl) ?_
          refine k_get (ci := 12) (v := .long y_68) (C := RX12) (T := TX12) (N := 27) hx hb hts (fun _ h0_ => List.mem_cons_of_mem _ (List.mem_append_right _ (List.mem_append_left _ h0_))) hown hK hI i_h0.1 k_72 rfl 16 (by decide) (hts (.fieldLink RX12 180 "DeadlineShareModel" "worth" "J") (List.mem_cons_of_mem _ (List.mem_append_left _ (List.mem_of_getElem? (i := 15) rfl)))) (fun _ h9 => h9) rfl dX12_readScript_44 ?_
          refine lv_ldc2 hx hb hown (hts (.constantLong RX12 218 (44)) (List.mem_cons_of_mem _ (List.mem_append_left _ (List.mem_of_getElem? (i := 16) rfl)))) dX12_readScript_47 ?_
          refine W.lcmp hx hb dX12_readScript_50 ?_
          refine lv_if_ne (tgt := 65) hx hb dX12_readScript_51 (by decide) (fun c_102 => ?_) (fun c_102 => ?_)
          · have c_102 := ln_eq rfl (by decide : Int64.toInt 44 = 44) (fun h9 => c_102 ((lg_cmp_eq _ _).mpr h9))
            exact J_65  _ _ _ hI hS  (lv_sub hl [0] rfl)
          · have c_102 := lc_eq rfl (by decide : Int64.toInt 44 = 44) ((lg_cmp_eq _ _).mp c_102)
            refine lv_aload_n hx hb dX12_readScript_54 rfl (lv_at hl 0 rfl) ?_
            refine va_callv (va_runV (As := []) (rest := []) ⟨hx, hb, hml, hown, hts⟩ (c_X12_next l dC dI g A hG f_60 h0 z0 z1 z10 z12 y_65 y_66 y_67 y_68 y_69 y_70 y_71 z24 z25 z26 i_h0 k_72 (by first | omega | (simp only [k_c0]; omega)) (by first | omega | (simp only [k_c0]; omega)) (by first | omega | (simp only [k_c0]; omega)) (by decide)) (cwV 0 hts (gi_V (fun w_ h0_ => ⟨List.mem_cons_of_mem _ (List.mem_append_right _ (List.mem_append_right _ (List.mem_append_left _ h0_))), (tb_c_X12_next w_ h0_).2⟩) (List.mem_cons_of_mem _ (List.mem_append_left _ (List.mem_of_getElem? (i := 4) rfl))) (List.mem_cons_of_mem _ (List.mem_append_left _ (List.mem_of_getElem? (i := 5) rfl))) (List.mem_cons_of_mem _ (List.mem_append_left _ (List.mem_of_getElem? (i := 6) rfl))) (List.mem_cons_of_mem _ (List.mem_append_left _ (List.mem_of_getElem? (i := 7) rfl)))) rfl rfl rfl (by decide +kernel) ⟨Nat.le_of_ble_eq_true rfl, Nat.le_of_ble_eq_true rfl⟩) ⟨fun a U g mk q => ⟨q.1, q.2.calling rfl rfl⟩, k_recv hK hI i_h0.1 k_72 (ci := 12) rfl, fun U hU hW => ⟨rfl, kIn.of hI hK hE hS hU hW⟩⟩ rfl rfl hl.1 rfl (lv_room (Nat.le_of_ble_eq_true rfl)) dX12_readScript_55 ⟨Nat.le_of_ble_eq_true rfl, Nat.le_of_ble_eq_true rfl⟩) hS (fun q _ h => h) (fun q h => h) (fun u t H1 locs ht hvm _ hB hz1 hk1 hS => ?_)
            obtain ⟨f_103, hI, kc_105, w13_106, w14_107, w15_108, w16_109, k_110, z_111⟩ := hB
            rw [ht] at hI
            have k_112 : f_103 (gr g h0 21) = .inl (gc g 0, 8, .inl q_61) := Kp.at kc_105 i_1 (by decide) k_62
            have k_113 : f_103 (gr g h0 22) = .inl (gc g 0, 8, .inl q_63) := Kp.at kc_105 i_2 (by decide) k_64
            have k_110 : f_103 h0 = .inr (12, [.int z0, .int z1, .ref (gr g h0 2), .ref (gr g h0 3), .ref (gr g h0 4), .ref (gr g h0 5), .ref (gr g h0 6), .ref (gr g h0 7), .ref (gr g h0 8), .ref (gr g h0 9), .int z10, .ref (gr g h0 11), .int z12, .int w13_106, .int w14_107, .int w15_108, .long w16_109, .int y_69, .int y_70, .ref (gr g h0 19), .ref (gr g h0 20), .ref (gr g h0 21), .ref (gr g h0 22), .int y_71, .long z24, .long z25, .long z26]) := k_110
            have z_111 : 0 ≤ w14_107.toInt ∧ w14_107.toInt ≤ z12.toInt := z_111
            have kp_114 := Kp.call kp_73 kc_105 (by decide)
            generalize H1 = H at hI hS ⊢
            refine W.widen (k := 0) (n := 0) (Nat.le_of_ble_eq_true rfl) (Nat.le_of_ble_eq_true rfl) ?_
            refine lv_aload_n hx hb dX12_readScript_58 rfl (lv_at hl 0 rfl) ?_
            refine va_callv (va_runV (As := []) (rest := []) ⟨hx, hb, hml, hown, hts⟩ (c_X12_readStep l dC dI g A hG f_103 h0 z0 z1 z10 z12 w13_106 w14_107 w15_108 w16_109 y_69 y_70 y_71 z24 z25 z26 q_61 q_63 i_h0 k_110 (by first | omega | (simp only [k_c0]; omega)) (by first | omega | (simp only [k_c0]; omega)) (by first | omega | (simp only [k_c0]; omega)) k_112 k_113 (by decide) (by decide) (t_75 (by omega))) (cwV 0 hts (gi_V (fun w_ h0_ => ⟨List.mem_cons_of_mem _ (List.mem_append_right _ (List.mem_append_right _ (List.mem_append_right _ (List.mem_append_left _ h0_)))), (tb_c_X12_readStep w_ h0_).2⟩) (List.mem_cons_of_mem _ (List.mem_append_left _ (List.mem_of_getElem? (i := 8) rfl))) (List.mem_cons_of_mem _ (List.mem_append_left _ (List.mem_of_getElem? (i := 9) rfl))) (List.mem_cons_of_mem _ (List.mem_append_left _ (List.mem_of_getElem? (i := 10) rfl))) (List.mem_cons_of_mem _ (List.mem_append_left _ (List.mem_of_getElem? (i := 7) rfl)))) rfl rfl rfl (by decide +kernel) ⟨Nat.le_of_ble_eq_true rfl, Nat.le_of_ble_eq_true rfl⟩) ⟨fun a U g mk q => ⟨q.1, q.2.calling rfl rfl⟩, k_recv hK hI i_h0.1 k_110 (ci := 12) rfl, fun U hU hW => ⟨rfl, kIn.of hI hK hE hS hU hW⟩⟩ rfl rfl hl.1 rfl (lv_room (Nat.le_of_ble_eq_true rfl)) dX12_readScript_59 ⟨Nat.le_of_ble_eq_true rfl, Nat.le_of_ble_eq_true rfl⟩) hS (fun q _ h => h) (fun q h => h) (fun u t H1 locs ht hvm _ hB hz1 hk1 hS => ?_)
            obtain ⟨f_115, hI, kc_117, w13_118, w14_119, w15_120, w16_121, w17_122, w18_123, w23_124, kq1_125, nq1_126, k_127, z_128, z_129, z_130, k_131, k_132, z_133⟩ := hB
            rw [ht] at hI
            have k_127 : f_115 h0 = .inr (12, [.int z0, .int z1, .ref (gr g h0 2), .ref (gr g h0 3), .ref (gr g h0 4), .ref (gr g h0 5), .ref (gr g h0 6), .ref (gr g h0 7), .ref (gr g h0 8), .ref (gr g h0 9), .int z10, .ref (gr g h0 11), .int z12, .int w13_118, .int w14_119, .int w15_120, .long w16_121, .int w17_122, .int w18_123, .ref (gr g h0 19), .ref (gr g h0 20), .ref (gr g h0 21), .ref (gr g h0 22), .int w23_124, .long z24, .long z25, .long z26]) := k_127
            have z_128 : 0 ≤ w14_119.toInt ∧ w14_119.toInt ≤ z12.toInt := z_128
            have z_129 : w18_123.toInt = 0 → w23_124.toInt = y_71.toInt + 1 := z_129
            have z_130 : 0 ≤ w23_124.toInt ∧ w23_124.toInt ≤ 8 := z_130
            have z_133 : w18_123.toInt = 0 → NBq w23_124 kq1_125 nq1_126 := z_133
            have kp_134 := Kp.call kp_114 kc_117 (by decide)
            generalize H1 = H at hI hS ⊢
            refine W.widen (k := 0) (n := 0) (Nat.le_of_ble_eq_true rfl) (Nat.le_of_ble_eq_true rfl) ?_
            refine lv_goto (tgt := 28) hx hb dX12_readScript_62 (by decide) ?_
            exact ih kq1_125 nq1_126 w13_118 w14_119 w15_120 w16_121 w17_122 w18_123 w23_124 f_115 _ _ _ (by split <;> omega) hI hS k_131 k_132 k_127 kp_134 (by first | omega | decide) z_133 (by first | omega | decide) (lv_sub hl [0] rfl)
  exact K_28 _ kq1_50 nq1_51 w13_43 w14_44 w15_45 w16_46 w17_47 w18_48 w23_49 f_40 _ _ _ (Nat.lt_succ_self _) hI hS k_56 k_57 k_52 kp_59 (by first | omega | decide) z_58 (by first | omega | decide) (lv_sub hl [0] rfl)
theorem tw_899 : q_g (.fieldLink RX12 20 "DeadlineShareModel" "undos" "[J") := ⟨(List.mem_append_right _ (List.mem_of_getElem? (i := 1102) (by decide +kernel))), good_of_word (by decide +kernel)⟩
theorem tw_900 : q_g (.fieldLink RX12 33 "DeadlineShareModel" "sorts" "[I") := ⟨(List.mem_append_right _ (List.mem_of_getElem? (i := 1106) (by decide +kernel))), good_of_word (by decide +kernel)⟩
theorem tw_901 : q_g (.fieldLink RX12 73 "DeadlineShareModel" "nUndo" "I") := ⟨(List.mem_append_right _ (List.mem_of_getElem? (i := 1107) (by decide +kernel))), good_of_word (by decide +kernel)⟩
theorem tw_902 : q_g (.code yX12_remember cX12_remember 3 none) := ⟨(List.mem_append_right _ (List.mem_of_getElem? (i := 1226) (by decide +kernel))), good_of_word (by decide +kernel)⟩
def ow_c_X12_remember : List Cond := [.fieldLink RX12 73 "DeadlineShareModel" "nUndo" "I", .fieldLink RX12 33 "DeadlineShareModel" "sorts" "[I", .fieldLink RX12 20 "DeadlineShareModel" "undos" "[J", .fieldLink RX12 16 "DeadlineShareModel" "row" "[J"]
def wq_c_X12_remember : List Cond := .code yX12_remember cX12_remember 3 none :: (ow_c_X12_remember ++ (u_ws RX12 TX12 27 ++ ([] : List Cond)))
theorem tb_c_X12_remember : ∀ w ∈ wq_c_X12_remember, q_g w := by
  unfold wq_c_X12_remember ow_c_X12_remember
  exact q_cons tw_902 (q_app (q_cons tw_901 (q_cons tw_900 (q_cons tw_899 (q_cons tw_731 q_nil)))) (q_app tu_X12 q_nil))
set_option maxHeartbeats 4000000 in
set_option maxRecDepth 100000 in
theorem c_X12_remember (l : Launch) (dC : Nat → ClassId) (dI : Nat → Nat → Nat) (g : kG) (A : Nat → Prop) (hG : kWf g) (f : Nat → va_E) (h0 : Nat) (p1 : Int32) (z0 : Int32) (z1 : Int32) (z10 : Int32) (z12 : Int32) (z13 : Int32) (z14 : Int32) (z15 : Int32) (z16 : Int64) (z17 : Int32) (z18 : Int32) (z23 : Int32) (z24 : Int64) (z25 : Int64) (z26 : Int64) (q : Nat → Int64) (u : Nat → Int64) (im : Nat → Int64) (ik : Nat → Int32) (i_h0 : ik g 12 h0) (hc0 : f h0 = .inr (12, [.int z0, .int z1, .ref (gr g h0 2), .ref (gr g h0 3), .ref (gr g h0 4), .ref (gr g h0 5), .ref (gr g h0 6), .ref (gr g h0 7), .ref (gr g h0 8), .ref (gr g h0 9), .int z10, .ref (gr g h0 11), .int z12, .int z13, .int z14, .int z15, .long z16, .int z17, .int z18, .ref (gr g h0 19), .ref (gr g h0 20), .ref (gr g h0 21), .ref (gr g h0 22), .int z23, .long z24, .long z25, .long z26])) (hc0_10 : 0 ≤ z10.toInt ∧ z10.toInt ≤ 10) (hc0_12 : 0 ≤ z12.toInt ∧ z12.toInt ≤ 200) (hc0_23 : 0 ≤ z23.toInt ∧ z23.toInt ≤ 8) (hc1 : f (gr g h0 4) = .inl (gc g 1, 906, .inr (.inl q))) (hc1_ok : RowOK q) (hc2 : f (gr g h0 5) = .inl (gc g 1, 9060, .inr (.inl u))) (hc3 : f (gr g h0 7) = .inl (gc g 1, 1812, .inr (.inl im))) (hc4 : f (gr g h0 8) = .inl (gc g 3, 2, .inl ik)) (hU : UIq z10 u im ik) : Met l yX12_remember wq_c_X12_remember ({ frames := 0, cells := 0, slots := 0, locals := 0 } : Room) (va_Pc [.ref h0, .int p1] (fun U => kIn dC dI g A f U)) (va_Qv (fun (_ : Unit) => True) (fun (_ : Unit) t => ∃ f1 : Nat → va_E, Iv dC dI g A f1 t.heap ∧ Kp g [12, 33, 37] f f1 ∧ ∃ (w10 : Int32) (u1 : Nat → Int64), (f1 h0 = .inr (12, [.int z0, .int z1, .ref (gr g h0 2), .ref (gr g h0 3), .ref (gr g h0 4), .ref (gr g h0 5), .ref (gr g h0 6), .ref (gr g h0 7), .ref (gr g h0 8), .ref (gr g h0 9), .int w10, .ref (gr g h0 11), .int z12, .int z13, .int z14, .int z15, .long z16, .int z17, .int z18, .ref (gr g h0 19), .ref (gr g h0 20), .ref (gr g h0 21), .ref (gr g h0 22), .int z23, .long z24, .long z25, .long z26])) ∧ (0 ≤ w10.toInt ∧ w10.toInt ≤ 10) ∧ (f1 (gr g h0 5) = .inl (gc g 1, 9060, .inr (.inl u1))) ∧ (UIq w10 u1 im ik)) A) 0 0 A := by
  refine Met.ofW (cc := cX12_remember) (maxL := 3) (ret := none) (by decide) rfl ?_
  intro p e s m args below meth c s₁ B hml hv
  obtain ⟨rfl, hI, hK, hE⟩ := hv
  have hx := B.exec
  have hb := B.bytes
  have hr := B.returns
  have hts := atoms_spec (ws := wq_c_X12_remember) B.pre
  have hown : s.vm.findClass RX12 = some m.cls := findClass_of_methodNamed B.named
  have hlocks := B.notSynchronized
  have hS : va_S A s.heap s.heap [] := va_S.rf
  have hk0 : Kp g [12, 33, 37] f f := Kp.rf
  have hl := lv_entry ([.ref h0, .int p1]) (n := 3) (Nat.le_of_ble_eq_true rfl)
  rw [lg_entry_eq]
  generalize (lg_sl ([.ref h0, .int p1]) ++ List.replicate (3 - (lg_sl ([.ref h0, .int p1])).length) Slot.unset).toArray = ls at hl ⊢
  have hl : lv_has ls 3 [(0, .ref h0), (1, .int p1)] := hl
  have i_1 := kw_12_4 hG i_h0
  have d_2 := rk_hd hc1_ok
  have i_3 := kw_12_5 hG i_h0
  have i_4 := kw_12_7 hG i_h0
  have i_5 := kw_12_8 hG i_h0
  refine lv_aload_n hx hb dX12_remember_0 rfl (lv_at hl 0 rfl) ?_
  refine k_get (ci := 12) (v := .int z10) (C := RX12) (T := TX12) (N := 27) hx hb hts (fun _ h0_ => List.mem_cons_of_mem _ (List.mem_append_right _ (List.mem_append_left _ h0_))) hown hK hI i_h0.1 hc0 rfl 10 (by decide) (hts (.fieldLink RX12 73 "DeadlineShareModel" "nUndo" "I") (List.mem_cons_of_mem _ (List.mem_append_left _ (List.mem_of_getElem? (i := 0) rfl)))) (fun _ h9 => h9) rfl dX12_remember_1 ?_
  refine lv_bipush (v := 10) hx hb dX12_remember_4 (by decide) ?_
  have J_78 : ∀ (q_7 : Nat → Int64) (y_9 : Int32) (f_6 : Nat → va_E) (H : Heap) (locs : List Loc) (ls : Array Slot), Iv dC dI g A f_6 H → va_S A s.heap H locs → f_6 (gr g h0 5) = .inl (gc g 1, 9060, .inr (.inl q_7)) → f_6 h0 = .inr (12, [.int z0, .int z1, .ref (gr g h0 2), .ref (gr g h0 3), .ref (gr g h0 4), .ref (gr g h0 5), .ref (gr g h0 6), .ref (gr g h0 7), .ref (gr g h0 8), .ref (gr g h0 9), .int y_9, .ref (gr g h0 11), .int z12, .int z13, .int z14, .int z15, .long z16, .int z17, .int z18, .ref (gr g h0 19), .ref (gr g h0 20), .ref (gr g h0 21), .ref (gr g h0 22), .int z23, .long z24, .long z25, .long z26]) → f_6 (gr g h0 4) = .inl (gc g 1, 906, .inr (.inl q)) → f_6 (gr g h0 7) = .inl (gc g 1, 1812, .inr (.inl im)) → f_6 (gr g h0 8) = .inl (gc g 3, 2, .inl ik) → Kp g [12, 33, 37] f f_6 → (0 ≤ y_9.toInt ∧ y_9.toInt ≤ 9) → (UIq y_9 q_7 im ik) → lv_has ls 3 [(0, .ref h0), (1, .int p1)] → W p l e (headSpec wq_c_X12_remember ({ frames := 0, cells := 0, slots := 0, locals := 0 } : Room)).room s m ([.ref h0, .int p1].toArray) below meth c H locs 0 0 (MQ below (va_Qv (fun (_ : Unit) => True) (fun (_ : Unit) t => ∃ f1 : Nat → va_E, Iv dC dI g A f1 t.heap ∧ Kp g [12, 33, 37] f f1 ∧ ∃ (w10 : Int32) (u1 : Nat → Int64), (f1 h0 = .inr (12, [.int z0, .int z1, .ref (gr g h0 2), .ref (gr g h0 3), .ref (gr g h0 4), .ref (gr g h0 5), .ref (gr g h0 6), .ref (gr g h0 7), .ref (gr g h0 8), .ref (gr g h0 9), .int w10, .ref (gr g h0 11), .int z12, .int z13, .int z14, .int z15, .long z16, .int z17, .int z18, .ref (gr g h0 19), .ref (gr g h0 20), .ref (gr g h0 21), .ref (gr g h0 22), .int z23, .long z24, .long z25, .long z26])) ∧ (0 ≤ w10.toInt ∧ w10.toInt ≤ 10) ∧ (f1 (gr g h0 5) = .inl (gc g 1, 9060, .inr (.inl u1))) ∧ (UIq w10 u1 im ik)) A) ([.ref h0, .int p1].toArray) s 0 0 A) (F0 m 78 ls []) := by
    intro q_7 y_9 f_6 H locs ls hI hS k_8 k_10 k_11 k_12 k_13 kp_14 t_15 t_16 hl
    refine lv_iconst (v := 0) hx hb dX12_remember_78 (by decide) ?_
    obtain ⟨m_17, em_17, tm_17⟩ := k_nat (x := y_9) (by omega)
    refine lv_istore_n (lv' := [(2, .int 0), (0, .ref h0), (1, .int p1)]) hx hb dX12_remember_79 rfl hl (by decide) rfl (fun ls hl => ?_)
    have K_80 : ∀ (nn : Nat) (y_18 : Nat) (q_20 : Nat → Int64) (f_19 : Nat → va_E) (H : Heap) (locs : List Loc) (ls : Array Slot), 906 - y_18 < nn → Iv dC dI g A f_19 H → va_S A s.heap H locs → f_19 (gr g h0 5) = .inl (gc g 1, 9060, .inr (.inl q_20)) → f_19 h0 = .inr (12, [.int z0, .int z1, .ref (gr g h0 2), .ref (gr g h0 3), .ref (gr g h0 4), .ref (gr g h0 5), .ref (gr g h0 6), .ref (gr g h0 7), .ref (gr g h0 8), .ref (gr g h0 9), .int y_9, .ref (gr g h0 11), .int z12, .int z13, .int z14, .int z15, .long z16, .int z17, .int z18, .ref (gr g h0 19), .ref (gr g h0 20), .ref (gr g h0 21), .ref (gr g h0 22), .int z23, .long z24, .long z25, .long z26]) → f_19 (gr g h0 4) = .inl (gc g 1, 906, .inr (.inl q)) → f_19 (gr g h0 7) = .inl (gc g 1, 1812, .inr (.inl im)) → f_19 (gr g h0 8) = .inl (gc g 3, 2, .inl ik) → Kp g [12, 33, 37] f f_19 → (y_18 ≤ 906) → (∀ j : Nat, j < y_18 → q_20 (906 * m_17 + j) = q j) → (∀ j : Nat, j < 906 * m_17 → q_20 j = q_7 j) → lv_has ls 3 [(2, .int (nI y_18)), (0, .ref h0), (1, .int p1)] → W p l e (headSpec wq_c_X12_remember ({ frames := 0, cells := 0, slots := 0, locals := 0 } : Room)).room s m ([.ref h0, .int p1].toArray) below meth c H locs 0 0 (MQ below (va_Qv (fun (_ : Unit) => True) (fun (_ : Unit) t => ∃ f1 : Nat → va_E, Iv dC dI g A f1 t.heap ∧ Kp g [12, 33, 37] f f1 ∧ ∃ (w10 : Int32) (u1 : Nat → Int64), (f1 h0 = .inr (12, [.int z0, .int z1, .ref (gr g h0 2), .ref (gr g h0 3), .ref (gr g h0 4), .ref (gr g h0 5), .ref (gr g h0 6), .ref (gr g h0 7), .ref (gr g h0 8), .ref (gr g h0 9), .int w10, .ref (gr g h0 11), .int z12, .int z13, .int z14, .int z15, .long z16, .int z17, .int z18, .ref (gr g h0 19), .ref (gr g h0 20), .ref (gr g h0 21), .ref (gr g h0 22), .int z23, .long z24, .long z25, .long z26])) ∧ (0 ≤ w10.toInt ∧ w10.toInt ≤ 10) ∧ (f1 (gr g h0 5) = .inl (gc g 1, 9060, .inr (.inl u1))) ∧ (UIq w10 u1 im ik)) A) ([.ref h0, .int p1].toArray) s 0 0 A) (F0 m 80 ls []) := by
      intro nn
      induction nn with
      | zero => intro y_18 q_20 f_19 H locs ls m_30; exact absurd m_30 (Nat.not_lt_zero _)
      | succ nn ih =>
        intro y_18 q_20 f_19 H locs ls m_30 hI hS k_21 k_22 k_23 k_24 k_25 kp_26 t_27 t_28 t_29 hl
        refine lv_iload_n hx hb dX12_remember_80 rfl (lv_at hl 0 rfl) ?_
        refine lv_sipush (v := 906) hx hb dX12_remember_81 (by decide) ?_
        refine lv_icmp_ge (tgt := 114) hx hb dX12_remember_84 (by decide) (fun c_31 => ?_) (fun c_31 => ?_)
        · have c_31 := kc_le (by decide : Int32.toInt 906 = 906) (nI_toInt (n := y_18) (by omega)) c_31
          refine lv_aload_n hx hb dX12_remember_114 rfl (lv_at hl 1 rfl) ?_
          refine k_get (ci := 12) (v := .ref (gr g h0 9)) (C := RX12) (T := TX12) (N := 27) hx hb hts (fun _ h0_ => List.mem_cons_of_mem _ (List.mem_append_right _ (List.mem_append_left _ h0_))) hown hK hI i_h0.1 k_22 rfl 9 (by decide) (hts (.fieldLink RX12 33 "DeadlineShareModel" "sorts" "[I") (List.mem_cons_of_mem _ (List.mem_append_left _ (List.mem_of_getElem? (i := 1) rfl)))) (fun _ h9 => h9) rfl dX12_remember_115 ?_
          have i_33 := kw_12_9 hG i_h0
          refine lv_aload_n hx hb dX12_remember_118 rfl (lv_at hl 1 rfl) ?_
          refine k_get (ci := 12) (v := .int y_9) (C := RX12) (T := TX12) (N := 27) hx hb hts (fun _ h0_ => List.mem_cons_of_mem _ (List.mem_append_right _ (List.mem_append_left _ h0_))) hown hK hI i_h0.1 k_22 rfl 10 (by decide) (hts (.fieldLink RX12 73 "DeadlineShareModel" "nUndo" "I") (List.mem_cons_of_mem _ (List.mem_append_left _ (List.mem_of_getElem? (i := 0) rfl)))) (fun _ h9 => h9) rfl dX12_remember_119 ?_
          refine lv_iload_n hx hb dX12_remember_122 rfl (lv_at hl 2 rfl) ?_
          obtain ⟨q_35, k_34⟩ := op_37 hI i_33
          refine k_iast hx hb hK hI hS i_33.1 0 k_34 rfl (vp_in_iff.mpr (by omega)) (cl_37 i_33) dX12_remember_123 (fun f_36 H locs e_37 hI hS => ?_)
          generalize eq_38 : upd q_35 (Int32.toNatClampNeg y_9) p1 = q_38 at e_37
          have k_40 : f_36 (gr g h0 5) = .inl (gc g 1, 9060, .inr (.inl q_20)) := by rw [e_37, va_up_ne _ _ (ik_ne i_3 i_33 (by decide))]; exact k_21
          have k_41 : f_36 h0 = .inr (12, [.int z0, .int z1, .ref (gr g h0 2), .ref (gr g h0 3), .ref (gr g h0 4), .ref (gr g h0 5), .ref (gr g h0 6), .ref (gr g h0 7), .ref (gr g h0 8), .ref (gr g h0 9), .int y_9, .ref (gr g h0 11), .int z12, .int z13, .int z14, .int z15, .long z16, .int z17, .int z18, .ref (gr g h0 19), .ref (gr g h0 20), .ref (gr g h0 21), .ref (gr g h0 22), .int z23, .long z24, .long z25, .long z26]) := by rw [e_37, va_up_ne _ _ (ik_ne i_h0 i_33 (by decide))]; exact k_22
          have k_42 : f_36 (gr g h0 4) = .inl (gc g 1, 906, .inr (.inl q)) := by rw [e_37, va_up_ne _ _ (ik_ne i_1 i_33 (by decide))]; exact k_23
          have k_43 : f_36 (gr g h0 7) = .inl (gc g 1, 1812, .inr (.inl im)) := by rw [e_37, va_up_ne _ _ (ik_ne i_4 i_33 (by decide))]; exact k_24
          have k_44 : f_36 (gr g h0 8) = .inl (gc g 3, 2, .inl ik) := by rw [e_37, va_up_ne _ _ (ik_ne i_5 i_33 (by decide))]; exact k_25
          have k_45 : f_36 (gr g h0 9) = .inl (gc g 0, 10, .inl q_38) := by rw [e_37]; exact va_up_self _ _ _
          have kp_39 := Kp.put kp_26 i_33 (by decide) e_37
          refine lv_aload_n hx hb dX12_remember_124 rfl (lv_at hl 1 rfl) ?_
          refine lv_dup hx hb dX12_remember_125 rfl ?_
          refine k_get (ci := 12) (v := .int y_9) (C := RX12) (T := TX12) (N := 27) hx hb hts (fun _ h0_ => List.mem_cons_of_mem _ (List.mem_append_right _ (List.mem_append_left _ h0_))) hown hK hI i_h0.1 k_41 rfl 10 (by decide) (hts (.fieldLink RX12 73 "DeadlineShareModel" "nUndo" "I") (List.mem_cons_of_mem _ (List.mem_append_left _ (List.mem_of_getElem? (i := 0) rfl)))) (fun _ h9 => h9) rfl dX12_remember_126 ?_
          refine lv_iconst (v := 1) hx hb dX12_remember_129 (by decide) ?_
          refine lv_iadd hx hb dX12_remember_130 ?_
          refine lv_topi (fun v_46 ev_46 => ?_)
          have tv_46 := k_ad y_9 1
          rw [← ev_46, show Int32.toInt 1 = 1 from by decide] at tv_46
          have b_47 : 0 ≤ Int32.toInt v_46 ∧ Int32.toInt v_46 ≤ 10 := by omega
          refine k_put (ci := 12) (v := .int v_46) (ty := .int) (C := RX12) (T := TX12) (N := 27) hx hb hts (fun _ h0_ => List.mem_cons_of_mem _ (List.mem_append_right _ (List.mem_append_left _ h0_))) tyX12 tyX12_ok nmX12 hown hK hI hS i_h0.1 k_41 rfl 10 (by decide) (hts (.fieldLink RX12 73 "DeadlineShareModel" "nUndo" "I") (List.mem_cons_of_mem _ (List.mem_append_left _ (List.mem_of_getElem? (i := 0) rfl)))) (fun _ h9 => h9) rfl (by decide +kernel) rfl rfl (Nat.le_of_ble_eq_true rfl) rfl (cl_12 i_h0 b_47 (by omega) (by omega)) dX12_remember_131 (fun f_48 H locs e_49 hI hS => ?_)
          have k_51 : f_48 (gr g h0 5) = .inl (gc g 1, 9060, .inr (.inl q_20)) := by rw [e_49, va_up_ne _ _ (ik_ne i_3 i_h0 (by decide))]; exact k_40
          have k_52 : f_48 h0 = .inr (12, [.int z0, .int z1, .ref (gr g h0 2), .ref (gr g h0 3), .ref (gr g h0 4), .ref (gr g h0 5), .ref (gr g h0 6), .ref (gr g h0 7), .ref (gr g h0 8), .ref (gr g h0 9), .int v_46, .ref (gr g h0 11), .int z12, .int z13, .int z14, .int z15, .long z16, .int z17, .int z18, .ref (gr g h0 19), .ref (gr g h0 20), .ref (gr g h0 21), .ref (gr g h0 22), .int z23, .long z24, .long z25, .long z26]) := by rw [e_49]; exact va_up_self _ _ _
          have k_53 : f_48 (gr g h0 4) = .inl (gc g 1, 906, .inr (.inl q)) := by rw [e_49, va_up_ne _ _ (ik_ne i_1 i_h0 (by decide))]; exact k_42
          have k_54 : f_48 (gr g h0 7) = .inl (gc g 1, 1812, .inr (.inl im)) := by rw [e_49, va_up_ne _ _ (ik_ne i_4 i_h0 (by decide))]; exact k_43
          have k_55 : f_48 (gr g h0 8) = .inl (gc g 3, 2, .inl ik) := by rw [e_49, va_up_ne _ _ (ik_ne i_5 i_h0 (by decide))]; exact k_44
          have k_56 : f_48 (gr g h0 9) = .inl (gc g 0, 10, .inl q_38) := by rw [e_49, va_up_ne _ _ (ik_ne i_33 i_h0 (by decide))]; exact k_45
          have kp_50 := Kp.put kp_39 i_h0 (by decide) e_49
          exact W.vret hx hb hr (fun t ht hW => ⟨⟨(), rfl, trivial, ⟨f_48, k_ret ht hI, kp_50, v_46, q_20, k_52, (by first | omega | decide), k_51, (ui_push t_16 hc1_ok tm_17 (fun j9 h9 => t_28 j9 (by omega)) (fun j9 h9 => t_29 j9 h9) (by omega))⟩⟩, hS.F ht⟩) hS.2.2 dX12_remember_134
        · have c_31 := kn_le (by decide : Int32.toInt 906 = 906) (nI_toInt (n := y_18) (by omega)) c_31
          refine lv_aload_n hx hb dX12_remember_87 rfl (lv_at hl 1 rfl) ?_
          refine k_get (ci := 12) (v := .ref (gr g h0 5)) (C := RX12) (T := TX12) (N := 27) hx hb hts (fun _ h0_ => List.mem_cons_of_mem _ (List.mem_append_right _ (List.mem_append_left _ h0_))) hown hK hI i_h0.1 k_22 rfl 5 (by decide) (hts (.fieldLink RX12 20 "DeadlineShareModel" "undos" "[J") (List.mem_cons_of_mem _ (List.mem_append_left _ (List.mem_of_getElem? (i := 2) rfl)))) (fun _ h9 => h9) rfl dX12_remember_88 ?_
          refine lv_sipush (v := 906) hx hb dX12_remember_91 (by decide) ?_
          refine lv_aload_n hx hb dX12_remember_94 rfl (lv_at hl 1 rfl) ?_
          refine k_get (ci := 12) (v := .int y_9) (C := RX12) (T := TX12) (N := 27) hx hb hts (fun _ h0_ => List.mem_cons_of_mem _ (List.mem_append_right _ (List.mem_append_left _ h0_))) hown hK hI i_h0.1 k_22 rfl 10 (by decide) (hts (.fieldLink RX12 73 "DeadlineShareModel" "nUndo" "I") (List.mem_cons_of_mem _ (List.mem_append_left _ (List.mem_of_getElem? (i := 0) rfl)))) (fun _ h9 => h9) rfl dX12_remember_95 ?_
          refine k_topi (y := nI m_17) em_17 ?_
          refine lv_imul hx hb dX12_remember_98 ?_
          refine k_topi (y := nI (906 * m_17)) ((pk_mul 906 m_17).trans (congrArg nI (by omega))) ?_
          refine lv_iload_n hx hb dX12_remember_99 rfl (lv_at hl 0 rfl) ?_
          refine lv_iadd hx hb dX12_remember_100 ?_
          refine k_topi (y := nI (906 * m_17 + y_18)) ((nI_add (906 * m_17) y_18).trans (congrArg nI (by omega))) ?_
          refine lv_aload_n hx hb dX12_remember_101 rfl (lv_at hl 1 rfl) ?_
          refine k_get (ci := 12) (v := .ref (gr g h0 4)) (C := RX12) (T := TX12) (N := 27) hx hb hts (fun _ h0_ => List.mem_cons_of_mem _ (List.mem_append_right _ (List.mem_append_left _ h0_))) hown hK hI i_h0.1 k_22 rfl 4 (by decide) (hts (.fieldLink RX12 16 "DeadlineShareModel" "row" "[J") (List.mem_cons_of_mem _ (List.mem_append_left _ (List.mem_of_getElem? (i := 3) rfl)))) (fun _ h9 => h9) rfl dX12_remember_102 ?_
          refine lv_iload_n hx hb dX12_remember_105 rfl (lv_at hl 0 rfl) ?_
          refine k_lald hx hb hK hI i_1.1 1 k_23 rfl (vp_in_nI (by omega) (by omega)) dX12_remember_106 ?_
          refine k_topl (y := q y_18) (congrArg q (nI_clamp (by omega))) ?_
          refine k_last hx hb hK hI hS i_3.1 1 k_21 rfl (vp_in_nI (by omega) (by omega)) (cl_33 i_3) dX12_remember_107 (fun f_61 H locs e_62 hI hS => ?_)
          generalize eq_63 : vp_updL q_20 (Int32.toNatClampNeg (nI (906 * m_17 + y_18))) (q y_18) = q_63 at e_62
          have k_65 : f_61 (gr g h0 5) = .inl (gc g 1, 9060, .inr (.inl q_63)) := by rw [e_62]; exact va_up_self _ _ _
          have k_66 : f_61 h0 = .inr (12, [.int z0, .int z1, .ref (gr g h0 2), .ref (gr g h0 3), .ref (gr g h0 4), .ref (gr g h0 5), .ref (gr g h0 6), .ref (gr g h0 7), .ref (gr g h0 8), .ref (gr g h0 9), .int y_9, .ref (gr g h0 11), .int z12, .int z13, .int z14, .int z15, .long z16, .int z17, .int z18, .ref (gr g h0 19), .ref (gr g h0 20), .ref (gr g h0 21), .ref (gr g h0 22), .int z23, .long z24, .long z25, .long z26]) := by rw [e_62, va_up_ne _ _ (ik_ne i_h0 i_3 (by decide))]; exact k_22
          have k_67 : f_61 (gr g h0 4) = .inl (gc g 1, 906, .inr (.inl q)) := by rw [e_62, va_up_ne _ _ (ik_ne i_1 i_3 (by decide))]; exact k_23
          have k_68 : f_61 (gr g h0 7) = .inl (gc g 1, 1812, .inr (.inl im)) := by rw [e_62, va_up_ne _ _ (ik_ne i_4 i_3 (by decide))]; exact k_24
          have k_69 : f_61 (gr g h0 8) = .inl (gc g 3, 2, .inl ik) := by rw [e_62, va_up_ne _ _ (ik_ne i_5 i_3 (by decide))]; exact k_25
          have kp_64 := Kp.put kp_26 i_3 (by decide) e_62
          have u_70 : vp_updL q_20 (906 * m_17 + y_18) (q y_18) = q_63 := by rw [← eq_63, show Int32.toNatClampNeg (nI (906 * m_17 + y_18)) = 906 * m_17 + y_18 from (nI_clamp (by omega))]
          refine lv_iinc (v := nI (y_18 + 1)) (lv' := [(2, .int (nI (y_18 + 1))), (0, .ref h0), (1, .int p1)]) hx hb dX12_remember_108 hl (k := 0) rfl (nI_1 _) (by decide) rfl (fun ls hl => ?_)
          refine lv_goto (tgt := 80) hx hb dX12_remember_111 (by decide) ?_
          exact ih (y_18 + 1) q_63 f_61 _ _ _ (by omega) hI hS k_65 k_66 k_67 k_68 k_69 kp_64 (by first | omega | decide) (fun j9 h9 => by rw [← u_70]; exact if h8 : j9 = y_18 then (by subst h8; rw [pk_uLs]) else (by rw [pk_uLn (by omega)]; exact t_28 j9 (by omega))) (fun j9 h9 => by rw [← u_70, pk_uLn (by omega)]; exact t_29 j9 h9) (lv_sub hl [0, 1, 2] rfl)
    exact K_80 _ 0 q_7 f_6 _ _ _ (Nat.lt_succ_self _) hI hS k_8 k_10 k_11 k_12 k_13 kp_14 (by first | omega | decide) (fun j9 h9 => absurd h9 (Nat.not_lt_zero j9)) (fun j9 h9 => rfl) (lv_sub hl [0, 1, 2] rfl)
  refine lv_icmp_ne (tgt := 78) hx hb dX12_remember_6 (by decide) (fun c_71 => ?_) (fun c_71 => ?_)
  · have c_71 := kn_eq rfl (by decide : Int32.toInt 10 = 10) c_71
    exact J_78 u z10 f _ _ _ hI hS hc2 hc0 hc1 hc3 hc4 hk0 (by first | omega | decide) hU (lv_sub hl [0, 1] rfl)
  · have c_71 := kc_eq rfl (by decide : Int32.toInt 10 = 10) c_71
    refine lv_iconst (v := 0) hx hb dX12_remember_9 (by decide) ?_
    refine lv_istore_n (lv' := [(2, .int 0), (0, .ref h0), (1, .int p1)]) hx hb dX12_remember_10 rfl hl (by decide) rfl (fun ls hl => ?_)
    have K_11 : ∀ (nn : Nat) (y_72 : Nat) (q_74 : Nat → Int64) (f_73 : Nat → va_E) (H : Heap) (locs : List Loc) (ls : Array Slot), 8154 - y_72 < nn → Iv dC dI g A f_73 H → va_S A s.heap H locs → f_73 (gr g h0 5) = .inl (gc g 1, 9060, .inr (.inl q_74)) → f_73 h0 = .inr (12, [.int z0, .int z1, .ref (gr g h0 2), .ref (gr g h0 3), .ref (gr g h0 4), .ref (gr g h0 5), .ref (gr g h0 6), .ref (gr g h0 7), .ref (gr g h0 8), .ref (gr g h0 9), .int z10, .ref (gr g h0 11), .int z12, .int z13, .int z14, .int z15, .long z16, .int z17, .int z18, .ref (gr g h0 19), .ref (gr g h0 20), .ref (gr g h0 21), .ref (gr g h0 22), .int z23, .long z24, .long z25, .long z26]) → f_73 (gr g h0 4) = .inl (gc g 1, 906, .inr (.inl q)) → f_73 (gr g h0 7) = .inl (gc g 1, 1812, .inr (.inl im)) → f_73 (gr g h0 8) = .inl (gc g 3, 2, .inl ik) → Kp g [12, 33, 37] f f_73 → (y_72 ≤ 8154) → (∀ j : Nat, j < y_72 → q_74 j = u (j + 906)) → (∀ j : Nat, y_72 ≤ j → q_74 j = u j) → lv_has ls 3 [(2, .int (nI y_72)), (0, .ref h0), (1, .int p1)] → W p l e (headSpec wq_c_X12_remember ({ frames := 0, cells := 0, slots := 0, locals := 0 } : Room)).room s m ([.ref h0, .int p1].toArray) below meth c H locs 0 0 (MQ below (va_Qv (fun (_ : Unit) => True) (fun (_ : Unit) t => ∃ f1 : Nat → va_E, Iv dC dI g A f1 t.heap ∧ Kp g [12, 33, 37] f f1 ∧ ∃ (w10 : Int32) (u1 : Nat → Int64), (f1 h0 = .inr (12, [.int z0, .int z1, .ref (gr g h0 2), .ref (gr g h0 3), .ref (gr g h0 4), .ref (gr g h0 5), .ref (gr g h0 6), .ref (gr g h0 7), .ref (gr g h0 8), .ref (gr g h0 9), .int w10, .ref (gr g h0 11), .int z12, .int z13, .int z14, .int z15, .long z16, .int z17, .int z18, .ref (gr g h0 19), .ref (gr g h0 20), .ref (gr g h0 21), .ref (gr g h0 22), .int z23, .long z24, .long z25, .long z26])) ∧ (0 ≤ w10.toInt ∧ w10.toInt ≤ 10) ∧ (f1 (gr g h0 5) = .inl (gc g 1, 9060, .inr (.inl u1))) ∧ (UIq w10 u1 im ik)) A) ([.ref h0, .int p1].toArray) s 0 0 A) (F0 m 11 ls []) := by
      intro nn
      induction nn with
      | zero => intro y_72 q_74 f_73 H locs ls m_84; exact absurd m_84 (Nat.not_lt_zero _)
      | succ nn ih =>
        intro y_72 q_74 f_73 H locs ls m_84 hI hS k_75 k_76 k_77 k_78 k_79 kp_80 t_81 t_82 t_83 hl
        refine lv_iload_n hx hb dX12_remember_11 rfl (lv_at hl 0 rfl) ?_
        refine lv_sipush (v := 8154) hx hb dX12_remember_12 (by decide) ?_
        refine lv_icmp_ge (tgt := 40) hx hb dX12_remember_15 (by decide) (fun c_85 => ?_) (fun c_85 => ?_)
        · have c_85 := kc_le (by decide : Int32.toInt 8154 = 8154) (nI_toInt (n := y_72) (by omega)) c_85
          refine lv_iconst (v := 0) hx hb dX12_remember_40 (by decide) ?_
          refine lv_istore_n (lv' := [(2, .int 0), (0, .ref h0), (1, .int p1)]) hx hb dX12_remember_41 rfl hl (by decide) rfl (fun ls hl => ?_)
          have K_42 : ∀ (nn : Nat) (y_86 : Int32) (f_87 : Nat → va_E) (H : Heap) (locs : List Loc) (ls : Array Slot), (10 - y_86.toInt).toNat < nn → Iv dC dI g A f_87 H → va_S A s.heap H locs → f_87 (gr g h0 5) = .inl (gc g 1, 9060, .inr (.inl q_74)) → f_87 h0 = .inr (12, [.int z0, .int z1, .ref (gr g h0 2), .ref (gr g h0 3), .ref (gr g h0 4), .ref (gr g h0 5), .ref (gr g h0 6), .ref (gr g h0 7), .ref (gr g h0 8), .ref (gr g h0 9), .int z10, .ref (gr g h0 11), .int z12, .int z13, .int z14, .int z15, .long z16, .int z17, .int z18, .ref (gr g h0 19), .ref (gr g h0 20), .ref (gr g h0 21), .ref (gr g h0 22), .int z23, .long z24, .long z25, .long z26]) → f_87 (gr g h0 4) = .inl (gc g 1, 906, .inr (.inl q)) → f_87 (gr g h0 7) = .inl (gc g 1, 1812, .inr (.inl im)) → f_87 (gr g h0 8) = .inl (gc g 3, 2, .inl ik) → Kp g [12, 33, 37] f f_87 → (0 ≤ y_86.toInt) → lv_has ls 3 [(2, .int y_86), (0, .ref h0), (1, .int p1)] → W p l e (headSpec wq_c_X12_remember ({ frames := 0, cells := 0, slots := 0, locals := 0 } : Room)).room s m ([.ref h0, .int p1].toArray) below meth c H locs 0 0 (MQ below (va_Qv (fun (_ : Unit) => True) (fun (_ : Unit) t => ∃ f1 : Nat → va_E, Iv dC dI g A f1 t.heap ∧ Kp g [12, 33, 37] f f1 ∧ ∃ (w10 : Int32) (u1 : Nat → Int64), (f1 h0 = .inr (12, [.int z0, .int z1, .ref (gr g h0 2), .ref (gr g h0 3), .ref (gr g h0 4), .ref (gr g h0 5), .ref (gr g h0 6), .ref (gr g h0 7), .ref (gr g h0 8), .ref (gr g h0 9), .int w10, .ref (gr g h0 11), .int z12, .int z13, .int z14, .int z15, .long z16, .int z17, .int z18, .ref (gr g h0 19), .ref (gr g h0 20), .ref (gr g h0 21), .ref (gr g h0 22), .int z23, .long z24, .long z25, .long z26])) ∧ (0 ≤ w10.toInt ∧ w10.toInt ≤ 10) ∧ (f1 (gr g h0 5) = .inl (gc g 1, 9060, .inr (.inl u1))) ∧ (UIq w10 u1 im ik)) A) ([.ref h0, .int p1].toArray) s 0 0 A) (F0 m 42 ls []) := by
            intro nn
            induction nn with
            | zero => intro y_86 f_87 H locs ls m_95; exact absurd m_95 (Nat.not_lt_zero _)
            | succ nn ih =>
              intro y_86 f_87 H locs ls m_95 hI hS k_88 k_89 k_90 k_91 k_92 kp_93 t_94 hl
              have g_96 := Int32.toInt_lt y_86
              have g_97 := Int32.le_toInt y_86
              refine lv_iload_n hx hb dX12_remember_42 rfl (lv_at hl 0 rfl) ?_
              refine lv_bipush (v := 9) hx hb dX12_remember_43 (by decide) ?_
              refine lv_icmp_ge (tgt := 68) hx hb dX12_remember_45 (by decide) (fun c_98 => ?_) (fun c_98 => ?_)
              · have c_98 := kc_le (by decide : Int32.toInt 9 = 9) rfl c_98
                refine lv_aload_n hx hb dX12_remember_68 rfl (lv_at hl 1 rfl) ?_
                refine lv_dup hx hb dX12_remember_69 rfl ?_
                refine k_get (ci := 12) (v := .int z10) (C := RX12) (T := TX12) (N := 27) hx hb hts (fun _ h0_ => List.mem_cons_of_mem _ (List.mem_append_right _ (List.mem_append_left _ h0_))) hown hK hI i_h0.1 k_89 rfl 10 (by decide) (hts (.fieldLink RX12 73 "DeadlineShareModel" "nUndo" "I") (List.mem_cons_of_mem _ (List.mem_append_left _ (List.mem_of_getElem? (i := 0) rfl)))) (fun _ h9 => h9) rfl dX12_remember_70 ?_
                refine lv_iconst (v := 1) hx hb dX12_remember_73 (by decide) ?_
                refine lv_isub hx hb dX12_remember_74 ?_
                refine lv_topi (fun v_99 ev_99 => ?_)
                have tv_99 := k_sb z10 1
                rw [← ev_99, show Int32.toInt 1 = 1 from by decide] at tv_99
                have b_100 : 0 ≤ Int32.toInt v_99 ∧ Int32.toInt v_99 ≤ 10 := by omega
                refine k_put (ci := 12) (v := .int v_99) (ty := .int) (C := RX12) (T := TX12) (N := 27) hx hb hts (fun _ h0_ => List.mem_cons_of_mem _ (List.mem_append_right _ (List.mem_append_left _ h0_))) tyX12 tyX12_ok nmX12 hown hK hI hS i_h0.1 k_89 rfl 10 (by decide) (hts (.fieldLink RX12 73 "DeadlineShareModel" "nUndo" "I") (List.mem_cons_of_mem _ (List.mem_append_left _ (List.mem_of_getElem? (i := 0) rfl)))) (fun _ h9 => h9) rfl (by decide +kernel) rfl rfl (Nat.le_of_ble_eq_true rfl) rfl (cl_12 i_h0 b_100 (by omega) (by omega)) dX12_remember_75 (fun f_101 H locs e_102 hI hS => ?_)
                have k_104 : f_101 (gr g h0 5) = .inl (gc g 1, 9060, .inr (.inl q_74)) := by rw [e_102, va_up_ne _ _ (ik_ne i_3 i_h0 (by decide))]; exact k_88
                have k_105 : f_101 h0 = .inr (12, [.int z0, .int z1, .ref (gr g h0 2), .ref (gr g h0 3), .ref (gr g h0 4), .ref (gr g h0 5), .ref (gr g h0 6), .ref (gr g h0 7), .ref (gr g h0 8), .ref (gr g h0 9), .int v_99, .ref (gr g h0 11), .int z12, .int z13, .int z14, .int z15, .long z16, .int z17, .int z18, .ref (gr g h0 19), .ref (gr g h0 20), .ref (gr g h0 21), .ref (gr g h0 22), .int z23, .long z24, .long z25, .long z26]) := by rw [e_102]; exact va_up_self _ _ _
                have k_106 : f_101 (gr g h0 4) = .inl (gc g 1, 906, .inr (.inl q)) := by rw [e_102, va_up_ne _ _ (ik_ne i_1 i_h0 (by decide))]; exact k_90
                have k_107 : f_101 (gr g h0 7) = .inl (gc g 1, 1812, .inr (.inl im)) := by rw [e_102, va_up_ne _ _ (ik_ne i_4 i_h0 (by decide))]; exact k_91
                have k_108 : f_101 (gr g h0 8) = .inl (gc g 3, 2, .inl ik) := by rw [e_102, va_up_ne _ _ (ik_ne i_5 i_h0 (by decide))]; exact k_92
                have kp_103 := Kp.put kp_93 i_h0 (by decide) e_102
                exact J_78 q_74 v_99 f_101 _ _ _ hI hS k_104 k_105 k_106 k_107 k_108 kp_103 (by first | omega | decide) (ui_shift hU (by omega) (fun j9 h9 => t_82 j9 (by omega)) (by omega)) (lv_sub hl [1, 2] rfl)
              · have c_98 := kn_le (by decide : Int32.toInt 9 = 9) rfl c_98
                refine lv_aload_n hx hb dX12_remember_48 rfl (lv_at hl 1 rfl) ?_
                refine k_get (ci := 12) (v := .ref (gr g h0 9)) (C := RX12) (T := TX12) (N := 27) hx hb hts (fun _ h0_ => List.mem_cons_of_mem _ (List.mem_append_right _ (List.mem_append_left _ h0_))) hown hK hI i_h0.1 k_89 rfl 9 (by decide) (hts (.fieldLink RX12 33 "DeadlineShareModel" "sorts" "[I") (List.mem_cons_of_mem _ (List.mem_append_left _ (List.mem_of_getElem? (i := 1) rfl)))) (fun _ h9 => h9) rfl dX12_remember_49 ?_
                have i_110 := kw_12_9 hG i_h0
                refine lv_iload_n hx hb dX12_remember_52 rfl (lv_at hl 0 rfl) ?_
                refine lv_aload_n hx hb dX12_remember_53 rfl (lv_at hl 1 rfl) ?_
                refine k_get (ci := 12) (v := .ref (gr g h0 9)) (C := RX12) (T := TX12) (N := 27) hx hb hts (fun _ h0_ => List.mem_cons_of_mem _ (List.mem_append_right _ (List.mem_append_left _ h0_))) hown hK hI i_h0.1 k_89 rfl 9 (by decide) (hts (.fieldLink RX12 33 "DeadlineShareModel" "sorts" "[I") (List.mem_cons_of_mem _ (List.mem_append_left _ (List.mem_of_getElem? (i := 1) rfl)))) (fun _ h9 => h9) rfl dX12_remember_54 ?_
                refine lv_iload_n hx hb dX12_remember_57 rfl (lv_at hl 0 rfl) ?_
                refine lv_iconst (v := 1) hx hb dX12_remember_58 (by decide) ?_
                refine lv_iadd hx hb dX12_remember_59 ?_
                refine lv_topi (fun v_113 ev_113 => ?_)
                have tv_113 := k_ad y_86 1
                rw [← ev_113, show Int32.toInt 1 = 1 from by decide] at tv_113
                obtain ⟨q_115, k_114⟩ := op_37 hI i_110
                refine k_iald hx hb hK hI i_110.1 0 k_114 rfl (vp_in_iff.mpr (by omega)) dX12_remember_60 ?_
                refine lv_topi (fun v_116 ev_116 => ?_)
                refine k_iast hx hb hK hI hS i_110.1 0 k_114 rfl (vp_in_iff.mpr (by omega)) (cl_37 i_110) dX12_remember_61 (fun f_117 H locs e_118 hI hS => ?_)
                generalize eq_119 : upd q_115 (Int32.toNatClampNeg y_86) v_116 = q_119 at e_118
                have k_121 : f_117 (gr g h0 5) = .inl (gc g 1, 9060, .inr (.inl q_74)) := by rw [e_118, va_up_ne _ _ (ik_ne i_3 i_110 (by decide))]; exact k_88
                have k_122 : f_117 h0 = .inr (12, [.int z0, .int z1, .ref (gr g h0 2), .ref (gr g h0 3), .ref (gr g h0 4), .ref (gr g h0 5), .ref (gr g h0 6), .ref (gr g h0 7), .ref (gr g h0 8), .ref (gr g h0 9), .int z10, .ref (gr g h0 11), .int z12, .int z13, .int z14, .int z15, .long z16, .int z17, .int z18, .ref (gr g h0 19), .ref (gr g h0 20), .ref (gr g h0 21), .ref (gr g h0 22), .int z23, .long z24, .long z25, .long z26]) := by rw [e_118, va_up_ne _ _ (ik_ne i_h0 i_110 (by decide))]; exact k_89
                have k_123 : f_117 (gr g h0 4) = .inl (gc g 1, 906, .inr (.inl q)) := by rw [e_118, va_up_ne _ _ (ik_ne i_1 i_110 (by decide))]; exact k_90
                have k_124 : f_117 (gr g h0 7) = .inl (gc g 1, 1812, .inr (.inl im)) := by rw [e_118, va_up_ne _ _ (ik_ne i_4 i_110 (by decide))]; exact k_91
                have k_125 : f_117 (gr g h0 8) = .inl (gc g 3, 2, .inl ik) := by rw [e_118, va_up_ne _ _ (ik_ne i_5 i_110 (by decide))]; exact k_92
                have k_126 : f_117 (gr g h0 9) = .inl (gc g 0, 10, .inl q_119) := by rw [e_118]; exact va_up_self _ _ _
                have kp_120 := Kp.put kp_93 i_110 (by decide) e_118
                obtain ⟨v_127, ev_127⟩ : ∃ y : Int32, y = y_86 + Int32.ofInt 1 := ⟨_, rfl⟩
                refine lv_iinc (v := v_127) (lv' := [(2, .int v_127), (0, .ref h0), (1, .int p1)]) hx hb dX12_remember_62 hl (k := 0) rfl ev_127.symm (by decide) rfl (fun ls hl => ?_)
                have tv_127 := k_inc y_86
                rw [← ev_127] at tv_127
                refine lv_goto (tgt := 42) hx hb dX12_remember_65 (by decide) ?_
                exact ih v_127 f_117 _ _ _ (by omega) hI hS k_121 k_122 k_123 k_124 k_125 kp_120 (by first | omega | decide) (lv_sub hl [0, 1, 2] rfl)
          exact K_42 _ 0 f_73 _ _ _ (Nat.lt_succ_self _) hI hS k_75 k_76 k_77 k_78 k_79 kp_80 (by first | omega | decide | (simp only [show Int32.toInt 0 = 0 from by decide]; omega)) (lv_sub hl [0, 1, 2] rfl)
        · have c_85 := kn_le (by decide : Int32.toInt 8154 = 8154) (nI_toInt (n := y_72) (by omega)) c_85
          refine lv_aload_n hx hb dX12_remember_18 rfl (lv_at hl 1 rfl) ?_
          refine k_get (ci := 12) (v := .ref (gr g h0 5)) (C := RX12) (T := TX12) (N := 27) hx hb hts (fun _ h0_ => List.mem_cons_of_mem _ (List.mem_append_right _ (List.mem_append_left _ h0_))) hown hK hI i_h0.1 k_76 rfl 5 (by decide) (hts (.fieldLink RX12 20 "DeadlineShareModel" "undos" "[J") (List.mem_cons_of_mem _ (List.mem_append_left _ (List.mem_of_getElem? (i := 2) rfl)))) (fun _ h9 => h9) rfl dX12_remember_19 ?_
          refine lv_iload_n hx hb dX12_remember_22 rfl (lv_at hl 0 rfl) ?_
          refine lv_aload_n hx hb dX12_remember_23 rfl (lv_at hl 1 rfl) ?_
          refine k_get (ci := 12) (v := .ref (gr g h0 5)) (C := RX12) (T := TX12) (N := 27) hx hb hts (fun _ h0_ => List.mem_cons_of_mem _ (List.mem_append_right _ (List.mem_append_left _ h0_))) hown hK hI i_h0.1 k_76 rfl 5 (by decide) (hts (.fieldLink RX12 20 "DeadlineShareModel" "undos" "[J") (List.mem_cons_of_mem _ (List.mem_append_left _ (List.mem_of_getElem? (i := 2) rfl)))) (fun _ h9 => h9) rfl dX12_remember_24 ?_
          refine lv_iload_n hx hb dX12_remember_27 rfl (lv_at hl 0 rfl) ?_
          refine lv_sipush (v := 906) hx hb dX12_remember_28 (by decide) ?_
          refine lv_iadd hx hb dX12_remember_31 ?_
          refine k_topi (y := nI (y_72 + 906)) ((nI_add y_72 906).trans (congrArg nI (by omega))) ?_
          refine k_lald hx hb hK hI i_3.1 1 k_75 rfl (vp_in_nI (by omega) (by omega)) dX12_remember_32 ?_
          refine k_topl (y := q_74 (y_72 + 906)) (congrArg q_74 (nI_clamp (by omega))) ?_
          refine k_last hx hb hK hI hS i_3.1 1 k_75 rfl (vp_in_nI (by omega) (by omega)) (cl_33 i_3) dX12_remember_33 (fun f_132 H locs e_133 hI hS => ?_)
          generalize eq_134 : vp_updL q_74 (Int32.toNatClampNeg (nI y_72)) (q_74 (y_72 + 906)) = q_134 at e_133
          have k_136 : f_132 (gr g h0 5) = .inl (gc g 1, 9060, .inr (.inl q_134)) := by rw [e_133]; exact va_up_self _ _ _
          have k_137 : f_132 h0 = .inr (12, [.int z0, .int z1, .ref (gr g h0 2), .ref (gr g h0 3), .ref (gr g h0 4), .ref (gr g h0 5), .ref (gr g h0 6), .ref (gr g h0 7), .ref (gr g h0 8), .ref (gr g h0 9), .int z10, .ref (gr g h0 11), .int z12, .int z13, .int z14, .int z15, .long z16, .int z17, .int z18, .ref (gr g h0 19), .ref (gr g h0 20), .ref (gr g h0 21), .ref (gr g h0 22), .int z23, .long z24, .long z25, .long z26]) := by rw [e_133, va_up_ne _ _ (ik_ne i_h0 i_3 (by decide))]; exact k_76
          have k_138 : f_132 (gr g h0 4) = .inl (gc g 1, 906, .inr (.inl q)) := by rw [e_133, va_up_ne _ _ (ik_ne i_1 i_3 (by decide))]; exact k_77
          have k_139 : f_132 (gr g h0 7) = .inl (gc g 1, 1812, .inr (.inl im)) := by rw [e_133, va_up_ne _ _ (ik_ne i_4 i_3 (by decide))]; exact k_78
          have k_140 : f_132 (gr g h0 8) = .inl (gc g 3, 2, .inl ik) := by rw [e_133, va_up_ne _ _ (ik_ne i_5 i_3 (by decide))]; exact k_79
          have kp_135 := Kp.put kp_80 i_3 (by decide) e_133
          have u_141 : vp_updL q_74 y_72 (q_74 (y_72 + 906)) = q_134 := by rw [← eq_134, show Int32.toNatClampNeg (nI y_72) = y_72 from (nI_clamp (by omega))]
          refine lv_iinc (v := nI (y_72 + 1)) (lv' := [(2, .int (nI (y_72 + 1))), (0, .ref h0), (1, .int p1)]) hx hb dX12_remember_34 hl (k := 0) rfl (nI_1 _) (by decide) rfl (fun ls hl => ?_)
          refine lv_goto (tgt := 11) hx hb dX12_remember_37 (by decide) ?_
          exact ih (y_72 + 1) q_134 f_132 _ _ _ (by omega) hI hS k_136 k_137 k_138 k_139 k_140 kp_135 (by first | omega | decide) (fun j9 h9 => by rw [← u_141]; exact if h8 : j9 = y_72 then (by subst h8; rw [pk_uLs]; exact t_83 _ (by omega)) else (by rw [pk_uLn h8]; exact t_82 j9 (by omega))) (fun j9 h9 => by rw [← u_141, pk_uLn (by omega)]; exact t_83 j9 (by omega)) (lv_sub hl [0, 1, 2] rfl)
    exact K_11 _ 0 u f _ _ _ (Nat.lt_succ_self _) hI hS hc2 hc0 hc1 hc3 hc4 hk0 (by first | omega | decide) (fun j9 h9 => absurd h9 (Nat.not_lt_zero j9)) (fun j9 h9 => rfl) (lv_sub hl [0, 1, 2] rfl)
theorem tw_903 : q_g (.code yX12_inState cX12_inState 4 (some .int)) := ⟨(List.mem_append_right _ (List.mem_of_getElem? (i := 1545) (by decide +kernel))), good_of_word (by decide +kernel)⟩
def ow_c_X12_inState : List Cond := [.fieldLink RX12 16 "DeadlineShareModel" "row" "[J", .methodLink RX12 87 yX12_at, .static yX12_at, .initialized RX12]
def wq_c_X12_inState : List Cond := .code yX12_inState cX12_inState 4 (some .int) :: (ow_c_X12_inState ++ (u_ws RX12 TX12 27 ++ (wq_c_X12_at ++ ([] : List Cond))))
theorem tb_c_X12_inState : ∀ w ∈ wq_c_X12_inState, q_g w := by
  unfold wq_c_X12_inState ow_c_X12_inState
  exact q_cons tw_903 (q_app (q_cons tw_731 (q_cons tw_734 (q_cons tw_733 (q_cons tw_728 q_nil)))) (q_app tu_X12 (q_app tb_c_X12_at q_nil)))
set_option maxHeartbeats 4000000 in
set_option maxRecDepth 100000 in
theorem c_X12_inState (l : Launch) (dC : Nat → ClassId) (dI : Nat → Nat → Nat) (g : kG) (A : Nat → Prop) (hG : kWf g) (f : Nat → va_E) (h0 : Nat) (p1 : Int32) (q : Nat → Int64) (i_h0 : ik g 12 h0) (hc0 : f (gr g h0 4) = .inl (gc g 1, 906, .inr (.inl q))) (hc0_ok : RowOK q) : Met l yX12_inState wq_c_X12_inState ({ frames := 1, cells := 0, slots := 0, locals := 20 } : Room) (va_Pc [.ref h0, .int p1] (fun U => kIn dC dI g A f U)) (va_Qi (fun (r : Int32) (_ : Unit) => True) (fun (_ : Unit) t => Iv dC dI g A f t.heap) A) 0 0 A := by
  refine Met.ofW (cc := cX12_inState) (maxL := 4) (ret := (some .int)) (by decide) rfl ?_
  intro p e s m args below meth c s₁ B hml hv
  obtain ⟨rfl, hI, hK, hE⟩ := hv
  have hx := B.exec
  have hb := B.bytes
  have hr := B.returns
  have hts := atoms_spec (ws := wq_c_X12_inState) B.pre
  have hown : s.vm.findClass RX12 = some m.cls := findClass_of_methodNamed B.named
  have hlocks := B.notSynchronized
  have hS : va_S A s.heap s.heap [] := va_S.rf
  have hl := lv_entry ([.ref h0, .int p1]) (n := 4) (Nat.le_of_ble_eq_true rfl)
  rw [lg_entry_eq]
  generalize (lg_sl ([.ref h0, .int p1]) ++ List.replicate (4 - (lg_sl ([.ref h0, .int p1])).length) Slot.unset).toArray = ls at hl ⊢
  have hl : lv_has ls 4 [(0, .ref h0), (1, .int p1)] := hl
  have i_1 := kw_12_4 hG i_h0
  have d_2 := rk_hd hc0_ok
  refine lv_iconst (v := 0) hx hb dX12_inState_0 (by decide) ?_
  refine lv_istore_n (lv' := [(2, .int 0), (0, .ref h0), (1, .int p1)]) hx hb dX12_inState_1 rfl hl (by decide) rfl (fun ls hl => ?_)
  refine lv_iconst (v := 0) hx hb dX12_inState_2 (by decide) ?_
  refine lv_istore_n (lv' := [(3, .int 0), (2, .int 0), (0, .ref h0), (1, .int p1)]) hx hb dX12_inState_3 rfl hl (by decide) rfl (fun ls hl => ?_)
  have K_4 : ∀ (nn : Nat) (y_3 : Nat) (y_4 : Int32) (H : Heap) (locs : List Loc) (ls : Array Slot), 12 - y_3 < nn → Iv dC dI g A f H → va_S A s.heap H locs → (y_3 ≤ 12) → lv_has ls 4 [(3, .int (nI y_3)), (2, .int y_4), (0, .ref h0), (1, .int p1)] → W p l e (headSpec wq_c_X12_inState ({ frames := 1, cells := 0, slots := 0, locals := 20 } : Room)).room s m ([.ref h0, .int p1].toArray) below meth c H locs 0 0 (MQ below (va_Qi (fun (r : Int32) (_ : Unit) => True) (fun (_ : Unit) t => Iv dC dI g A f t.heap) A) ([.ref h0, .int p1].toArray) s 0 0 A) (F0 m 4 ls []) := by
    intro nn
    induction nn with
    | zero => intro y_3 y_4 H locs ls m_6; exact absurd m_6 (Nat.not_lt_zero _)
    | succ nn ih =>
      intro y_3 y_4 H locs ls m_6 hI hS t_5 hl
      refine lv_iload_n hx hb dX12_inState_4 rfl (lv_at hl 0 rfl) ?_
      refine lv_i2l (v := lN (y_3)) hx hb dX12_inState_5 (nI_l (by omega)) ?_
      refine lv_aload_n hx hb dX12_inState_6 rfl (lv_at hl 2 rfl) ?_
      obtain ⟨x_8, x_9, x_10, x_11, x_12, x_13, x_14, x_15, x_16, x_17, x_18, x_19, x_20, x_21, k_7, b_22, b_23, b_24, b_25, b_26, b_27⟩ := op_12 hI i_h0
      refine k_get (ci := 12) (v := .ref (gr g h0 4)) (C := RX12) (T := TX12) (N := 27) hx hb hts (fun _ h0_ => List.mem_cons_of_mem _ (List.mem_append_right _ (List.mem_append_left _ h0_))) hown hK hI i_h0.1 k_7 rfl 4 (by decide) (hts (.fieldLink RX12 16 "DeadlineShareModel" "row" "[J") (List.mem_cons_of_mem _ (List.mem_append_left _ (List.mem_of_getElem? (i := 0) rfl)))) (fun _ h9 => h9) rfl dX12_inState_7 ?_
      refine lv_iconst (v := 0) hx hb dX12_inState_10 (by decide) ?_
      refine k_lald hx hb hK hI i_1.1 1 hc0 rfl (by unfold vp_in; decide) dX12_inState_11 ?_
      refine k_topl (y := q 0) (congrArg q (show Int32.toNatClampNeg 0 = 0 by decide)) ?_
      refine W.lcmp hx hb dX12_inState_12 ?_
      refine lv_if_ge (tgt := 47) hx hb dX12_inState_13 (by decide) (fun c_30 => ?_) (fun c_30 => ?_)
      · have c_30 := lc_le rfl (lN_toInt (n := y_3) (by omega)) ((lg_cmp_ge _ _).mp c_30)
        refine lv_iload_n hx hb dX12_inState_47 rfl (lv_at hl 1 rfl) ?_
        exact W.iret (v := y_4) hx hb hr (fun t ht hW => ⟨⟨y_4, (), rfl, trivial, k_ret ht hI⟩, hS.F ht⟩) hS.2.2 dX12_inState_48
      · have c_30 := ln_le rfl (lN_toInt (n := y_3) (by omega)) (fun h9 => c_30 ((lg_cmp_ge _ _).mpr h9))
        refine lv_iload_n hx hb dX12_inState_16 rfl (lv_at hl 1 rfl) ?_
        refine lv_aload_n hx hb dX12_inState_17 rfl (lv_at hl 2 rfl) ?_
        refine k_get (ci := 12) (v := .ref (gr g h0 4)) (C := RX12) (T := TX12) (N := 27) hx hb hts (fun _ h0_ => List.mem_cons_of_mem _ (List.mem_append_right _ (List.mem_append_left _ h0_))) hown hK hI i_h0.1 k_7 rfl 4 (by decide) (hts (.fieldLink RX12 16 "DeadlineShareModel" "row" "[J") (List.mem_cons_of_mem _ (List.mem_append_left _ (List.mem_of_getElem? (i := 0) rfl)))) (fun _ h9 => h9) rfl dX12_inState_18 ?_
        refine lv_iload_n hx hb dX12_inState_21 rfl (lv_at hl 0 rfl) ?_
        refine va_calli (va_runS (As := [.int (nI y_3)]) (rest := [.ref (gr g h0 4), .int y_4]) ⟨hx, hb, hml, hown, hts⟩ (c_X12_at l dC dI g A hG f y_3) (va_cwS 1 hts (gi_S (fun w_ h0_ => ⟨List.mem_cons_of_mem _ (List.mem_append_right _ (List.mem_append_right _ (List.mem_append_left _ h0_))), (tb_c_X12_at w_ h0_).2⟩) (List.mem_cons_of_mem _ (List.mem_append_left _ (List.mem_of_getElem? (i := 1) rfl))) (List.mem_cons_of_mem _ (List.mem_append_left _ (List.mem_of_getElem? (i := 2) rfl))) (List.mem_cons_of_mem _ (List.mem_append_left _ (List.mem_of_getElem? (i := 3) rfl)))) rfl rfl rfl (by decide +kernel) ⟨Nat.le_of_ble_eq_true rfl, Nat.le_of_ble_eq_true rfl⟩) ⟨fun a U g mk q => ⟨q.1, q.2.calling rfl rfl⟩, fun U hU hW => ⟨rfl, kIn.of hI hK hE hS hU hW⟩⟩ rfl rfl hl.1 rfl (lv_room (Nat.le_of_ble_eq_true rfl)) dX12_inState_22 ⟨Nat.le_of_ble_eq_true rfl, Nat.le_of_ble_eq_true rfl⟩) hS (fun q _ h => h) (fun q h => h) (fun r_34 u t H1 locs ht hvm w_33 hB hz1 hk1 hS => ?_)
        have hI : Iv dC dI g A f t.heap := hB
        rw [ht] at hI
        generalize H1 = H at hI hS ⊢
        refine W.widen (k := 0) (n := 0) (Nat.le_of_ble_eq_true rfl) (Nat.le_of_ble_eq_true rfl) ?_
        have w_33 : r_34 = nI (6 + 43 * y_3) := w_33
        refine k_topi (y := nI (6 + 43 * y_3)) w_33 ?_
        refine lv_iconst (v := 2) hx hb dX12_inState_25 (by decide) ?_
        refine lv_iadd hx hb dX12_inState_26 ?_
        refine k_topi (y := nI (6 + 43 * y_3 + 2)) ((nI_add (6 + 43 * y_3) 2).trans (congrArg nI (by omega))) ?_
        refine k_lald hx hb hK hI i_1.1 1 hc0 rfl (vp_in_nI (by omega) (by omega)) dX12_inState_27 ?_
        refine k_topl (y := q (6 + 43 * y_3 + 2)) (congrArg q (nI_clamp (by omega))) ?_
        refine lv_iload_n hx hb dX12_inState_28 rfl (lv_at hl 3 rfl) ?_
        refine lv_i2l (v := p1.toInt64) hx hb dX12_inState_29 rfl ?_
        have t_35 := Int32.toInt_toInt64 p1
        refine W.lcmp hx hb dX12_inState_30 ?_
        have J_39 : ∀ (y_36 : Int32) (H : Heap) (locs : List Loc) (ls : Array Slot), Iv dC dI g A f H → va_S A s.heap H locs → lv_has ls 4 [(3, .int (nI y_3)), (2, .int y_4), (0, .ref h0), (1, .int p1)] → W p l e (headSpec wq_c_X12_inState ({ frames := 1, cells := 0, slots := 0, locals := 20 } : Room)).room s m ([.ref h0, .int p1].toArray) below meth c H locs 0 0 (MQ below (va_Qi (fun (r : Int32) (_ : Unit) => True) (fun (_ : Unit) t => Iv dC dI g A f t.heap) A) ([.ref h0, .int p1].toArray) s 0 0 A) (F0 m 39 ls [.int y_36, .int y_4]) := by
          intro y_36 H locs ls hI hS  hl
          refine lv_iadd hx hb dX12_inState_39 ?_
          refine lv_topi (fun v_37 ev_37 => ?_)
          have tv_37 := k_ad y_4 y_36
          rw [← ev_37] at tv_37
          refine lv_istore_n (lv' := [(2, .int v_37), (3, .int (nI y_3)), (0, .ref h0), (1, .int p1)]) hx hb dX12_inState_40 rfl hl (by decide) rfl (fun ls hl => ?_)
          refine lv_iinc (v := nI (y_3 + 1)) (lv' := [(3, .int (nI (y_3 + 1))), (2, .int v_37), (0, .ref h0), (1, .int p1)]) hx hb dX12_inState_41 hl (k := 1) rfl (nI_1 _) (by decide) rfl (fun ls hl => ?_)
          refine lv_goto (tgt := 4) hx hb dX12_inState_44 (by decide) ?_
          exact ih (y_3 + 1) v_37 _ _ _ (by omega) hI hS (by first | omega | decide) (lv_sub hl [0, 1, 2, 3] rfl)
        refine lv_if_ne (tgt := 38) hx hb dX12_inState_31 (by decide) (fun c_38 => ?_) (fun c_38 => ?_)
        · have c_38 := ln_eq rfl rfl (fun h9 => c_38 ((lg_cmp_eq _ _).mpr h9))
          refine lv_iconst (v := 0) hx hb dX12_inState_38 (by decide) ?_
          exact J_39 0 _ _ _ hI hS  (lv_sub hl [0, 1, 2, 3] rfl)
        · have c_38 := lc_eq rfl rfl ((lg_cmp_eq _ _).mp c_38)
          refine lv_iconst (v := 1) hx hb dX12_inState_34 (by decide) ?_
          refine lv_goto (tgt := 39) hx hb dX12_inState_35 (by decide) ?_
          exact J_39 1 _ _ _ hI hS  (lv_sub hl [0, 1, 2, 3] rfl)
  exact K_4 _ 0 0 _ _ _ (Nat.lt_succ_self _) hI hS (by first | omega | decide | (simp only [show Int32.toInt 0 = 0 from by decide]; omega)) (lv_sub hl [0, 1, 2, 3] rfl)
theorem tw_904 : q_g (.code yX12_scripted cX12_scripted 3 (some .int)) := ⟨(List.mem_append_right _ (List.mem_of_getElem? (i := 1549) (by decide +kernel))), good_of_word (by decide +kernel)⟩
def ow_c_X12_scripted : List Cond := [.fieldLink RX12 16 "DeadlineShareModel" "row" "[J", .methodLink RX12 87 yX12_at, .static yX12_at, .initialized RX12]
def wq_c_X12_scripted : List Cond := .code yX12_scripted cX12_scripted 3 (some .int) :: (ow_c_X12_scripted ++ (u_ws RX12 TX12 27 ++ (wq_c_X12_at ++ ([] : List Cond))))
theorem tb_c_X12_scripted : ∀ w ∈ wq_c_X12_scripted, q_g w := by
  unfold wq_c_X12_scripted ow_c_X12_scripted
  exact q_cons tw_904 (q_app (q_cons tw_731 (q_cons tw_734 (q_cons tw_733 (q_cons tw_728 q_nil)))) (q_app tu_X12 (q_app tb_c_X12_at q_nil)))
set_option maxHeartbeats 4000000 in
set_option maxRecDepth 100000 in
theorem c_X12_scripted (l : Launch) (dC : Nat → ClassId) (dI : Nat → Nat → Nat) (g : kG) (A : Nat → Prop) (hG : kWf g) (f : Nat → va_E) (h0 : Nat) (q : Nat → Int64) (i_h0 : ik g 12 h0) (hc0 : f (gr g h0 4) = .inl (gc g 1, 906, .inr (.inl q))) (hc0_ok : RowOK q) : Met l yX12_scripted wq_c_X12_scripted ({ frames := 1, cells := 0, slots := 0, locals := 20 } : Room) (va_Pc [.ref h0] (fun U => kIn dC dI g A f U)) (va_Qi (fun (r : Int32) (_ : Unit) => True) (fun (_ : Unit) t => Iv dC dI g A f t.heap) A) 0 0 A := by
  refine Met.ofW (cc := cX12_scripted) (maxL := 3) (ret := (some .int)) (by decide) rfl ?_
  intro p e s m args below meth c s₁ B hml hv
  obtain ⟨rfl, hI, hK, hE⟩ := hv
  have hx := B.exec
  have hb := B.bytes
  have hr := B.returns
  have hts := atoms_spec (ws := wq_c_X12_scripted) B.pre
  have hown : s.vm.findClass RX12 = some m.cls := findClass_of_methodNamed B.named
  have hlocks := B.notSynchronized
  have hS : va_S A s.heap s.heap [] := va_S.rf
  have hl := lv_entry ([.ref h0]) (n := 3) (Nat.le_of_ble_eq_true rfl)
  rw [lg_entry_eq]
  generalize (lg_sl ([.ref h0]) ++ List.replicate (3 - (lg_sl ([.ref h0])).length) Slot.unset).toArray = ls at hl ⊢
  have hl : lv_has ls 3 [(0, .ref h0)] := hl
  have i_1 := kw_12_4 hG i_h0
  have d_2 := rk_hd hc0_ok
  refine lv_iconst (v := 0) hx hb dX12_scripted_0 (by decide) ?_
  refine lv_istore_n (lv' := [(1, .int 0), (0, .ref h0)]) hx hb dX12_scripted_1 rfl hl (by decide) rfl (fun ls hl => ?_)
  refine lv_iconst (v := 0) hx hb dX12_scripted_2 (by decide) ?_
  refine lv_istore_n (lv' := [(2, .int 0), (1, .int 0), (0, .ref h0)]) hx hb dX12_scripted_3 rfl hl (by decide) rfl (fun ls hl => ?_)
  have K_4 : ∀ (nn : Nat) (y_3 : Nat) (y_4 : Int32) (H : Heap) (locs : List Loc) (ls : Array Slot), 12 - y_3 < nn → Iv dC dI g A f H → va_S A s.heap H locs → (y_3 ≤ 12) → lv_has ls 3 [(2, .int (nI y_3)), (1, .int y_4), (0, .ref h0)] → W p l e (headSpec wq_c_X12_scripted ({ frames := 1, cells := 0, slots := 0, locals := 20 } : Room)).room s m ([.ref h0].toArray) below meth c H locs 0 0 (MQ below (va_Qi (fun (r : Int32) (_ : Unit) => True) (fun (_ : Unit) t => Iv dC dI g A f t.heap) A) ([.ref h0].toArray) s 0 0 A) (F0 m 4 ls []) := by
    intro nn
    induction nn with
    | zero => intro y_3 y_4 H locs ls m_6; exact absurd m_6 (Nat.not_lt_zero _)
    | succ nn ih =>
      intro y_3 y_4 H locs ls m_6 hI hS t_5 hl
      refine lv_iload_n hx hb dX12_scripted_4 rfl (lv_at hl 0 rfl) ?_
      refine lv_i2l (v := lN (y_3)) hx hb dX12_scripted_5 (nI_l (by omega)) ?_
      refine lv_aload_n hx hb dX12_scripted_6 rfl (lv_at hl 2 rfl) ?_
      obtain ⟨x_8, x_9, x_10, x_11, x_12, x_13, x_14, x_15, x_16, x_17, x_18, x_19, x_20, x_21, k_7, b_22, b_23, b_24, b_25, b_26, b_27⟩ := op_12 hI i_h0
      refine k_get (ci := 12) (v := .ref (gr g h0 4)) (C := RX12) (T := TX12) (N := 27) hx hb hts (fun _ h0_ => List.mem_cons_of_mem _ (List.mem_append_right _ (List.mem_append_left _ h0_))) hown hK hI i_h0.1 k_7 rfl 4 (by decide) (hts (.fieldLink RX12 16 "DeadlineShareModel" "row" "[J") (List.mem_cons_of_mem _ (List.mem_append_left _ (List.mem_of_getElem? (i := 0) rfl)))) (fun _ h9 => h9) rfl dX12_scripted_7 ?_
      refine lv_iconst (v := 0) hx hb dX12_scripted_10 (by decide) ?_
      refine k_lald hx hb hK hI i_1.1 1 hc0 rfl (by unfold vp_in; decide) dX12_scripted_11 ?_
      refine k_topl (y := q 0) (congrArg q (show Int32.toNatClampNeg 0 = 0 by decide)) ?_
      refine W.lcmp hx hb dX12_scripted_12 ?_
      refine lv_if_ge (tgt := 47) hx hb dX12_scripted_13 (by decide) (fun c_30 => ?_) (fun c_30 => ?_)
      · have c_30 := lc_le rfl (lN_toInt (n := y_3) (by omega)) ((lg_cmp_ge _ _).mp c_30)
        refine lv_iload_n hx hb dX12_scripted_47 rfl (lv_at hl 1 rfl) ?_
        exact W.iret (v := y_4) hx hb hr (fun t ht hW => ⟨⟨y_4, (), rfl, trivial, k_ret ht hI⟩, hS.F ht⟩) hS.2.2 dX12_scripted_48
      · have c_30 := ln_le rfl (lN_toInt (n := y_3) (by omega)) (fun h9 => c_30 ((lg_cmp_ge _ _).mpr h9))
        refine lv_iload_n hx hb dX12_scripted_16 rfl (lv_at hl 1 rfl) ?_
        refine lv_aload_n hx hb dX12_scripted_17 rfl (lv_at hl 2 rfl) ?_
        refine k_get (ci := 12) (v := .ref (gr g h0 4)) (C := RX12) (T := TX12) (N := 27) hx hb hts (fun _ h0_ => List.mem_cons_of_mem _ (List.mem_append_right _ (List.mem_append_left _ h0_))) hown hK hI i_h0.1 k_7 rfl 4 (by decide) (hts (.fieldLink RX12 16 "DeadlineShareModel" "row" "[J") (List.mem_cons_of_mem _ (List.mem_append_left _ (List.mem_of_getElem? (i := 0) rfl)))) (fun _ h9 => h9) rfl dX12_scripted_18 ?_
        refine lv_iload_n hx hb dX12_scripted_21 rfl (lv_at hl 0 rfl) ?_
        refine va_calli (va_runS (As := [.int (nI y_3)]) (rest := [.ref (gr g h0 4), .int y_4]) ⟨hx, hb, hml, hown, hts⟩ (c_X12_at l dC dI g A hG f y_3) (va_cwS 1 hts (gi_S (fun w_ h0_ => ⟨List.mem_cons_of_mem _ (List.mem_append_right _ (List.mem_append_right _ (List.mem_append_left _ h0_))), (tb_c_X12_at w_ h0_).2⟩) (List.mem_cons_of_mem _ (List.mem_append_left _ (List.mem_of_getElem? (i := 1) rfl))) (List.mem_cons_of_mem _ (List.mem_append_left _ (List.mem_of_getElem? (i := 2) rfl))) (List.mem_cons_of_mem _ (List.mem_append_left _ (List.mem_of_getElem? (i := 3) rfl)))) rfl rfl rfl (by decide +kernel) ⟨Nat.le_of_ble_eq_true rfl, Nat.le_of_ble_eq_true rfl⟩) ⟨fun a U g mk q => ⟨q.1, q.2.calling rfl rfl⟩, fun U hU hW => ⟨rfl, kIn.of hI hK hE hS hU hW⟩⟩ rfl rfl hl.1 rfl (lv_room (Nat.le_of_ble_eq_true rfl)) dX12_scripted_22 ⟨Nat.le_of_ble_eq_true rfl, Nat.le_of_ble_eq_true rfl⟩) hS (fun q _ h => h) (fun q h => h) (fun r_34 u t H1 locs ht hvm w_33 hB hz1 hk1 hS => ?_)
        have hI : Iv dC dI g A f t.heap := hB
        rw [ht] at hI
        generalize H1 = H at hI hS ⊢
        refine W.widen (k := 0) (n := 0) (Nat.le_of_ble_eq_true rfl) (Nat.le_of_ble_eq_true rfl) ?_
        have w_33 : r_34 = nI (6 + 43 * y_3) := w_33
        refine k_topi (y := nI (6 + 43 * y_3)) w_33 ?_
        refine lv_bipush (v := 13) hx hb dX12_scripted_25 (by decide) ?_
        refine lv_iadd hx hb dX12_scripted_27 ?_
        refine k_topi (y := nI (6 + 43 * y_3 + 13)) ((nI_add (6 + 43 * y_3) 13).trans (congrArg nI (by omega))) ?_
        refine k_lald hx hb hK hI i_1.1 1 hc0 rfl (vp_in_nI (by omega) (by omega)) dX12_scripted_28 ?_
        refine k_topl (y := q (6 + 43 * y_3 + 13)) (congrArg q (nI_clamp (by omega))) ?_
        have d_35 := rk_13 hc0_ok (t := y_3) (by omega)
        refine lv_lconst (v := 0) hx hb dX12_scripted_29 (by decide) ?_
        refine W.lcmp hx hb dX12_scripted_30 ?_
        have J_39 : ∀ (y_36 : Int32) (H : Heap) (locs : List Loc) (ls : Array Slot), Iv dC dI g A f H → va_S A s.heap H locs → lv_has ls 3 [(2, .int (nI y_3)), (1, .int y_4), (0, .ref h0)] → W p l e (headSpec wq_c_X12_scripted ({ frames := 1, cells := 0, slots := 0, locals := 20 } : Room)).room s m ([.ref h0].toArray) below meth c H locs 0 0 (MQ below (va_Qi (fun (r : Int32) (_ : Unit) => True) (fun (_ : Unit) t => Iv dC dI g A f t.heap) A) ([.ref h0].toArray) s 0 0 A) (F0 m 39 ls [.int y_36, .int y_4]) := by
          intro y_36 H locs ls hI hS  hl
          refine lv_iadd hx hb dX12_scripted_39 ?_
          refine lv_topi (fun v_37 ev_37 => ?_)
          have tv_37 := k_ad y_4 y_36
          rw [← ev_37] at tv_37
          refine lv_istore_n (lv' := [(1, .int v_37), (2, .int (nI y_3)), (0, .ref h0)]) hx hb dX12_scripted_40 rfl hl (by decide) rfl (fun ls hl => ?_)
          refine lv_iinc (v := nI (y_3 + 1)) (lv' := [(2, .int (nI (y_3 + 1))), (1, .int v_37), (0, .ref h0)]) hx hb dX12_scripted_41 hl (k := 1) rfl (nI_1 _) (by decide) rfl (fun ls hl => ?_)
          refine lv_goto (tgt := 4) hx hb dX12_scripted_44 (by decide) ?_
          exact ih (y_3 + 1) v_37 _ _ _ (by omega) hI hS (by first | omega | decide) (lv_sub hl [0, 1, 2] rfl)
        refine lv_if_le (tgt := 38) hx hb dX12_scripted_31 (by decide) (fun c_38 => ?_) (fun c_38 => ?_)
        · have c_38 := lc_le rfl (by decide : Int64.toInt 0 = 0) ((lg_cmp_le _ _).mp c_38)
          refine lv_iconst (v := 0) hx hb dX12_scripted_38 (by decide) ?_
          exact J_39 0 _ _ _ hI hS  (lv_sub hl [0, 1, 2] rfl)
        · have c_38 := ln_le rfl (by decide : Int64.toInt 0 = 0) (fun h9 => c_38 ((lg_cmp_le _ _).mpr h9))
          refine lv_iconst (v := 1) hx hb dX12_scripted_34 (by decide) ?_
          refine lv_goto (tgt := 39) hx hb dX12_scripted_35 (by decide) ?_
          exact J_39 1 _ _ _ hI hS  (lv_sub hl [0, 1, 2] rfl)
  exact K_4 _ 0 0 _ _ _ (Nat.lt_succ_self _) hI hS (by first | omega | decide | (simp only [show Int32.toInt 0 = 0 from by decide]; omega)) (lv_sub hl [0, 1, 2] rfl)
theorem tw_905 : q_g (.code yX12_aheadOf cX12_aheadOf 4 (some .int)) := ⟨(List.mem_append_right _ (List.mem_of_getElem? (i := 1466) (by decide +kernel))), good_of_word (by decide +kernel)⟩
def ow_c_X12_aheadOf : List Cond := [.fieldLink RX12 16 "DeadlineShareModel" "row" "[J", .methodLink RX12 244 yX12_isEligible, .instanceMethod yX12_isEligible, .selects RX12 yX12_isEligible yX12_isEligible, .initialized RX12, .methodLink RX12 167 yX12_deadline, .instanceMethod yX12_deadline, .selects RX12 yX12_deadline yX12_deadline]
def wq_c_X12_aheadOf : List Cond := .code yX12_aheadOf cX12_aheadOf 4 (some .int) :: (ow_c_X12_aheadOf ++ (u_ws RX12 TX12 27 ++ (wq_c_X12_isEligible ++ (wq_c_X12_deadline ++ ([] : List Cond)))))
theorem tb_c_X12_aheadOf : ∀ w ∈ wq_c_X12_aheadOf, q_g w := by
  unfold wq_c_X12_aheadOf ow_c_X12_aheadOf
  exact q_cons tw_905 (q_app (q_cons tw_731 (q_cons tw_779 (q_cons tw_778 (q_cons tw_777 (q_cons tw_728 (q_cons tw_782 (q_cons tw_781 (q_cons tw_780 q_nil)))))))) (q_app tu_X12 (q_app tb_c_X12_isEligible (q_app tb_c_X12_deadline q_nil))))
set_option maxHeartbeats 4000000 in
set_option maxRecDepth 100000 in
theorem c_X12_aheadOf (l : Launch) (dC : Nat → ClassId) (dI : Nat → Nat → Nat) (g : kG) (A : Nat → Prop) (hG : kWf g) (f : Nat → va_E) (h0 : Nat) (p1 : Nat) (q : Nat → Int64) (i_h0 : ik g 12 h0) (hc0 : f (gr g h0 4) = .inl (gc g 1, 906, .inr (.inl q))) (hc0_ok : RowOK q) (ht : (p1 : Int) < (q 0).toInt) : Met l yX12_aheadOf wq_c_X12_aheadOf ({ frames := 4, cells := 0, slots := 0, locals := 85 } : Room) (va_Pc [.ref h0, .int (nI p1)] (fun U => kIn dC dI g A f U)) (va_Qi (fun (r : Int32) (_ : Unit) => True) (fun (_ : Unit) t => Iv dC dI g A f t.heap) A) 0 0 A := by
  refine Met.ofW (cc := cX12_aheadOf) (maxL := 4) (ret := (some .int)) (by decide) rfl ?_
  intro p e s m args below meth c s₁ B hml hv
  obtain ⟨rfl, hI, hK, hE⟩ := hv
  have hx := B.exec
  have hb := B.bytes
  have hr := B.returns
  have hts := atoms_spec (ws := wq_c_X12_aheadOf) B.pre
  have hown : s.vm.findClass RX12 = some m.cls := findClass_of_methodNamed B.named
  have hlocks := B.notSynchronized
  have hS : va_S A s.heap s.heap [] := va_S.rf
  have hl := lv_entry ([.ref h0, .int (nI p1)]) (n := 4) (Nat.le_of_ble_eq_true rfl)
  rw [lg_entry_eq]
  generalize (lg_sl ([.ref h0, .int (nI p1)]) ++ List.replicate (4 - (lg_sl ([.ref h0, .int (nI p1)])).length) Slot.unset).toArray = ls at hl ⊢
  have hl : lv_has ls 4 [(0, .ref h0), (1, .int (nI p1))] := hl
  have i_1 := kw_12_4 hG i_h0
  have d_2 := rk_hd hc0_ok
  refine lv_iconst (v := 0) hx hb dX12_aheadOf_0 (by decide) ?_
  refine lv_istore_n (lv' := [(2, .int 0), (0, .ref h0), (1, .int (nI p1))]) hx hb dX12_aheadOf_1 rfl hl (by decide) rfl (fun ls hl => ?_)
  refine lv_iconst (v := 0) hx hb dX12_aheadOf_2 (by decide) ?_
  refine lv_istore_n (lv' := [(3, .int 0), (2, .int 0), (0, .ref h0), (1, .int (nI p1))]) hx hb dX12_aheadOf_3 rfl hl (by decide) rfl (fun ls hl => ?_)
  have K_4 : ∀ (nn : Nat) (y_3 : Nat) (y_4 : Int32) (H : Heap) (locs : List Loc) (ls : Array Slot), 12 - y_3 < nn → Iv dC dI g A f H → va_S A s.heap H locs → (y_3 ≤ 12) → lv_has ls 4 [(3, .int (nI y_3)), (2, .int y_4), (0, .ref h0), (1, .int (nI p1))] → W p l e (headSpec wq_c_X12_aheadOf ({ frames := 4, cells := 0, slots := 0, locals := 85 } : Room)).room s m ([.ref h0, .int (nI p1)].toArray) below meth c H locs 0 0 (MQ below (va_Qi (fun (r : Int32) (_ : Unit) => True) (fun (_ : Unit) t => Iv dC dI g A f t.heap) A) ([.ref h0, .int (nI p1)].toArray) s 0 0 A) (F0 m 4 ls []) := by
    intro nn
    induction nn with
    | zero => intro y_3 y_4 H locs ls m_6; exact absurd m_6 (Nat.not_lt_zero _)
    | succ nn ih =>
      intro y_3 y_4 H locs ls m_6 hI hS t_5 hl
      refine lv_iload_n hx hb dX12_aheadOf_4 rfl (lv_at hl 0 rfl) ?_
      refine lv_i2l (v := lN (y_3)) hx hb dX12_aheadOf_5 (nI_l (by omega)) ?_
      refine lv_aload_n hx hb dX12_aheadOf_6 rfl (lv_at hl 2 rfl) ?_
      obtain ⟨x_8, x_9, x_10, x_11, x_12, x_13, x_14, x_15, x_16, x_17, x_18, x_19, x_20, x_21, k_7, b_22, b_23, b_24, b_25, b_26, b_27⟩ := op_12 hI i_h0
      refine k_get (ci := 12) (v := .ref (gr g h0 4)) (C := RX12) (T := TX12) (N := 27) hx hb hts (fun _ h0_ => List.mem_cons_of_mem _ (List.mem_append_right _ (List.mem_append_left _ h0_))) hown hK hI i_h0.1 k_7 rfl 4 (by decide) (hts (.fieldLink RX12 16 "DeadlineShareModel" "row" "[J") (List.mem_cons_of_mem _ (List.mem_append_left _ (List.mem_of_getElem? (i := 0) rfl)))) (fun _ h9 => h9) rfl dX12_aheadOf_7 ?_
      refine lv_iconst (v := 0) hx hb dX12_aheadOf_10 (by decide) ?_
      refine k_lald hx hb hK hI i_1.1 1 hc0 rfl (by unfold vp_in; decide) dX12_aheadOf_11 ?_
      refine k_topl (y := q 0) (congrArg q (show Int32.toNatClampNeg 0 = 0 by decide)) ?_
      refine W.lcmp hx hb dX12_aheadOf_12 ?_
      refine lv_if_ge (tgt := 76) hx hb dX12_aheadOf_13 (by decide) (fun c_30 => ?_) (fun c_30 => ?_)
      · have c_30 := lc_le rfl (lN_toInt (n := y_3) (by omega)) ((lg_cmp_ge _ _).mp c_30)
        refine lv_iload_n hx hb dX12_aheadOf_76 rfl (lv_at hl 1 rfl) ?_
        exact W.iret (v := y_4) hx hb hr (fun t ht hW => ⟨⟨y_4, (), rfl, trivial, k_ret ht hI⟩, hS.F ht⟩) hS.2.2 dX12_aheadOf_77
      · have c_30 := ln_le rfl (lN_toInt (n := y_3) (by omega)) (fun h9 => c_30 ((lg_cmp_ge _ _).mpr h9))
        refine lv_iload_n hx hb dX12_aheadOf_16 rfl (lv_at hl 1 rfl) ?_
        refine lv_iload_n hx hb dX12_aheadOf_17 rfl (lv_at hl 0 rfl) ?_
        refine lv_iload_n hx hb dX12_aheadOf_18 rfl (lv_at hl 3 rfl) ?_
        have J_68 : ∀ (y_31 : Int32) (H : Heap) (locs : List Loc) (ls : Array Slot), Iv dC dI g A f H → va_S A s.heap H locs → lv_has ls 4 [(3, .int (nI y_3)), (2, .int y_4), (0, .ref h0), (1, .int (nI p1))] → W p l e (headSpec wq_c_X12_aheadOf ({ frames := 4, cells := 0, slots := 0, locals := 85 } : Room)).room s m ([.ref h0, .int (nI p1)].toArray) below meth c H locs 0 0 (MQ below (va_Qi (fun (r : Int32) (_ : Unit) => True) (fun (_ : Unit) t => Iv dC dI g A f t.heap) A) ([.ref h0, .int (nI p1)].toArray) s 0 0 A) (F0 m 68 ls [.int y_31, .int y_4]) := by
          intro y_31 H locs ls hI hS  hl
          refine lv_iadd hx hb dX12_aheadOf_68 ?_
          refine lv_topi (fun v_32 ev_32 => ?_)
          have tv_32 := k_ad y_4 y_31
          rw [← ev_32] at tv_32
          refine lv_istore_n (lv' := [(2, .int v_32), (3, .int (nI y_3)), (0, .ref h0), (1, .int (nI p1))]) hx hb dX12_aheadOf_69 rfl hl (by decide) rfl (fun ls hl => ?_)
          refine lv_iinc (v := nI (y_3 + 1)) (lv' := [(3, .int (nI (y_3 + 1))), (2, .int v_32), (0, .ref h0), (1, .int (nI p1))]) hx hb dX12_aheadOf_70 hl (k := 1) rfl (nI_1 _) (by decide) rfl (fun ls hl => ?_)
          refine lv_goto (tgt := 4) hx hb dX12_aheadOf_73 (by decide) ?_
          exact ih (y_3 + 1) v_32 _ _ _ (by omega) hI hS (by first | omega | decide) (lv_sub hl [0, 1, 2, 3] rfl)
        have J_67 : ∀ (H : Heap) (locs : List Loc) (ls : Array Slot), Iv dC dI g A f H → va_S A s.heap H locs → lv_has ls 4 [(3, .int (nI y_3)), (2, .int y_4), (0, .ref h0), (1, .int (nI p1))] → W p l e (headSpec wq_c_X12_aheadOf ({ frames := 4, cells := 0, slots := 0, locals := 85 } : Room)).room s m ([.ref h0, .int (nI p1)].toArray) below meth c H locs 0 0 (MQ below (va_Qi (fun (r : Int32) (_ : Unit) => True) (fun (_ : Unit) t => Iv dC dI g A f t.heap) A) ([.ref h0, .int (nI p1)].toArray) s 0 0 A) (F0 m 67 ls [.int y_4]) := by
          intro H locs ls hI hS  hl
          refine lv_iconst (v := 0) hx hb dX12_aheadOf_67 (by decide) ?_
          exact J_68 0 _ _ _ hI hS  (lv_sub hl [0, 1, 2, 3] rfl)
        refine lv_icmp_eq (tgt := 67) hx hb dX12_aheadOf_19 (by decide) (fun c_33 => ?_) (fun c_33 => ?_)
        · have c_33 := kc_eq (nI_toInt (n := y_3) (by omega)) (nI_toInt (n := p1) (by omega)) c_33
          exact J_67  _ _ _ hI hS  (lv_sub hl [0, 1, 2, 3] rfl)
        · have c_33 := kn_eq (nI_toInt (n := y_3) (by omega)) (nI_toInt (n := p1) (by omega)) c_33
          refine lv_aload_n hx hb dX12_aheadOf_22 rfl (lv_at hl 2 rfl) ?_
          refine lv_iload_n hx hb dX12_aheadOf_23 rfl (lv_at hl 0 rfl) ?_
          refine va_calli (va_runV (As := [.int (nI y_3)]) (rest := [.int y_4]) ⟨hx, hb, hml, hown, hts⟩ (c_X12_isEligible l dC dI g A hG f h0 y_3 q i_h0 hc0 hc0_ok (by first | omega | decide | (simp only [k_c0, k_c1, k_cm1]; omega))) (cwV 1 hts (gi_V (fun w_ h0_ => ⟨List.mem_cons_of_mem _ (List.mem_append_right _ (List.mem_append_right _ (List.mem_append_left _ h0_))), (tb_c_X12_isEligible w_ h0_).2⟩) (List.mem_cons_of_mem _ (List.mem_append_left _ (List.mem_of_getElem? (i := 1) rfl))) (List.mem_cons_of_mem _ (List.mem_append_left _ (List.mem_of_getElem? (i := 2) rfl))) (List.mem_cons_of_mem _ (List.mem_append_left _ (List.mem_of_getElem? (i := 3) rfl))) (List.mem_cons_of_mem _ (List.mem_append_left _ (List.mem_of_getElem? (i := 4) rfl)))) rfl rfl rfl (by decide +kernel) ⟨Nat.le_of_ble_eq_true rfl, Nat.le_of_ble_eq_true rfl⟩) ⟨fun a U g mk q => ⟨q.1, q.2.calling rfl rfl⟩, k_recv hK hI i_h0.1 k_7 (ci := 12) rfl, fun U hU hW => ⟨rfl, kIn.of hI hK hE hS hU hW⟩⟩ rfl rfl hl.1 rfl (lv_room (Nat.le_of_ble_eq_true rfl)) dX12_aheadOf_24 ⟨Nat.le_of_ble_eq_true rfl, Nat.le_of_ble_eq_true rfl⟩) hS (fun q _ h => h) (fun q h => h) (fun r_35 u t H1 locs ht hvm w_34 hB hz1 hk1 hS => ?_)
          have hI : Iv dC dI g A f t.heap := hB
          rw [ht] at hI
          generalize H1 = H at hI hS ⊢
          refine W.widen (k := 0) (n := 0) (Nat.le_of_ble_eq_true rfl) (Nat.le_of_ble_eq_true rfl) ?_
          refine lv_if_eq (tgt := 67) hx hb dX12_aheadOf_27 (by decide) (fun c_36 => ?_) (fun c_36 => ?_)
          · have c_36 := kc_eq rfl (by decide : Int32.toInt 0 = 0) c_36
            exact J_67  _ _ _ hI hS  (lv_sub hl [0, 1, 2, 3] rfl)
          · have c_36 := kn_eq rfl (by decide : Int32.toInt 0 = 0) c_36
            refine lv_aload_n hx hb dX12_aheadOf_30 rfl (lv_at hl 2 rfl) ?_
            refine lv_iload_n hx hb dX12_aheadOf_31 rfl (lv_at hl 0 rfl) ?_
            refine va_calll (va_runV (As := [.int (nI y_3)]) (rest := [.int y_4]) ⟨hx, hb, hml, hown, hts⟩ (c_X12_deadline l dC dI g A hG f h0 y_3 q i_h0 hc0 hc0_ok (by first | omega | decide | (simp only [k_c0, k_c1, k_cm1]; omega))) (cwV 1 hts (gi_V (fun w_ h0_ => ⟨List.mem_cons_of_mem _ (List.mem_append_right _ (List.mem_append_right _ (List.mem_append_right _ (List.mem_append_left _ h0_)))), (tb_c_X12_deadline w_ h0_).2⟩) (List.mem_cons_of_mem _ (List.mem_append_left _ (List.mem_of_getElem? (i := 5) rfl))) (List.mem_cons_of_mem _ (List.mem_append_left _ (List.mem_of_getElem? (i := 6) rfl))) (List.mem_cons_of_mem _ (List.mem_append_left _ (List.mem_of_getElem? (i := 7) rfl))) (List.mem_cons_of_mem _ (List.mem_append_left _ (List.mem_of_getElem? (i := 4) rfl)))) rfl rfl rfl (by decide +kernel) ⟨Nat.le_of_ble_eq_true rfl, Nat.le_of_ble_eq_true rfl⟩) ⟨fun a U g mk q => ⟨q.1, q.2.calling rfl rfl⟩, k_recv hK hI i_h0.1 k_7 (ci := 12) rfl, fun U hU hW => ⟨rfl, kIn.of hI hK hE hS hU hW⟩⟩ rfl rfl hl.1 rfl (lv_room (Nat.le_of_ble_eq_true rfl)) dX12_aheadOf_32 ⟨Nat.le_of_ble_eq_true rfl, Nat.le_of_ble_eq_true rfl⟩) hS (fun q _ h => h) (fun q h => h) (fun r_38 u t H1 locs ht hvm w_37 hB hz1 hk1 hS => ?_)
            have hI : Iv dC dI g A f t.heap := hB
            rw [ht] at hI
            generalize H1 = H at hI hS ⊢
            refine W.widen (k := 0) (n := 0) (Nat.le_of_ble_eq_true rfl) (Nat.le_of_ble_eq_true rfl) ?_
            refine lv_aload_n hx hb dX12_aheadOf_35 rfl (lv_at hl 2 rfl) ?_
            refine lv_iload_n hx hb dX12_aheadOf_36 rfl (lv_at hl 3 rfl) ?_
            refine va_calll (va_runV (As := [.int (nI p1)]) (rest := [.long r_38, .int y_4]) ⟨hx, hb, hml, hown, hts⟩ (c_X12_deadline l dC dI g A hG f h0 p1 q i_h0 hc0 hc0_ok (by first | omega | decide | (simp only [k_c0, k_c1, k_cm1]; omega))) (cwV 1 hts (gi_V (fun w_ h0_ => ⟨List.mem_cons_of_mem _ (List.mem_append_right _ (List.mem_append_right _ (List.mem_append_right _ (List.mem_append_left _ h0_)))), (tb_c_X12_deadline w_ h0_).2⟩) (List.mem_cons_of_mem _ (List.mem_append_left _ (List.mem_of_getElem? (i := 5) rfl))) (List.mem_cons_of_mem _ (List.mem_append_left _ (List.mem_of_getElem? (i := 6) rfl))) (List.mem_cons_of_mem _ (List.mem_append_left _ (List.mem_of_getElem? (i := 7) rfl))) (List.mem_cons_of_mem _ (List.mem_append_left _ (List.mem_of_getElem? (i := 4) rfl)))) rfl rfl rfl (by decide +kernel) ⟨Nat.le_of_ble_eq_true rfl, Nat.le_of_ble_eq_true rfl⟩) ⟨fun a U g mk q => ⟨q.1, q.2.calling rfl rfl⟩, k_recv hK hI i_h0.1 k_7 (ci := 12) rfl, fun U hU hW => ⟨rfl, kIn.of hI hK hE hS hU hW⟩⟩ rfl rfl hl.1 rfl (lv_room (Nat.le_of_ble_eq_true rfl)) dX12_aheadOf_37 ⟨Nat.le_of_ble_eq_true rfl, Nat.le_of_ble_eq_true rfl⟩) hS (fun q _ h => h) (fun q h => h) (fun r_40 u t H1 locs ht hvm w_39 hB hz1 hk1 hS => ?_)
            have hI : Iv dC dI g A f t.heap := hB
            rw [ht] at hI
            generalize H1 = H at hI hS ⊢
            refine W.widen (k := 0) (n := 0) (Nat.le_of_ble_eq_true rfl) (Nat.le_of_ble_eq_true rfl) ?_
            refine W.lcmp hx hb dX12_aheadOf_40 ?_
            have J_63 : ∀ (H : Heap) (locs : List Loc) (ls : Array Slot), Iv dC dI g A f H → va_S A s.heap H locs → lv_has ls 4 [(3, .int (nI y_3)), (2, .int y_4), (0, .ref h0), (1, .int (nI p1))] → W p l e (headSpec wq_c_X12_aheadOf ({ frames := 4, cells := 0, slots := 0, locals := 85 } : Room)).room s m ([.ref h0, .int (nI p1)].toArray) below meth c H locs 0 0 (MQ below (va_Qi (fun (r : Int32) (_ : Unit) => True) (fun (_ : Unit) t => Iv dC dI g A f t.heap) A) ([.ref h0, .int (nI p1)].toArray) s 0 0 A) (F0 m 63 ls [.int y_4]) := by
              intro H locs ls hI hS  hl
              refine lv_iconst (v := 1) hx hb dX12_aheadOf_63 (by decide) ?_
              refine lv_goto (tgt := 68) hx hb dX12_aheadOf_64 (by decide) ?_
              exact J_68 1 _ _ _ hI hS  (lv_sub hl [0, 1, 2, 3] rfl)
            refine lv_if_lt (tgt := 63) hx hb dX12_aheadOf_41 (by decide) (fun c_41 => ?_) (fun c_41 => ?_)
            · have c_41 := lc_lt rfl rfl ((lg_cmp_lt _ _).mp c_41)
              exact J_63  _ _ _ hI hS  (lv_sub hl [0, 1, 2, 3] rfl)
            · have c_41 := ln_lt rfl rfl (fun h9 => c_41 ((lg_cmp_lt _ _).mpr h9))
              refine lv_aload_n hx hb dX12_aheadOf_44 rfl (lv_at hl 2 rfl) ?_
              refine lv_iload_n hx hb dX12_aheadOf_45 rfl (lv_at hl 0 rfl) ?_
              refine va_calll (va_runV (As := [.int (nI y_3)]) (rest := [.int y_4]) ⟨hx, hb, hml, hown, hts⟩ (c_X12_deadline l dC dI g A hG f h0 y_3 q i_h0 hc0 hc0_ok (by first | omega | decide | (simp only [k_c0, k_c1, k_cm1]; omega))) (cwV 1 hts (gi_V (fun w_ h0_ => ⟨List.mem_cons_of_mem _ (List.mem_append_right _ (List.mem_append_right _ (List.mem_append_right _ (List.mem_append_left _ h0_)))), (tb_c_X12_deadline w_ h0_).2⟩) (List.mem_cons_of_mem _ (List.mem_append_left _ (List.mem_of_getElem? (i := 5) rfl))) (List.mem_cons_of_mem _ (List.mem_append_left _ (List.mem_of_getElem? (i := 6) rfl))) (List.mem_cons_of_mem _ (List.mem_append_left _ (List.mem_of_getElem? (i := 7) rfl))) (List.mem_cons_of_mem _ (List.mem_append_left _ (List.mem_of_getElem? (i := 4) rfl)))) rfl rfl rfl (by decide +kernel) ⟨Nat.le_of_ble_eq_true rfl, Nat.le_of_ble_eq_true rfl⟩) ⟨fun a U g mk q => ⟨q.1, q.2.calling rfl rfl⟩, k_recv hK hI i_h0.1 k_7 (ci := 12) rfl, fun U hU hW => ⟨rfl, kIn.of hI hK hE hS hU hW⟩⟩ rfl rfl hl.1 rfl (lv_room (Nat.le_of_ble_eq_true rfl)) dX12_aheadOf_46 ⟨Nat.le_of_ble_eq_true rfl, Nat.le_of_ble_eq_true rfl⟩) hS (fun q _ h => h) (fun q h => h) (fun r_43 u t H1 locs ht hvm w_42 hB hz1 hk1 hS => ?_)
              have hI : Iv dC dI g A f t.heap := hB
              rw [ht] at hI
              generalize H1 = H at hI hS ⊢
              refine W.widen (k := 0) (n := 0) (Nat.le_of_ble_eq_true rfl) (Nat.le_of_ble_eq_true rfl) ?_
              refine lv_aload_n hx hb dX12_aheadOf_49 rfl (lv_at hl 2 rfl) ?_
              refine lv_iload_n hx hb dX12_aheadOf_50 rfl (lv_at hl 3 rfl) ?_
              refine va_calll (va_runV (As := [.int (nI p1)]) (rest := [.long r_43, .int y_4]) ⟨hx, hb, hml, hown, hts⟩ (c_X12_deadline l dC dI g A hG f h0 p1 q i_h0 hc0 hc0_ok (by first | omega | decide | (simp only [k_c0, k_c1, k_cm1]; omega))) (cwV 1 hts (gi_V (fun w_ h0_ => ⟨List.mem_cons_of_mem _ (List.mem_append_right _ (List.mem_append_right _ (List.mem_append_right _ (List.mem_append_left _ h0_)))), (tb_c_X12_deadline w_ h0_).2⟩) (List.mem_cons_of_mem _ (List.mem_append_left _ (List.mem_of_getElem? (i := 5) rfl))) (List.mem_cons_of_mem _ (List.mem_append_left _ (List.mem_of_getElem? (i := 6) rfl))) (List.mem_cons_of_mem _ (List.mem_append_left _ (List.mem_of_getElem? (i := 7) rfl))) (List.mem_cons_of_mem _ (List.mem_append_left _ (List.mem_of_getElem? (i := 4) rfl)))) rfl rfl rfl (by decide +kernel) ⟨Nat.le_of_ble_eq_true rfl, Nat.le_of_ble_eq_true rfl⟩) ⟨fun a U g mk q => ⟨q.1, q.2.calling rfl rfl⟩, k_recv hK hI i_h0.1 k_7 (ci := 12) rfl, fun U hU hW => ⟨rfl, kIn.of hI hK hE hS hU hW⟩⟩ rfl rfl hl.1 rfl (lv_room (Nat.le_of_ble_eq_true rfl)) dX12_aheadOf_51 ⟨Nat.le_of_ble_eq_true rfl, Nat.le_of_ble_eq_true rfl⟩) hS (fun q _ h => h) (fun q h => h) (fun r_45 u t H1 locs ht hvm w_44 hB hz1 hk1 hS => ?_)
              have hI : Iv dC dI g A f t.heap := hB
              rw [ht] at hI
              generalize H1 = H at hI hS ⊢
              refine W.widen (k := 0) (n := 0) (Nat.le_of_ble_eq_true rfl) (Nat.le_of_ble_eq_true rfl) ?_
              refine W.lcmp hx hb dX12_aheadOf_54 ?_
              refine lv_if_ne (tgt := 67) hx hb dX12_aheadOf_55 (by decide) (fun c_46 => ?_) (fun c_46 => ?_)
              · have c_46 := ln_eq rfl rfl (fun h9 => c_46 ((lg_cmp_eq _ _).mpr h9))
                exact J_67  _ _ _ hI hS  (lv_sub hl [0, 1, 2, 3] rfl)
              · have c_46 := lc_eq rfl rfl ((lg_cmp_eq _ _).mp c_46)
                refine lv_iload_n hx hb dX12_aheadOf_58 rfl (lv_at hl 0 rfl) ?_
                refine lv_iload_n hx hb dX12_aheadOf_59 rfl (lv_at hl 3 rfl) ?_
                refine lv_icmp_ge (tgt := 67) hx hb dX12_aheadOf_60 (by decide) (fun c_47 => ?_) (fun c_47 => ?_)
                · have c_47 := kc_le (nI_toInt (n := p1) (by omega)) (nI_toInt (n := y_3) (by omega)) c_47
                  exact J_67  _ _ _ hI hS  (lv_sub hl [0, 1, 2, 3] rfl)
                · have c_47 := kn_le (nI_toInt (n := p1) (by omega)) (nI_toInt (n := y_3) (by omega)) c_47
                  exact J_63  _ _ _ hI hS  (lv_sub hl [0, 1, 2, 3] rfl)
  exact K_4 _ 0 0 _ _ _ (Nat.lt_succ_self _) hI hS (by first | omega | decide | (simp only [show Int32.toInt 0 = 0 from by decide]; omega)) (lv_sub hl [0, 1, 2, 3] rfl)
theorem tw_906 : q_g (.fieldLink RX12 325 "DeadlineShareModel" "least1" "J") := ⟨(List.mem_append_right _ (List.mem_of_getElem? (i := 1123) (by decide +kernel))), good_of_word (by decide +kernel)⟩
theorem tw_907 : q_g (.fieldLink RX12 322 "DeadlineShareModel" "most1" "J") := ⟨(List.mem_append_right _ (List.mem_of_getElem? (i := 1122) (by decide +kernel))), good_of_word (by decide +kernel)⟩
theorem tw_908 : q_g (.constantLong RX12 320 (100)) := ⟨(List.mem_append_right _ (List.mem_of_getElem? (i := 1537) (by decide +kernel))), good_of_word (by decide +kernel)⟩
theorem tw_909 : q_g (.code yX12_lookAtLags cX12_lookAtLags 4 none) := ⟨(List.mem_append_right _ (List.mem_of_getElem? (i := 1536) (by decide +kernel))), good_of_word (by decide +kernel)⟩
def ow_c_X12_lookAtLags : List Cond := [.fieldLink RX12 16 "DeadlineShareModel" "row" "[J", .methodLink RX12 90 yX12_isOn, .instanceMethod yX12_isOn, .selects RX12 yX12_isOn yX12_isOn, .initialized RX12, .constantLong RX12 320 (100), .methodLink RX12 119 yX12_lag, .instanceMethod yX12_lag, .selects RX12 yX12_lag yX12_lag, .methodLink RX12 105 yX12_heavy, .instanceMethod yX12_heavy, .selects RX12 yX12_heavy yX12_heavy, .constantLong RX12 108 (5354228880), .methodLink RX12 115 yX12_down, .static yX12_down, .fieldLink RX12 322 "DeadlineShareModel" "most1" "J", .fieldLink RX12 325 "DeadlineShareModel" "least1" "J"]
def wq_c_X12_lookAtLags : List Cond := .code yX12_lookAtLags cX12_lookAtLags 4 none :: (ow_c_X12_lookAtLags ++ (u_ws RX12 TX12 27 ++ (wq_c_X12_isOn ++ (wq_c_X12_lag ++ (wq_c_X12_heavy ++ (wq_c_X12_down ++ ([] : List Cond)))))))
theorem tb_c_X12_lookAtLags : ∀ w ∈ wq_c_X12_lookAtLags, q_g w := by
  unfold wq_c_X12_lookAtLags ow_c_X12_lookAtLags
  exact q_cons tw_909 (q_app (q_cons tw_731 (q_cons tw_744 (q_cons tw_743 (q_cons tw_742 (q_cons tw_728 (q_cons tw_908 (q_cons tw_772 (q_cons tw_771 (q_cons tw_770 (q_cons tw_752 (q_cons tw_751 (q_cons tw_750 (q_cons tw_757 (q_cons tw_765 (q_cons tw_764 (q_cons tw_907 (q_cons tw_906 q_nil))))))))))))))))) (q_app tu_X12 (q_app tb_c_X12_isOn (q_app tb_c_X12_lag (q_app tb_c_X12_heavy (q_app tb_c_X12_down q_nil))))))
set_option maxHeartbeats 4000000 in
set_option maxRecDepth 100000 in
theorem c_X12_lookAtLags (l : Launch) (dC : Nat → ClassId) (dI : Nat → Nat → Nat) (g : kG) (A : Nat → Prop) (hG : kWf g) (f : Nat → va_E) (h0 : Nat) (z0 : Int32) (z1 : Int32) (z10 : Int32) (z12 : Int32) (z13 : Int32) (z14 : Int32) (z15 : Int32) (z16 : Int64) (z17 : Int32) (z18 : Int32) (z23 : Int32) (z24 : Int64) (z25 : Int64) (z26 : Int64) (q : Nat → Int64) (i_h0 : ik g 12 h0) (hc0 : f h0 = .inr (12, [.int z0, .int z1, .ref (gr g h0 2), .ref (gr g h0 3), .ref (gr g h0 4), .ref (gr g h0 5), .ref (gr g h0 6), .ref (gr g h0 7), .ref (gr g h0 8), .ref (gr g h0 9), .int z10, .ref (gr g h0 11), .int z12, .int z13, .int z14, .int z15, .long z16, .int z17, .int z18, .ref (gr g h0 19), .ref (gr g h0 20), .ref (gr g h0 21), .ref (gr g h0 22), .int z23, .long z24, .long z25, .long z26])) (hc0_10 : 0 ≤ z10.toInt ∧ z10.toInt ≤ 10) (hc0_12 : 0 ≤ z12.toInt ∧ z12.toInt ≤ 200) (hc0_23 : 0 ≤ z23.toInt ∧ z23.toInt ≤ 8) (hc1 : f (gr g h0 4) = .inl (gc g 1, 906, .inr (.inl q))) (hc1_ok : RowOK q) : Met l yX12_lookAtLags wq_c_X12_lookAtLags ({ frames := 4, cells := 0, slots := 0, locals := 85 } : Room) (va_Pc [.ref h0] (fun U => kIn dC dI g A f U)) (va_Qv (fun (_ : Unit) => True) (fun (_ : Unit) t => ∃ f1 : Nat → va_E, Iv dC dI g A f1 t.heap ∧ Kp g [12] f f1 ∧ ∃ (w25 : Int64) (w26 : Int64), (f1 h0 = .inr (12, [.int z0, .int z1, .ref (gr g h0 2), .ref (gr g h0 3), .ref (gr g h0 4), .ref (gr g h0 5), .ref (gr g h0 6), .ref (gr g h0 7), .ref (gr g h0 8), .ref (gr g h0 9), .int z10, .ref (gr g h0 11), .int z12, .int z13, .int z14, .int z15, .long z16, .int z17, .int z18, .ref (gr g h0 19), .ref (gr g h0 20), .ref (gr g h0 21), .ref (gr g h0 22), .int z23, .long z24, .long w25, .long w26]))) A) 0 0 A := by
  refine Met.ofW (cc := cX12_lookAtLags) (maxL := 4) (ret := none) (by decide) rfl ?_
  intro p e s m args below meth c s₁ B hml hv
  obtain ⟨rfl, hI, hK, hE⟩ := hv
  have hx := B.exec
  have hb := B.bytes
  have hr := B.returns
  have hts := atoms_spec (ws := wq_c_X12_lookAtLags) B.pre
  have hown : s.vm.findClass RX12 = some m.cls := findClass_of_methodNamed B.named
  have hlocks := B.notSynchronized
  have hS : va_S A s.heap s.heap [] := va_S.rf
  have hk0 : Kp g [12] f f := Kp.rf
  have hl := lv_entry ([.ref h0]) (n := 4) (Nat.le_of_ble_eq_true rfl)
  rw [lg_entry_eq]
  generalize (lg_sl ([.ref h0]) ++ List.replicate (4 - (lg_sl ([.ref h0])).length) Slot.unset).toArray = ls at hl ⊢
  have hl : lv_has ls 4 [(0, .ref h0)] := hl
  have i_1 := kw_12_4 hG i_h0
  have d_2 := rk_hd hc1_ok
  refine lv_iconst (v := 0) hx hb dX12_lookAtLags_0 (by decide) ?_
  refine lv_istore_n (lv' := [(1, .int 0), (0, .ref h0)]) hx hb dX12_lookAtLags_1 rfl hl (by decide) rfl (fun ls hl => ?_)
  have K_2 : ∀ (nn : Nat) (y_3 : Nat) (y_5 : Int64) (y_6 : Int64) (f_4 : Nat → va_E) (H : Heap) (locs : List Loc) (ls : Array Slot), 12 - y_3 < nn → Iv dC dI g A f_4 H → va_S A s.heap H locs → f_4 h0 = .inr (12, [.int z0, .int z1, .ref (gr g h0 2), .ref (gr g h0 3), .ref (gr g h0 4), .ref (gr g h0 5), .ref (gr g h0 6), .ref (gr g h0 7), .ref (gr g h0 8), .ref (gr g h0 9), .int z10, .ref (gr g h0 11), .int z12, .int z13, .int z14, .int z15, .long z16, .int z17, .int z18, .ref (gr g h0 19), .ref (gr g h0 20), .ref (gr g h0 21), .ref (gr g h0 22), .int z23, .long z24, .long y_5, .long y_6]) → f_4 (gr g h0 4) = .inl (gc g 1, 906, .inr (.inl q)) → Kp g [12] f f_4 → (y_3 ≤ 12) → lv_has ls 4 [(1, .int (nI y_3)), (0, .ref h0)] → W p l e (headSpec wq_c_X12_lookAtLags ({ frames := 4, cells := 0, slots := 0, locals := 85 } : Room)).room s m ([.ref h0].toArray) below meth c H locs 0 0 (MQ below (va_Qv (fun (_ : Unit) => True) (fun (_ : Unit) t => ∃ f1 : Nat → va_E, Iv dC dI g A f1 t.heap ∧ Kp g [12] f f1 ∧ ∃ (w25 : Int64) (w26 : Int64), (f1 h0 = .inr (12, [.int z0, .int z1, .ref (gr g h0 2), .ref (gr g h0 3), .ref (gr g h0 4), .ref (gr g h0 5), .ref (gr g h0 6), .ref (gr g h0 7), .ref (gr g h0 8), .ref (gr g h0 9), .int z10, .ref (gr g h0 11), .int z12, .int z13, .int z14, .int z15, .long z16, .int z17, .int z18, .ref (gr g h0 19), .ref (gr g h0 20), .ref (gr g h0 21), .ref (gr g h0 22), .int z23, .long z24, .long w25, .long w26]))) A) ([.ref h0].toArray) s 0 0 A) (F0 m 2 ls []) := by
    intro nn
    induction nn with
    | zero => intro y_3 y_5 y_6 f_4 H locs ls m_11; exact absurd m_11 (Nat.not_lt_zero _)
    | succ nn ih =>
      intro y_3 y_5 y_6 f_4 H locs ls m_11 hI hS k_7 k_8 kp_9 t_10 hl
      refine lv_iload_n hx hb dX12_lookAtLags_2 rfl (lv_at hl 0 rfl) ?_
      refine lv_i2l (v := lN (y_3)) hx hb dX12_lookAtLags_3 (nI_l (by omega)) ?_
      refine lv_aload_n hx hb dX12_lookAtLags_4 rfl (lv_at hl 1 rfl) ?_
      refine k_get (ci := 12) (v := .ref (gr g h0 4)) (C := RX12) (T := TX12) (N := 27) hx hb hts (fun _ h0_ => List.mem_cons_of_mem _ (List.mem_append_right _ (List.mem_append_left _ h0_))) hown hK hI i_h0.1 k_7 rfl 4 (by decide) (hts (.fieldLink RX12 16 "DeadlineShareModel" "row" "[J") (List.mem_cons_of_mem _ (List.mem_append_left _ (List.mem_of_getElem? (i := 0) rfl)))) (fun _ h9 => h9) rfl dX12_lookAtLags_5 ?_
      refine lv_iconst (v := 0) hx hb dX12_lookAtLags_8 (by decide) ?_
      refine k_lald hx hb hK hI i_1.1 1 k_8 rfl (by unfold vp_in; decide) dX12_lookAtLags_9 ?_
      refine k_topl (y := q 0) (congrArg q (show Int32.toNatClampNeg 0 = 0 by decide)) ?_
      refine W.lcmp hx hb dX12_lookAtLags_10 ?_
      refine lv_if_ge (tgt := 91) hx hb dX12_lookAtLags_11 (by decide) (fun c_14 => ?_) (fun c_14 => ?_)
      · have c_14 := lc_le rfl (lN_toInt (n := y_3) (by omega)) ((lg_cmp_ge _ _).mp c_14)
        exact W.vret hx hb hr (fun t ht hW => ⟨⟨(), rfl, trivial, ⟨f_4, k_ret ht hI, kp_9, y_5, y_6, k_7⟩⟩, hS.F ht⟩) hS.2.2 dX12_lookAtLags_91
      · have c_14 := ln_le rfl (lN_toInt (n := y_3) (by omega)) (fun h9 => c_14 ((lg_cmp_ge _ _).mpr h9))
        refine lv_aload_n hx hb dX12_lookAtLags_14 rfl (lv_at hl 1 rfl) ?_
        refine lv_iload_n hx hb dX12_lookAtLags_15 rfl (lv_at hl 0 rfl) ?_
        refine va_calli (va_runV (As := [.int (nI y_3)]) (rest := []) ⟨hx, hb, hml, hown, hts⟩ (c_X12_isOn l dC dI g A hG f_4 h0 y_3 q i_h0 k_8 hc1_ok (by first | omega | decide | (simp only [k_c0, k_c1, k_cm1]; omega))) (cwV 1 hts (gi_V (fun w_ h0_ => ⟨List.mem_cons_of_mem _ (List.mem_append_right _ (List.mem_append_right _ (List.mem_append_left _ h0_))), (tb_c_X12_isOn w_ h0_).2⟩) (List.mem_cons_of_mem _ (List.mem_append_left _ (List.mem_of_getElem? (i := 1) rfl))) (List.mem_cons_of_mem _ (List.mem_append_left _ (List.mem_of_getElem? (i := 2) rfl))) (List.mem_cons_of_mem _ (List.mem_append_left _ (List.mem_of_getElem? (i := 3) rfl))) (List.mem_cons_of_mem _ (List.mem_append_left _ (List.mem_of_getElem? (i := 4) rfl)))) rfl rfl rfl (by decide +kernel) ⟨Nat.le_of_ble_eq_true rfl, Nat.le_of_ble_eq_true rfl⟩) ⟨fun a U g mk q => ⟨q.1, q.2.calling rfl rfl⟩, k_recv hK hI i_h0.1 k_7 (ci := 12) rfl, fun U hU hW => ⟨rfl, kIn.of hI hK hE hS hU hW⟩⟩ rfl rfl hl.1 rfl (lv_room (Nat.le_of_ble_eq_true rfl)) dX12_lookAtLags_16 ⟨Nat.le_of_ble_eq_true rfl, Nat.le_of_ble_eq_true rfl⟩) hS (fun q _ h => h) (fun q h => h) (fun r_16 u t H1 locs ht hvm w_15 hB hz1 hk1 hS => ?_)
        have hI : Iv dC dI g A f_4 t.heap := hB
        rw [ht] at hI
        generalize H1 = H at hI hS ⊢
        refine W.widen (k := 0) (n := 0) (Nat.le_of_ble_eq_true rfl) (Nat.le_of_ble_eq_true rfl) ?_
        have w_15 : (r_16.toInt = 0 ∧ (q (6 + 43 * y_3 + 2)).toInt ≠ 1) ∨ (r_16.toInt = 1 ∧ (q (6 + 43 * y_3 + 2)).toInt = 1) := w_15
        have J_85 : ∀ (y_18 : Int64) (y_19 : Int64) (f_17 : Nat → va_E) (H : Heap) (locs : List Loc) (ls : Array Slot), Iv dC dI g A f_17 H → va_S A s.heap H locs → f_17 h0 = .inr (12, [.int z0, .int z1, .ref (gr g h0 2), .ref (gr g h0 3), .ref (gr g h0 4), .ref (gr g h0 5), .ref (gr g h0 6), .ref (gr g h0 7), .ref (gr g h0 8), .ref (gr g h0 9), .int z10, .ref (gr g h0 11), .int z12, .int z13, .int z14, .int z15, .long z16, .int z17, .int z18, .ref (gr g h0 19), .ref (gr g h0 20), .ref (gr g h0 21), .ref (gr g h0 22), .int z23, .long z24, .long y_18, .long y_19]) → f_17 (gr g h0 4) = .inl (gc g 1, 906, .inr (.inl q)) → Kp g [12] f f_17 → lv_has ls 4 [(1, .int (nI y_3)), (0, .ref h0)] → W p l e (headSpec wq_c_X12_lookAtLags ({ frames := 4, cells := 0, slots := 0, locals := 85 } : Room)).room s m ([.ref h0].toArray) below meth c H locs 0 0 (MQ below (va_Qv (fun (_ : Unit) => True) (fun (_ : Unit) t => ∃ f1 : Nat → va_E, Iv dC dI g A f1 t.heap ∧ Kp g [12] f f1 ∧ ∃ (w25 : Int64) (w26 : Int64), (f1 h0 = .inr (12, [.int z0, .int z1, .ref (gr g h0 2), .ref (gr g h0 3), .ref (gr g h0 4), .ref (gr g h0 5), .ref (gr g h0 6), .ref (gr g h0 7), .ref (gr g h0 8), .ref (gr g h0 9), .int z10, .ref (gr g h0 11), .int z12, .int z13, .int z14, .int z15, .long z16, .int z17, .int z18, .ref (gr g h0 19), .ref (gr g h0 20), .ref (gr g h0 21), .ref (gr g h0 22), .int z23, .long z24, .long w25, .long w26]))) A) ([.ref h0].toArray) s 0 0 A) (F0 m 85 ls []) := by
          intro y_18 y_19 f_17 H locs ls hI hS k_20 k_21 kp_22 hl
          refine lv_iinc (v := nI (y_3 + 1)) (lv' := [(1, .int (nI (y_3 + 1))), (0, .ref h0)]) hx hb dX12_lookAtLags_85 hl (k := 0) rfl (nI_1 _) (by decide) rfl (fun ls hl => ?_)
          refine lv_goto (tgt := 2) hx hb dX12_lookAtLags_88 (by decide) ?_
          exact ih (y_3 + 1) y_18 y_19 f_17 _ _ _ (by omega) hI hS k_20 k_21 kp_22 (by first | omega | decide) (lv_sub hl [0, 1] rfl)
        refine lv_if_eq (tgt := 85) hx hb dX12_lookAtLags_19 (by decide) (fun c_23 => ?_) (fun c_23 => ?_)
        · have c_23 := kc_eq rfl (by decide : Int32.toInt 0 = 0) c_23
          exact J_85 y_5 y_6 f_4 _ _ _ hI hS k_7 k_8 kp_9 (lv_sub hl [0, 1] rfl)
        · have c_23 := kn_eq rfl (by decide : Int32.toInt 0 = 0) c_23
          refine lv_ldc2 hx hb hown (hts (.constantLong RX12 320 (100)) (List.mem_cons_of_mem _ (List.mem_append_left _ (List.mem_of_getElem? (i := 5) rfl)))) dX12_lookAtLags_22 ?_
          refine lv_aload_n hx hb dX12_lookAtLags_25 rfl (lv_at hl 1 rfl) ?_
          refine lv_iload_n hx hb dX12_lookAtLags_26 rfl (lv_at hl 0 rfl) ?_
          refine va_calll (va_runV (As := [.int (nI y_3)]) (rest := [.long 100]) ⟨hx, hb, hml, hown, hts⟩ (c_X12_lag l dC dI g A hG f_4 h0 y_3 q i_h0 k_8 hc1_ok (by first | omega | decide | (simp only [k_c0, k_c1, k_cm1]; omega))) (cwV 1 hts (gi_V (fun w_ h0_ => ⟨List.mem_cons_of_mem _ (List.mem_append_right _ (List.mem_append_right _ (List.mem_append_right _ (List.mem_append_left _ h0_)))), (tb_c_X12_lag w_ h0_).2⟩) (List.mem_cons_of_mem _ (List.mem_append_left _ (List.mem_of_getElem? (i := 6) rfl))) (List.mem_cons_of_mem _ (List.mem_append_left _ (List.mem_of_getElem? (i := 7) rfl))) (List.mem_cons_of_mem _ (List.mem_append_left _ (List.mem_of_getElem? (i := 8) rfl))) (List.mem_cons_of_mem _ (List.mem_append_left _ (List.mem_of_getElem? (i := 4) rfl)))) rfl rfl rfl (by decide +kernel) ⟨Nat.le_of_ble_eq_true rfl, Nat.le_of_ble_eq_true rfl⟩) ⟨fun a U g mk q => ⟨q.1, q.2.calling rfl rfl⟩, k_recv hK hI i_h0.1 k_7 (ci := 12) rfl, fun U hU hW => ⟨rfl, kIn.of hI hK hE hS hU hW⟩⟩ rfl rfl hl.1 rfl (lv_room (Nat.le_of_ble_eq_true rfl)) dX12_lookAtLags_27 ⟨Nat.le_of_ble_eq_true rfl, Nat.le_of_ble_eq_true rfl⟩) hS (fun q _ h => h) (fun q h => h) (fun r_25 u t H1 locs ht hvm w_24 hB hz1 hk1 hS => ?_)
          have hI : Iv dC dI g A f_4 t.heap := hB
          rw [ht] at hI
          generalize H1 = H at hI hS ⊢
          refine W.widen (k := 0) (n := 0) (Nat.le_of_ble_eq_true rfl) (Nat.le_of_ble_eq_true rfl) ?_
          refine lv_lmul hx hb dX12_lookAtLags_30 ?_
          refine lv_topl (fun v_26 ev_26 => ?_)
          refine lv_aload_n hx hb dX12_lookAtLags_31 rfl (lv_at hl 1 rfl) ?_
          refine va_calll (va_runV (As := []) (rest := [.long v_26]) ⟨hx, hb, hml, hown, hts⟩ (c_X12_heavy l dC dI g A hG f_4 h0 q i_h0 k_8 hc1_ok) (cwV 0 hts (gi_V (fun w_ h0_ => ⟨List.mem_cons_of_mem _ (List.mem_append_right _ (List.mem_append_right _ (List.mem_append_right _ (List.mem_append_right _ (List.mem_append_left _ h0_))))), (tb_c_X12_heavy w_ h0_).2⟩) (List.mem_cons_of_mem _ (List.mem_append_left _ (List.mem_of_getElem? (i := 9) rfl))) (List.mem_cons_of_mem _ (List.mem_append_left _ (List.mem_of_getElem? (i := 10) rfl))) (List.mem_cons_of_mem _ (List.mem_append_left _ (List.mem_of_getElem? (i := 11) rfl))) (List.mem_cons_of_mem _ (List.mem_append_left _ (List.mem_of_getElem? (i := 4) rfl)))) rfl rfl rfl (by decide +kernel) ⟨Nat.le_of_ble_eq_true rfl, Nat.le_of_ble_eq_true rfl⟩) ⟨fun a U g mk q => ⟨q.1, q.2.calling rfl rfl⟩, k_recv hK hI i_h0.1 k_7 (ci := 12) rfl, fun U hU hW => ⟨rfl, kIn.of hI hK hE hS hU hW⟩⟩ rfl rfl hl.1 rfl (lv_room (Nat.le_of_ble_eq_true rfl)) dX12_lookAtLags_32 ⟨Nat.le_of_ble_eq_true rfl, Nat.le_of_ble_eq_true rfl⟩) hS (fun q _ h => h) (fun q h => h) (fun r_28 u t H1 locs ht hvm w_27 hB hz1 hk1 hS => ?_)
          have hI : Iv dC dI g A f_4 t.heap := hB
          rw [ht] at hI
          generalize H1 = H at hI hS ⊢
          refine W.widen (k := 0) (n := 0) (Nat.le_of_ble_eq_true rfl) (Nat.le_of_ble_eq_true rfl) ?_
          have w_27 : 0 ≤ r_28.toInt ∧ r_28.toInt ≤ 96 ∧ ∀ t : Nat, (t : Int) < (q 0).toInt → (q (6 + 43 * t + 2)).toInt = 1 → 1 ≤ r_28.toInt := w_27
          have d_29 := w_27.2.2 y_3 (by omega) (by omega)
          refine lv_ldc2 hx hb hown (hts (.constantLong RX12 108 (5354228880)) (List.mem_cons_of_mem _ (List.mem_append_left _ (List.mem_of_getElem? (i := 12) rfl)))) dX12_lookAtLags_35 ?_
          refine lv_lmul hx hb dX12_lookAtLags_38 ?_
          have g_30 : Int64.toInt 5354228880 = 5354228880 := by decide
          refine lv_topl (fun v_31 ev_31 => ?_)
          have tv_31 := l_ml1 (x := r_28) (y := 5354228880) (a := 96) (b := 5354228880) (by omega) (by omega) (by omega) (by omega) (by decide)
          rw [← ev_31] at tv_31
          refine va_calll (va_runS (As := [.long v_26, .long v_31]) (rest := []) ⟨hx, hb, hml, hown, hts⟩ (c_X12_down l dC dI g A hG f_4 v_26 v_31 (by first | omega | decide | (simp only [k_c0, k_c1, k_cm1]; omega))) (va_cwS 2 hts (gi_S (fun w_ h0_ => ⟨List.mem_cons_of_mem _ (List.mem_append_right _ (List.mem_append_right _ (List.mem_append_right _ (List.mem_append_right _ (List.mem_append_right _ (List.mem_append_left _ h0_)))))), (tb_c_X12_down w_ h0_).2⟩) (List.mem_cons_of_mem _ (List.mem_append_left _ (List.mem_of_getElem? (i := 13) rfl))) (List.mem_cons_of_mem _ (List.mem_append_left _ (List.mem_of_getElem? (i := 14) rfl))) (List.mem_cons_of_mem _ (List.mem_append_left _ (List.mem_of_getElem? (i := 4) rfl)))) rfl rfl rfl (by decide +kernel) ⟨Nat.le_of_ble_eq_true rfl, Nat.le_of_ble_eq_true rfl⟩) ⟨fun a U g mk q => ⟨q.1, q.2.calling rfl rfl⟩, fun U hU hW => ⟨rfl, kIn.of hI hK hE hS hU hW⟩⟩ rfl rfl hl.1 rfl (lv_room (Nat.le_of_ble_eq_true rfl)) dX12_lookAtLags_39 ⟨Nat.le_of_ble_eq_true rfl, Nat.le_of_ble_eq_true rfl⟩) hS (fun q _ h => h) (fun q h => h) (fun r_33 u t H1 locs ht hvm w_32 hB hz1 hk1 hS => ?_)
          have hI : Iv dC dI g A f_4 t.heap := hB
          rw [ht] at hI
          generalize H1 = H at hI hS ⊢
          refine W.widen (k := 0) (n := 0) (Nat.le_of_ble_eq_true rfl) (Nat.le_of_ble_eq_true rfl) ?_
          refine lv_lstore_n (lv' := [(2, .long r_33), (1, .int (nI y_3)), (0, .ref h0)]) hx hb dX12_lookAtLags_42 rfl hl (by decide) rfl (fun ls hl => ?_)
          refine lv_aload_n hx hb dX12_lookAtLags_43 rfl (lv_at hl 2 rfl) ?_
          refine lv_lload_n hx hb dX12_lookAtLags_44 rfl (lv_at hl 0 rfl) ?_
          refine lv_aload_n hx hb dX12_lookAtLags_45 rfl (lv_at hl 2 rfl) ?_
          refine k_get (ci := 12) (v := .long y_5) (C := RX12) (T := TX12) (N := 27) hx hb hts (fun _ h0_ => List.mem_cons_of_mem _ (List.mem_append_right _ (List.mem_append_left _ h0_))) hown hK hI i_h0.1 k_7 rfl 25 (by decide) (hts (.fieldLink RX12 322 "DeadlineShareModel" "most1" "J") (List.mem_cons_of_mem _ (List.mem_append_left _ (List.mem_of_getElem? (i := 15) rfl)))) (fun _ h9 => h9) rfl dX12_lookAtLags_46 ?_
          refine W.lcmp hx hb dX12_lookAtLags_49 ?_
          have J_61 : ∀ (y_34 : Int64) (H : Heap) (locs : List Loc) (ls : Array Slot), Iv dC dI g A f_4 H → va_S A s.heap H locs → lv_has ls 4 [(2, .long r_33), (1, .int (nI y_3)), (0, .ref h0)] → W p l e (headSpec wq_c_X12_lookAtLags ({ frames := 4, cells := 0, slots := 0, locals := 85 } : Room)).room s m ([.ref h0].toArray) below meth c H locs 0 0 (MQ below (va_Qv (fun (_ : Unit) => True) (fun (_ : Unit) t => ∃ f1 : Nat → va_E, Iv dC dI g A f1 t.heap ∧ Kp g [12] f f1 ∧ ∃ (w25 : Int64) (w26 : Int64), (f1 h0 = .inr (12, [.int z0, .int z1, .ref (gr g h0 2), .ref (gr g h0 3), .ref (gr g h0 4), .ref (gr g h0 5), .ref (gr g h0 6), .ref (gr g h0 7), .ref (gr g h0 8), .ref (gr g h0 9), .int z10, .ref (gr g h0 11), .int z12, .int z13, .int z14, .int z15, .long z16, .int z17, .int z18, .ref (gr g h0 19), .ref (gr g h0 20), .ref (gr g h0 21), .ref (gr g h0 22), .int z23, .long z24, .long w25, .long w26]))) A) ([.ref h0].toArray) s 0 0 A) (F0 m 61 ls [.long y_34, .ref h0]) := by
            intro y_34 H locs ls hI hS  hl
            refine k_put (ci := 12) (v := .long y_34) (ty := .long) (C := RX12) (T := TX12) (N := 27) hx hb hts (fun _ h0_ => List.mem_cons_of_mem _ (List.mem_append_right _ (List.mem_append_left _ h0_))) tyX12 tyX12_ok nmX12 hown hK hI hS i_h0.1 k_7 rfl 25 (by decide) (hts (.fieldLink RX12 322 "DeadlineShareModel" "most1" "J") (List.mem_cons_of_mem _ (List.mem_append_left _ (List.mem_of_getElem? (i := 15) rfl)))) (fun _ h9 => h9) rfl (by decide +kernel) rfl rfl (Nat.le_of_ble_eq_true rfl) rfl (cl_12 i_h0 (by omega) (by omega) (by omega)) dX12_lookAtLags_61 (fun f_35 H locs e_36 hI hS => ?_)
            have k_38 : f_35 h0 = .inr (12, [.int z0, .int z1, .ref (gr g h0 2), .ref (gr g h0 3), .ref (gr g h0 4), .ref (gr g h0 5), .ref (gr g h0 6), .ref (gr g h0 7), .ref (gr g h0 8), .ref (gr g h0 9), .int z10, .ref (gr g h0 11), .int z12, .int z13, .int z14, .int z15, .long z16, .int z17, .int z18, .ref (gr g h0 19), .ref (gr g h0 20), .ref (gr g h0 21), .ref (gr g h0 22), .int z23, .long z24, .long y_34, .long y_6]) := by rw [e_36]; exact va_up_self _ _ _
            have k_39 : f_35 (gr g h0 4) = .inl (gc g 1, 906, .inr (.inl q)) := by rw [e_36, va_up_ne _ _ (ik_ne i_1 i_h0 (by decide))]; exact k_8
            have kp_37 := Kp.put kp_9 i_h0 (by decide) e_36
            refine lv_aload_n hx hb dX12_lookAtLags_64 rfl (lv_at hl 2 rfl) ?_
            refine lv_lload_n hx hb dX12_lookAtLags_65 rfl (lv_at hl 0 rfl) ?_
            refine lv_aload_n hx hb dX12_lookAtLags_66 rfl (lv_at hl 2 rfl) ?_
            refine k_get (ci := 12) (v := .long y_6) (C := RX12) (T := TX12) (N := 27) hx hb hts (fun _ h0_ => List.mem_cons_of_mem _ (List.mem_append_right _ (List.mem_append_left _ h0_))) hown hK hI i_h0.1 k_38 rfl 26 (by decide) (hts (.fieldLink RX12 325 "DeadlineShareModel" "least1" "J") (List.mem_cons_of_mem _ (List.mem_append_left _ (List.mem_of_getElem? (i := 16) rfl)))) (fun _ h9 => h9) rfl dX12_lookAtLags_67 ?_
            refine W.lcmp hx hb dX12_lookAtLags_70 ?_
            have J_82 : ∀ (y_40 : Int64) (H : Heap) (locs : List Loc) (ls : Array Slot), Iv dC dI g A f_35 H → va_S A s.heap H locs → lv_has ls 4 [(2, .long r_33), (1, .int (nI y_3)), (0, .ref h0)] → W p l e (headSpec wq_c_X12_lookAtLags ({ frames := 4, cells := 0, slots := 0, locals := 85 } : Room)).room s m ([.ref h0].toArray) below meth c H locs 0 0 (MQ below (va_Qv (fun (_ : Unit) => True) (fun (_ : Unit) t => ∃ f1 : Nat → va_E, Iv dC dI g A f1 t.heap ∧ Kp g [12] f f1 ∧ ∃ (w25 : Int64) (w26 : Int64), (f1 h0 = .inr (12, [.int z0, .int z1, .ref (gr g h0 2), .ref (gr g h0 3), .ref (gr g h0 4), .ref (gr g h0 5), .ref (gr g h0 6), .ref (gr g h0 7), .ref (gr g h0 8), .ref (gr g h0 9), .int z10, .ref (gr g h0 11), .int z12, .int z13, .int z14, .int z15, .long z16, .int z17, .int z18, .ref (gr g h0 19), .ref (gr g h0 20), .ref (gr g h0 21), .ref (gr g h0 22), .int z23, .long z24, .long w25, .long w26]))) A) ([.ref h0].toArray) s 0 0 A) (F0 m 82 ls [.long y_40, .ref h0]) := by
              intro y_40 H locs ls hI hS  hl
              refine k_put (ci := 12) (v := .long y_40) (ty := .long) (C := RX12) (T := TX12) (N := 27) hx hb hts (fun _ h0_ => List.mem_cons_of_mem _ (List.mem_append_right _ (List.mem_append_left _ h0_))) tyX12 tyX12_ok nmX12 hown hK hI hS i_h0.1 k_38 rfl 26 (by decide) (hts (.fieldLink RX12 325 "DeadlineShareModel" "least1" "J") (List.mem_cons_of_mem _ (List.mem_append_left _ (List.mem_of_getElem? (i := 16) rfl)))) (fun _ h9 => h9) rfl (by decide +kernel) rfl rfl (Nat.le_of_ble_eq_true rfl) rfl (cl_12 i_h0 (by omega) (by omega) (by omega)) dX12_lookAtLags_82 (fun f_41 H locs e_42 hI hS => ?_)
              have k_44 : f_41 h0 = .inr (12, [.int z0, .int z1, .ref (gr g h0 2), .ref (gr g h0 3), .ref (gr g h0 4), .ref (gr g h0 5), .ref (gr g h0 6), .ref (gr g h0 7), .ref (gr g h0 8), .ref (gr g h0 9), .int z10, .ref (gr g h0 11), .int z12, .int z13, .int z14, .int z15, .long z16, .int z17, .int z18, .ref (gr g h0 19), .ref (gr g h0 20), .ref (gr g h0 21), .ref (gr g h0 22), .int z23, .long z24, .long y_34, .long y_40]) := by rw [e_42]; exact va_up_self _ _ _
              have k_45 : f_41 (gr g h0 4) = .inl (gc g 1, 906, .inr (.inl q)) := by rw [e_42, va_up_ne _ _ (ik_ne i_1 i_h0 (by decide))]; exact k_39
              have kp_43 := Kp.put kp_37 i_h0 (by decide) e_42
              exact J_85 y_34 y_40 f_41 _ _ _ hI hS k_44 k_45 kp_43 (lv_sub hl [1, 2] rfl)
            refine lv_if_ge (tgt := 78) hx hb dX12_lookAtLags_71 (by decide) (fun c_46 => ?_) (fun c_46 => ?_)
            · have c_46 := lc_le rfl rfl ((lg_cmp_ge _ _).mp c_46)
              refine lv_aload_n hx hb dX12_lookAtLags_78 rfl (lv_at hl 2 rfl) ?_
              refine k_get (ci := 12) (v := .long y_6) (C := RX12) (T := TX12) (N := 27) hx hb hts (fun _ h0_ => List.mem_cons_of_mem _ (List.mem_append_right _ (List.mem_append_left _ h0_))) hown hK hI i_h0.1 k_38 rfl 26 (by decide) (hts (.fieldLink RX12 325 "DeadlineShareModel" "least1" "J") (List.mem_cons_of_mem _ (List.mem_append_left _ (List.mem_of_getElem? (i := 16) rfl)))) (fun _ h9 => h9) rfl dX12_lookAtLags_79 ?_
              exact J_82 y_6 _ _ _ hI hS  (lv_sub hl [0, 1, 2] rfl)
            · have c_46 := ln_le rfl rfl (fun h9 => c_46 ((lg_cmp_ge _ _).mpr h9))
              refine lv_lload_n hx hb dX12_lookAtLags_74 rfl (lv_at hl 0 rfl) ?_
              refine lv_goto (tgt := 82) hx hb dX12_lookAtLags_75 (by decide) ?_
              exact J_82 r_33 _ _ _ hI hS  (lv_sub hl [0, 1, 2] rfl)
          refine lv_if_le (tgt := 57) hx hb dX12_lookAtLags_50 (by decide) (fun c_47 => ?_) (fun c_47 => ?_)
          · have c_47 := lc_le rfl rfl ((lg_cmp_le _ _).mp c_47)
            refine lv_aload_n hx hb dX12_lookAtLags_57 rfl (lv_at hl 2 rfl) ?_
            refine k_get (ci := 12) (v := .long y_5) (C := RX12) (T := TX12) (N := 27) hx hb hts (fun _ h0_ => List.mem_cons_of_mem _ (List.mem_append_right _ (List.mem_append_left _ h0_))) hown hK hI i_h0.1 k_7 rfl 25 (by decide) (hts (.fieldLink RX12 322 "DeadlineShareModel" "most1" "J") (List.mem_cons_of_mem _ (List.mem_append_left _ (List.mem_of_getElem? (i := 15) rfl)))) (fun _ h9 => h9) rfl dX12_lookAtLags_58 ?_
            exact J_61 y_5 _ _ _ hI hS  (lv_sub hl [0, 1, 2] rfl)
          · have c_47 := ln_le rfl rfl (fun h9 => c_47 ((lg_cmp_le _ _).mpr h9))
            refine lv_lload_n hx hb dX12_lookAtLags_53 rfl (lv_at hl 0 rfl) ?_
            refine lv_goto (tgt := 61) hx hb dX12_lookAtLags_54 (by decide) ?_
            exact J_61 r_33 _ _ _ hI hS  (lv_sub hl [0, 1, 2] rfl)
  exact K_2 _ 0 z25 z26 f _ _ _ (Nat.lt_succ_self _) hI hS hc0 hc1 hk0 (by first | omega | decide) (lv_sub hl [0, 1] rfl)
