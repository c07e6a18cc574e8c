theorem tw_989 : q_g (.code yX12_finish cX12_finish 4 (some .int)) := ⟨(List.mem_append_right _ (List.mem_of_getElem? (i := 1515) (by decide +kernel))), good_of_word (by decide +kernel)⟩
def ow_c_X12_finish : List Cond := [.fieldLink RX12 67 "DeadlineShareModel" "thrown" "I", .methodLink RX12 142 yX12_isTask, .instanceMethod yX12_isTask, .selects RX12 yX12_isTask yX12_isTask, .initialized RX12, .fieldLink RX12 16 "DeadlineShareModel" "row" "[J", .methodLink RX12 87 yX12_at, .static yX12_at, .methodLink RX12 310 yX12_begin, .instanceMethod yX12_begin, .selects RX12 yX12_begin yX12_begin, .methodLink RX12 313 yX12_over, .instanceMethod yX12_over, .selects RX12 yX12_over yX12_over, .constantLong RX12 286 (9999), .methodLink RX12 288 yX12_tick, .instanceMethod yX12_tick, .selects RX12 yX12_tick yX12_tick]
def wq_c_X12_finish : List Cond := .code yX12_finish cX12_finish 4 (some .int) :: (ow_c_X12_finish ++ (u_ws RX12 TX12 27 ++ (wq_c_X12_isTask ++ (wq_c_X12_at ++ (wq_c_X12_begin ++ (wq_c_X12_over ++ (wq_c_X12_tick ++ ([] : List Cond))))))))
theorem tb_c_X12_finish : ∀ w ∈ wq_c_X12_finish, q_g w := by
  unfold wq_c_X12_finish ow_c_X12_finish
  exact q_cons tw_989 (q_app (q_cons tw_927 (q_cons tw_951 (q_cons tw_950 (q_cons tw_949 (q_cons tw_728 (q_cons tw_731 (q_cons tw_734 (q_cons tw_733 (q_cons tw_925 (q_cons tw_924 (q_cons tw_923 (q_cons tw_922 (q_cons tw_921 (q_cons tw_920 (q_cons tw_985 (q_cons tw_919 (q_cons tw_918 (q_cons tw_917 q_nil)))))))))))))))))) (q_app tu_X12 (q_app tb_c_X12_isTask (q_app tb_c_X12_at (q_app tb_c_X12_begin (q_app tb_c_X12_over (q_app tb_c_X12_tick q_nil)))))))
set_option maxHeartbeats 4000000 in
set_option maxRecDepth 100000 in
theorem c_X12_finish (l : Launch) (dC : Nat → ClassId) (dI : Nat → Nat → Nat) (g : kG) (A : Nat → Prop) (hG : kWf g) (f : Nat → va_E) (h0 : Nat) (p1 : Int32) (z0 : Int32) (z1 : Int32) (z10 : Int32) (z12 : Int32) (z13 : Int32) (z14 : Int32) (z15 : Int32) (z16 : Int64) (z17 : Int32) (z18 : Int32) (z23 : Int32) (z24 : Int64) (z25 : Int64) (z26 : Int64) (q : Nat → Int64) (u : Nat → Int64) (im : Nat → Int64) (kt : Nat → Int32) (pp : Nat → Int64) (i_h0 : ik g 12 h0) (hc0 : f h0 = .inr (12, [.int z0, .int z1, .ref (gr g h0 2), .ref (gr g h0 3), .ref (gr g h0 4), .ref (gr g h0 5), .ref (gr g h0 6), .ref (gr g h0 7), .ref (gr g h0 8), .ref (gr g h0 9), .int z10, .ref (gr g h0 11), .int z12, .int z13, .int z14, .int z15, .long z16, .int z17, .int z18, .ref (gr g h0 19), .ref (gr g h0 20), .ref (gr g h0 21), .ref (gr g h0 22), .int z23, .long z24, .long z25, .long z26])) (hc0_10 : 0 ≤ z10.toInt ∧ z10.toInt ≤ 10) (hc0_12 : 0 ≤ z12.toInt ∧ z12.toInt ≤ 200) (hc0_23 : 0 ≤ z23.toInt ∧ z23.toInt ≤ 8) (hc1 : f (gr g h0 4) = .inl (gc g 1, 906, .inr (.inl q))) (hc1_ok : RowOK q) (hc2 : f (gr g h0 5) = .inl (gc g 1, 9060, .inr (.inl u))) (hc3 : f (gr g h0 7) = .inl (gc g 1, 1812, .inr (.inl im))) (hc4 : f (gr g h0 8) = .inl (gc g 3, 2, .inl kt)) (hc5 : f (gr g h0 6) = .inl (gc g 1, 906, .inr (.inl pp))) (hU : UIq z10 u im kt) : Met l yX12_finish wq_c_X12_finish ({ frames := 8, cells := 0, slots := 0, locals := 187 } : Room) (va_Pc [.ref h0, .int p1] (fun U => kIn dC dI g A f U)) (va_Qi (fun (r : Int32) (_ : Unit) => True) (fun (_ : Unit) t => ∃ f1 : Nat → va_E, Iv dC dI g A f1 t.heap ∧ Kp g [12, 32, 34] f f1 ∧ ∃ (w0 : Int32) (w1 : Int32) (w10 : Int32) (w12 : Int32) (w13 : Int32) (w14 : Int32) (w15 : Int32) (w16 : Int64) (w17 : Int32) (w18 : Int32) (w23 : Int32) (w24 : Int64) (w25 : Int64) (w26 : Int64) (q1 : Nat → Int64) (u1 : Nat → Int64) (im1 : Nat → Int64) (ik1 : Nat → Int32), (f1 h0 = .inr (12, [.int w0, .int w1, .ref (gr g h0 2), .ref (gr g h0 3), .ref (gr g h0 4), .ref (gr g h0 5), .ref (gr g h0 6), .ref (gr g h0 7), .ref (gr g h0 8), .ref (gr g h0 9), .int w10, .ref (gr g h0 11), .int w12, .int w13, .int w14, .int w15, .long w16, .int w17, .int w18, .ref (gr g h0 19), .ref (gr g h0 20), .ref (gr g h0 21), .ref (gr g h0 22), .int w23, .long w24, .long w25, .long w26])) ∧ (0 ≤ w10.toInt ∧ w10.toInt ≤ 10) ∧ (0 ≤ w12.toInt ∧ w12.toInt ≤ 200) ∧ (0 ≤ w23.toInt ∧ w23.toInt ≤ 8) ∧ (f1 (gr g h0 4) = .inl (gc g 1, 906, .inr (.inl q1))) ∧ (RowOK q1) ∧ (f1 (gr g h0 5) = .inl (gc g 1, 9060, .inr (.inl u1))) ∧ (f1 (gr g h0 7) = .inl (gc g 1, 1812, .inr (.inl im1))) ∧ (f1 (gr g h0 8) = .inl (gc g 3, 2, .inl ik1)) ∧ (UIq w10 u1 im1 ik1)) A) 0 0 A := by
  refine Met.ofW (cc := cX12_finish) (maxL := 4) (ret := (some .int)) (by decide) rfl ?_
  intro p e s m args below meth c s₁ B hml hv
  obtain ⟨rfl, hI, hK, hE⟩ := hv
  have hx := B.exec
  have hb := B.bytes
  have hr := B.returns
  have hts := atoms_spec (ws := wq_c_X12_finish) B.pre
  have hown : s.vm.findClass RX12 = some m.cls := findClass_of_methodNamed B.named
  have hlocks := B.notSynchronized
  have hS : va_S A s.heap s.heap [] := va_S.rf
  have hk0 : Kp g [12, 32, 34] f f := Kp.rf
  have hl := lv_entry ([.ref h0, .int p1]) (n := 4) (Nat.le_of_ble_eq_true rfl)
  rw [lg_entry_eq]
  generalize (lg_sl ([.ref h0, .int p1]) ++ List.replicate (4 - (lg_sl ([.ref h0, .int p1])).length) Slot.unset).toArray = ls at hl ⊢
  have hl : lv_has ls 4 [(0, .ref h0), (1, .int p1)] := hl
  have i_1 := kw_12_4 hG i_h0
  have d_2 := rk_hd hc1_ok
  have i_3 := kw_12_5 hG i_h0
  have i_4 := kw_12_7 hG i_h0
  have i_5 := kw_12_8 hG i_h0
  have i_6 := kw_12_6 hG i_h0
  refine lv_aload_n hx hb dX12_finish_0 rfl (lv_at hl 0 rfl) ?_
  refine lv_iconst (v := 0) hx hb dX12_finish_1 (by decide) ?_
  refine k_put (ci := 12) (v := .int 0) (ty := .int) (C := RX12) (T := TX12) (N := 27) hx hb hts (fun _ h0_ => List.mem_cons_of_mem _ (List.mem_append_right _ (List.mem_append_left _ h0_))) tyX12 tyX12_ok nmX12 hown hK hI hS i_h0.1 hc0 rfl 0 (by decide) (hts (.fieldLink RX12 67 "DeadlineShareModel" "thrown" "I") (List.mem_cons_of_mem _ (List.mem_append_left _ (List.mem_of_getElem? (i := 0) rfl)))) (fun _ h9 => h9) rfl (by decide +kernel) rfl rfl (Nat.le_of_ble_eq_true rfl) rfl (cl_12 i_h0 (by omega) (by omega) (by omega)) dX12_finish_2 (fun f_7 H locs e_8 hI hS => ?_)
  have k_10 : f_7 h0 = .inr (12, [.int 0, .int z1, .ref (gr g h0 2), .ref (gr g h0 3), .ref (gr g h0 4), .ref (gr g h0 5), .ref (gr g h0 6), .ref (gr g h0 7), .ref (gr g h0 8), .ref (gr g h0 9), .int z10, .ref (gr g h0 11), .int z12, .int z13, .int z14, .int z15, .long z16, .int z17, .int z18, .ref (gr g h0 19), .ref (gr g h0 20), .ref (gr g h0 21), .ref (gr g h0 22), .int z23, .long z24, .long z25, .long z26]) := by rw [e_8]; exact va_up_self _ _ _
  have k_11 : f_7 (gr g h0 4) = .inl (gc g 1, 906, .inr (.inl q)) := by rw [e_8, va_up_ne _ _ (ik_ne i_1 i_h0 (by decide))]; exact hc1
  have k_12 : f_7 (gr g h0 5) = .inl (gc g 1, 9060, .inr (.inl u)) := by rw [e_8, va_up_ne _ _ (ik_ne i_3 i_h0 (by decide))]; exact hc2
  have k_13 : f_7 (gr g h0 7) = .inl (gc g 1, 1812, .inr (.inl im)) := by rw [e_8, va_up_ne _ _ (ik_ne i_4 i_h0 (by decide))]; exact hc3
  have k_14 : f_7 (gr g h0 8) = .inl (gc g 3, 2, .inl kt) := by rw [e_8, va_up_ne _ _ (ik_ne i_5 i_h0 (by decide))]; exact hc4
  have k_15 : f_7 (gr g h0 6) = .inl (gc g 1, 906, .inr (.inl pp)) := by rw [e_8, va_up_ne _ _ (ik_ne i_6 i_h0 (by decide))]; exact hc5
  have kp_9 := Kp.put hk0 i_h0 (by decide) e_8
  refine lv_aload_n hx hb dX12_finish_5 rfl (lv_at hl 0 rfl) ?_
  refine lv_iload_n hx hb dX12_finish_6 rfl (lv_at hl 1 rfl) ?_
  refine va_calli (va_runV (As := [.int p1]) (rest := []) ⟨hx, hb, hml, hown, hts⟩ (c_X12_isTask l dC dI g A hG f_7 h0 p1 q i_h0 k_11 hc1_ok) (cwV 1 hts (gi_V (fun w_ h0_ => ⟨List.mem_cons_of_mem _ (List.mem_append_right _ (List.mem_append_right _ (List.mem_append_left _ h0_))), (tb_c_X12_isTask w_ h0_).2⟩) (List.mem_cons_of_mem _ (List.mem_append_left _ (List.mem_of_getElem? (i := 1) rfl))) (List.mem_cons_of_mem _ (List.mem_append_left _ (List.mem_of_getElem? (i := 2) rfl))) (List.mem_cons_of_mem _ (List.mem_append_left _ (List.mem_of_getElem? (i := 3) rfl))) (List.mem_cons_of_mem _ (List.mem_append_left _ (List.mem_of_getElem? (i := 4) rfl)))) rfl rfl rfl (by decide +kernel) ⟨Nat.le_of_ble_eq_true rfl, Nat.le_of_ble_eq_true rfl⟩) ⟨fun a U g mk q => ⟨q.1, q.2.calling rfl rfl⟩, k_recv hK hI i_h0.1 k_10 (ci := 12) rfl, fun U hU hW => ⟨rfl, kIn.of hI hK hE hS hU hW⟩⟩ rfl rfl hl.1 rfl (lv_room (Nat.le_of_ble_eq_true rfl)) dX12_finish_7 ⟨Nat.le_of_ble_eq_true rfl, Nat.le_of_ble_eq_true rfl⟩) hS (fun q _ h => h) (fun q h => h) (fun r_17 u9 t H1 locs ht hvm w_16 hB hz1 hk1 hS => ?_)
  have hI : Iv dC dI g A f_7 t.heap := hB
  rw [ht] at hI
  generalize H1 = H at hI hS ⊢
  refine W.widen (k := 0) (n := 0) (Nat.le_of_ble_eq_true rfl) (Nat.le_of_ble_eq_true rfl) ?_
  have w_16 : (r_17.toInt = 0 ∨ r_17.toInt = 1) ∧ (r_17.toInt = 0 ∨ (0 ≤ p1.toInt ∧ p1.toInt < (q 0).toInt)) := w_16
  refine lv_if_eq (tgt := 30) hx hb dX12_finish_10 (by decide) (fun c_18 => ?_) (fun c_18 => ?_)
  · have c_18 := kc_eq rfl (by decide : Int32.toInt 0 = 0) c_18
    refine lv_iconst (v := (-1)) hx hb dX12_finish_30 (by decide) ?_
    exact W.iret (v := (-1)) hx hb hr (fun t ht hW => ⟨⟨(-1), (), rfl, trivial, ⟨f_7, k_ret ht hI, kp_9, 0, z1, z10, z12, z13, z14, z15, z16, z17, z18, z23, z24, z25, z26, q, u, im, kt, k_10, (by first | omega | decide), (by first | omega | decide), (by first | omega | decide), k_11, hc1_ok, k_12, k_13, k_14, hU⟩⟩, hS.F ht⟩) hS.2.2 dX12_finish_31
  · have c_18 := kn_eq rfl (by decide : Int32.toInt 0 = 0) c_18
    refine lv_aload_n hx hb dX12_finish_13 rfl (lv_at hl 0 rfl) ?_
    refine k_get (ci := 12) (v := .ref (gr g h0 4)) (C := RX12) (T := TX12) (N := 27) hx hb hts (fun _ h0_ => List.mem_cons_of_mem _ (List.mem_append_right _ (List.mem_append_left _ h0_))) hown hK hI i_h0.1 k_10 rfl 4 (by decide) (hts (.fieldLink RX12 16 "DeadlineShareModel" "row" "[J") (List.mem_cons_of_mem _ (List.mem_append_left _ (List.mem_of_getElem? (i := 5) rfl)))) (fun _ h9 => h9) rfl dX12_finish_14 ?_
    obtain ⟨m_21, em_21, tm_21⟩ := k_nat (x := p1) (by omega)
    refine lv_iload_n hx hb dX12_finish_17 rfl (lv_at hl 1 rfl) ?_
    refine k_topi (y := nI m_21) em_21 ?_
    refine va_calli (va_runS (As := [.int (nI m_21)]) (rest := [.ref (gr g h0 4)]) ⟨hx, hb, hml, hown, hts⟩ (c_X12_at l dC dI g A hG f_7 m_21) (va_cwS 1 hts (gi_S (fun w_ h0_ => ⟨List.mem_cons_of_mem _ (List.mem_append_right _ (List.mem_append_right _ (List.mem_append_right _ (List.mem_append_left _ h0_)))), (tb_c_X12_at w_ h0_).2⟩) (List.mem_cons_of_mem _ (List.mem_append_left _ (List.mem_of_getElem? (i := 6) rfl))) (List.mem_cons_of_mem _ (List.mem_append_left _ (List.mem_of_getElem? (i := 7) rfl))) (List.mem_cons_of_mem _ (List.mem_append_left _ (List.mem_of_getElem? (i := 4) rfl)))) rfl rfl rfl (by decide +kernel) ⟨Nat.le_of_ble_eq_true rfl, Nat.le_of_ble_eq_true rfl⟩) ⟨fun a U g mk q => ⟨q.1, q.2.calling rfl rfl⟩, fun U hU hW => ⟨rfl, kIn.of hI hK hE hS hU hW⟩⟩ rfl rfl hl.1 rfl (lv_room (Nat.le_of_ble_eq_true rfl)) dX12_finish_18 ⟨Nat.le_of_ble_eq_true rfl, Nat.le_of_ble_eq_true rfl⟩) hS (fun q _ h => h) (fun q h => h) (fun r_23 u9 t H1 locs ht hvm w_22 hB hz1 hk1 hS => ?_)
    have hI : Iv dC dI g A f_7 t.heap := hB
    rw [ht] at hI
    generalize H1 = H at hI hS ⊢
    refine W.widen (k := 0) (n := 0) (Nat.le_of_ble_eq_true rfl) (Nat.le_of_ble_eq_true rfl) ?_
    have w_22 : r_23 = nI (6 + 43 * m_21) := w_22
    refine k_topi (y := nI (6 + 43 * m_21)) w_22 ?_
    refine lv_bipush (v := 13) hx hb dX12_finish_21 (by decide) ?_
    refine lv_iadd hx hb dX12_finish_23 ?_
    refine k_topi (y := nI (6 + 43 * m_21 + 13)) ((nI_add (6 + 43 * m_21) 13).trans (congrArg nI (by omega))) ?_
    refine k_lald hx hb hK hI i_1.1 1 k_11 rfl (vp_in_nI (by omega) (by omega)) dX12_finish_24 ?_
    refine k_topl (y := q (6 + 43 * m_21 + 13)) (congrArg q (nI_clamp (by omega))) ?_
    have d_24 := rk_13 hc1_ok (t := m_21) (by omega)
    refine lv_lconst (v := 0) hx hb dX12_finish_25 (by decide) ?_
    refine W.lcmp hx hb dX12_finish_26 ?_
    refine lv_if_ne (tgt := 32) hx hb dX12_finish_27 (by decide) (fun c_25 => ?_) (fun c_25 => ?_)
    · have c_25 := ln_eq rfl (by decide : Int64.toInt 0 = 0) (fun h9 => c_25 ((lg_cmp_eq _ _).mpr h9))
      refine lv_aload_n hx hb dX12_finish_32 rfl (lv_at hl 0 rfl) ?_
      refine va_callv (va_runV (As := []) (rest := []) ⟨hx, hb, hml, hown, hts⟩ (c_X12_begin l dC dI g A hG f_7 h0 q pp i_h0 k_11 hc1_ok k_15) (cwV 0 hts (gi_V (fun w_ h0_ => ⟨List.mem_cons_of_mem _ (List.mem_append_right _ (List.mem_append_right _ (List.mem_append_right _ (List.mem_append_right _ (List.mem_append_left _ h0_))))), (tb_c_X12_begin w_ h0_).2⟩) (List.mem_cons_of_mem _ (List.mem_append_left _ (List.mem_of_getElem? (i := 8) rfl))) (List.mem_cons_of_mem _ (List.mem_append_left _ (List.mem_of_getElem? (i := 9) rfl))) (List.mem_cons_of_mem _ (List.mem_append_left _ (List.mem_of_getElem? (i := 10) rfl))) (List.mem_cons_of_mem _ (List.mem_append_left _ (List.mem_of_getElem? (i := 4) rfl)))) rfl rfl rfl (by decide +kernel) ⟨Nat.le_of_ble_eq_true rfl, Nat.le_of_ble_eq_true rfl⟩) ⟨fun a U g mk q => ⟨q.1, q.2.calling rfl rfl⟩, k_recv hK hI i_h0.1 k_10 (ci := 12) rfl, fun U hU hW => ⟨rfl, kIn.of hI hK hE hS hU hW⟩⟩ rfl rfl hl.1 rfl (lv_room (Nat.le_of_ble_eq_true rfl)) dX12_finish_33 ⟨Nat.le_of_ble_eq_true rfl, Nat.le_of_ble_eq_true rfl⟩) hS (fun q _ h => h) (fun q h => h) (fun u9 t H1 locs ht hvm _ hB hz1 hk1 hS => ?_)
      obtain ⟨f_26, hI, kc_28, pp1_29, k_30, z_31, z_32, z_33⟩ := hB
      rw [ht] at hI
      have k_34 : f_26 h0 = .inr (12, [.int 0, .int z1, .ref (gr g h0 2), .ref (gr g h0 3), .ref (gr g h0 4), .ref (gr g h0 5), .ref (gr g h0 6), .ref (gr g h0 7), .ref (gr g h0 8), .ref (gr g h0 9), .int z10, .ref (gr g h0 11), .int z12, .int z13, .int z14, .int z15, .long z16, .int z17, .int z18, .ref (gr g h0 19), .ref (gr g h0 20), .ref (gr g h0 21), .ref (gr g h0 22), .int z23, .long z24, .long z25, .long z26]) := Kp.at kc_28 i_h0 (by decide) k_10
      have k_35 : f_26 (gr g h0 4) = .inl (gc g 1, 906, .inr (.inl q)) := Kp.at kc_28 i_1 (by decide) k_11
      have k_36 : f_26 (gr g h0 5) = .inl (gc g 1, 9060, .inr (.inl u)) := Kp.at kc_28 i_3 (by decide) k_12
      have k_37 : f_26 (gr g h0 7) = .inl (gc g 1, 1812, .inr (.inl im)) := Kp.at kc_28 i_4 (by decide) k_13
      have k_38 : f_26 (gr g h0 8) = .inl (gc g 3, 2, .inl kt) := Kp.at kc_28 i_5 (by decide) k_14
      have z_31 : RowOK pp1_29 := z_31
      have d_39 := rk_hd z_31
      have z_32 : (pp1_29 0).toInt = (q 0).toInt := z_32
      have z_33 : (pp1_29 1).toInt = (q 1).toInt := z_33
      have kp_40 := Kp.call kp_9 kc_28 (by decide)
      generalize H1 = H at hI hS ⊢
      refine W.widen (k := 0) (n := 0) (Nat.le_of_ble_eq_true rfl) (Nat.le_of_ble_eq_true rfl) ?_
      refine lv_iconst (v := 0) hx hb dX12_finish_36 (by decide) ?_
      refine lv_istore_n (lv' := [(2, .int 0), (0, .ref h0), (1, .int p1)]) hx hb dX12_finish_37 rfl hl (by decide) rfl (fun ls hl => ?_)
      have K_38 : ∀ (nn : Nat) (y_41 : Int32) (q_43 : Nat → Int64) (y_46 : Int64) (f_42 : Nat → va_E) (H : Heap) (locs : List Loc) (ls : Array Slot), (501 - y_41.toInt).toNat < nn → Iv dC dI g A f_42 H → va_S A s.heap H locs → f_42 (gr g h0 4) = .inl (gc g 1, 906, .inr (.inl q_43)) → RowOK q_43 → f_42 h0 = .inr (12, [.int 0, .int z1, .ref (gr g h0 2), .ref (gr g h0 3), .ref (gr g h0 4), .ref (gr g h0 5), .ref (gr g h0 6), .ref (gr g h0 7), .ref (gr g h0 8), .ref (gr g h0 9), .int z10, .ref (gr g h0 11), .int z12, .int z13, .int z14, .int z15, .long z16, .int z17, .int z18, .ref (gr g h0 19), .ref (gr g h0 20), .ref (gr g h0 21), .ref (gr g h0 22), .int z23, .long y_46, .long z25, .long z26]) → f_42 (gr g h0 5) = .inl (gc g 1, 9060, .inr (.inl u)) → f_42 (gr g h0 7) = .inl (gc g 1, 1812, .inr (.inl im)) → f_42 (gr g h0 8) = .inl (gc g 3, 2, .inl kt) → f_42 (gr g h0 6) = .inl (gc g 1, 906, .inr (.inl pp1_29)) → Kp g [12, 32, 34] f f_42 → ((q_43 0).toInt = (q 0).toInt) → (0 ≤ y_41.toInt) → lv_has ls 4 [(2, .int y_41), (0, .ref h0), (1, .int p1)] → W p l e (headSpec wq_c_X12_finish ({ frames := 8, cells := 0, slots := 0, locals := 187 } : Room)).room s m ([.ref h0, .int p1].toArray) below meth c H locs 0 0 (MQ below (va_Qi (fun (r : Int32) (_ : Unit) => True) (fun (_ : Unit) t => ∃ f1 : Nat → va_E, Iv dC dI g A f1 t.heap ∧ Kp g [12, 32, 34] f f1 ∧ ∃ (w0 : Int32) (w1 : Int32) (w10 : Int32) (w12 : Int32) (w13 : Int32) (w14 : Int32) (w15 : Int32) (w16 : Int64) (w17 : Int32) (w18 : Int32) (w23 : Int32) (w24 : Int64) (w25 : Int64) (w26 : Int64) (q1 : Nat → Int64) (u1 : Nat → Int64) (im1 : Nat → Int64) (ik1 : Nat → Int32), (f1 h0 = .inr (12, [.int w0, .int w1, .ref (gr g h0 2), .ref (gr g h0 3), .ref (gr g h0 4), .ref (gr g h0 5), .ref (gr g h0 6), .ref (gr g h0 7), .ref (gr g h0 8), .ref (gr g h0 9), .int w10, .ref (gr g h0 11), .int w12, .int w13, .int w14, .int w15, .long w16, .int w17, .int w18, .ref (gr g h0 19), .ref (gr g h0 20), .ref (gr g h0 21), .ref (gr g h0 22), .int w23, .long w24, .long w25, .long w26])) ∧ (0 ≤ w10.toInt ∧ w10.toInt ≤ 10) ∧ (0 ≤ w12.toInt ∧ w12.toInt ≤ 200) ∧ (0 ≤ w23.toInt ∧ w23.toInt ≤ 8) ∧ (f1 (gr g h0 4) = .inl (gc g 1, 906, .inr (.inl q1))) ∧ (RowOK q1) ∧ (f1 (gr g h0 5) = .inl (gc g 1, 9060, .inr (.inl u1))) ∧ (f1 (gr g h0 7) = .inl (gc g 1, 1812, .inr (.inl im1))) ∧ (f1 (gr g h0 8) = .inl (gc g 3, 2, .inl ik1)) ∧ (UIq w10 u1 im1 ik1)) A) ([.ref h0, .int p1].toArray) s 0 0 A) (F0 m 38 ls []) := by
        intro nn
        induction nn with
        | zero => intro y_41 q_43 y_46 f_42 H locs ls m_55; exact absurd m_55 (Nat.not_lt_zero _)
        | succ nn ih =>
          intro y_41 q_43 y_46 f_42 H locs ls m_55 hI hS k_44 ok_45 k_47 k_48 k_49 k_50 k_51 kp_52 t_53 t_54 hl
          have g_56 := Int32.toInt_lt y_41
          have g_57 := Int32.le_toInt y_41
          have d_58 := rk_hd ok_45
          refine lv_iload_n hx hb dX12_finish_38 rfl (lv_at hl 0 rfl) ?_
          refine lv_sipush (v := 500) hx hb dX12_finish_39 (by decide) ?_
          have J_87 : ∀ (H : Heap) (locs : List Loc) (ls : Array Slot), Iv dC dI g A f_42 H → va_S A s.heap H locs → lv_has ls 4 [(2, .int y_41), (0, .ref h0), (1, .int p1)] → W p l e (headSpec wq_c_X12_finish ({ frames := 8, cells := 0, slots := 0, locals := 187 } : Room)).room s m ([.ref h0, .int p1].toArray) below meth c H locs 0 0 (MQ below (va_Qi (fun (r : Int32) (_ : Unit) => True) (fun (_ : Unit) t => ∃ f1 : Nat → va_E, Iv dC dI g A f1 t.heap ∧ Kp g [12, 32, 34] f f1 ∧ ∃ (w0 : Int32) (w1 : Int32) (w10 : Int32) (w12 : Int32) (w13 : Int32) (w14 : Int32) (w15 : Int32) (w16 : Int64) (w17 : Int32) (w18 : Int32) (w23 : Int32) (w24 : Int64) (w25 : Int64) (w26 : Int64) (q1 : Nat → Int64) (u1 : Nat → Int64) (im1 : Nat → Int64) (ik1 : Nat → Int32), (f1 h0 = .inr (12, [.int w0, .int w1, .ref (gr g h0 2), .ref (gr g h0 3), .ref (gr g h0 4), .ref (gr g h0 5), .ref (gr g h0 6), .ref (gr g h0 7), .ref (gr g h0 8), .ref (gr g h0 9), .int w10, .ref (gr g h0 11), .int w12, .int w13, .int w14, .int w15, .long w16, .int w17, .int w18, .ref (gr g h0 19), .ref (gr g h0 20), .ref (gr g h0 21), .ref (gr g h0 22), .int w23, .long w24, .long w25, .long w26])) ∧ (0 ≤ w10.toInt ∧ w10.toInt ≤ 10) ∧ (0 ≤ w12.toInt ∧ w12.toInt ≤ 200) ∧ (0 ≤ w23.toInt ∧ w23.toInt ≤ 8) ∧ (f1 (gr g h0 4) = .inl (gc g 1, 906, .inr (.inl q1))) ∧ (RowOK q1) ∧ (f1 (gr g h0 5) = .inl (gc g 1, 9060, .inr (.inl u1))) ∧ (f1 (gr g h0 7) = .inl (gc g 1, 1812, .inr (.inl im1))) ∧ (f1 (gr g h0 8) = .inl (gc g 3, 2, .inl ik1)) ∧ (UIq w10 u1 im1 ik1)) A) ([.ref h0, .int p1].toArray) s 0 0 A) (F0 m 87 ls []) := by
            intro H locs ls hI hS  hl
            refine lv_aload_n hx hb dX12_finish_87 rfl (lv_at hl 1 rfl) ?_
            refine k_get (ci := 12) (v := .ref (gr g h0 4)) (C := RX12) (T := TX12) (N := 27) hx hb hts (fun _ h0_ => List.mem_cons_of_mem _ (List.mem_append_right _ (List.mem_append_left _ h0_))) hown hK hI i_h0.1 k_47 rfl 4 (by decide) (hts (.fieldLink RX12 16 "DeadlineShareModel" "row" "[J") (List.mem_cons_of_mem _ (List.mem_append_left _ (List.mem_of_getElem? (i := 5) rfl)))) (fun _ h9 => h9) rfl dX12_finish_88 ?_
            refine lv_iload_n hx hb dX12_finish_91 rfl (lv_at hl 2 rfl) ?_
            refine k_topi (y := nI m_21) em_21 ?_
            refine va_calli (va_runS (As := [.int (nI m_21)]) (rest := [.ref (gr g h0 4)]) ⟨hx, hb, hml, hown, hts⟩ (c_X12_at l dC dI g A hG f_42 m_21) (va_cwS 1 hts (gi_S (fun w_ h0_ => ⟨List.mem_cons_of_mem _ (List.mem_append_right _ (List.mem_append_right _ (List.mem_append_right _ (List.mem_append_left _ h0_)))), (tb_c_X12_at w_ h0_).2⟩) (List.mem_cons_of_mem _ (List.mem_append_left _ (List.mem_of_getElem? (i := 6) rfl))) (List.mem_cons_of_mem _ (List.mem_append_left _ (List.mem_of_getElem? (i := 7) rfl))) (List.mem_cons_of_mem _ (List.mem_append_left _ (List.mem_of_getElem? (i := 4) rfl)))) rfl rfl rfl (by decide +kernel) ⟨Nat.le_of_ble_eq_true rfl, Nat.le_of_ble_eq_true rfl⟩) ⟨fun a U g mk q => ⟨q.1, q.2.calling rfl rfl⟩, fun U hU hW => ⟨rfl, kIn.of hI hK hE hS hU hW⟩⟩ rfl rfl hl.1 rfl (lv_room (Nat.le_of_ble_eq_true rfl)) dX12_finish_92 ⟨Nat.le_of_ble_eq_true rfl, Nat.le_of_ble_eq_true rfl⟩) hS (fun q _ h => h) (fun q h => h) (fun r_62 u9 t H1 locs ht hvm w_61 hB hz1 hk1 hS => ?_)
            have hI : Iv dC dI g A f_42 t.heap := hB
            rw [ht] at hI
            generalize H1 = H at hI hS ⊢
            refine W.widen (k := 0) (n := 0) (Nat.le_of_ble_eq_true rfl) (Nat.le_of_ble_eq_true rfl) ?_
            have w_61 : r_62 = nI (6 + 43 * m_21) := w_61
            refine k_topi (y := nI (6 + 43 * m_21)) w_61 ?_
            refine lv_bipush (v := 13) hx hb dX12_finish_95 (by decide) ?_
            refine lv_iadd hx hb dX12_finish_97 ?_
            refine k_topi (y := nI (6 + 43 * m_21 + 13)) ((nI_add (6 + 43 * m_21) 13).trans (congrArg nI (by omega))) ?_
            refine k_lald hx hb hK hI i_1.1 1 k_44 rfl (vp_in_nI (by omega) (by omega)) dX12_finish_98 ?_
            refine k_topl (y := q_43 (6 + 43 * m_21 + 13)) (congrArg q_43 (nI_clamp (by omega))) ?_
            have d_63 := rk_13 ok_45 (t := m_21) (by omega)
            refine lv_lconst (v := 0) hx hb dX12_finish_99 (by decide) ?_
            refine W.lcmp hx hb dX12_finish_100 ?_
            have J_109 : ∀ (y_64 : Int32) (H : Heap) (locs : List Loc) (ls : Array Slot), Iv dC dI g A f_42 H → va_S A s.heap H locs → lv_has ls 4 [(2, .int y_41), (0, .ref h0), (1, .int p1)] → W p l e (headSpec wq_c_X12_finish ({ frames := 8, cells := 0, slots := 0, locals := 187 } : Room)).room s m ([.ref h0, .int p1].toArray) below meth c H locs 0 0 (MQ below (va_Qi (fun (r : Int32) (_ : Unit) => True) (fun (_ : Unit) t => ∃ f1 : Nat → va_E, Iv dC dI g A f1 t.heap ∧ Kp g [12, 32, 34] f f1 ∧ ∃ (w0 : Int32) (w1 : Int32) (w10 : Int32) (w12 : Int32) (w13 : Int32) (w14 : Int32) (w15 : Int32) (w16 : Int64) (w17 : Int32) (w18 : Int32) (w23 : Int32) (w24 : Int64) (w25 : Int64) (w26 : Int64) (q1 : Nat → Int64) (u1 : Nat → Int64) (im1 : Nat → Int64) (ik1 : Nat → Int32), (f1 h0 = .inr (12, [.int w0, .int w1, .ref (gr g h0 2), .ref (gr g h0 3), .ref (gr g h0 4), .ref (gr g h0 5), .ref (gr g h0 6), .ref (gr g h0 7), .ref (gr g h0 8), .ref (gr g h0 9), .int w10, .ref (gr g h0 11), .int w12, .int w13, .int w14, .int w15, .long w16, .int w17, .int w18, .ref (gr g h0 19), .ref (gr g h0 20), .ref (gr g h0 21), .ref (gr g h0 22), .int w23, .long w24, .long w25, .long w26])) ∧ (0 ≤ w10.toInt ∧ w10.toInt ≤ 10) ∧ (0 ≤ w12.toInt ∧ w12.toInt ≤ 200) ∧ (0 ≤ w23.toInt ∧ w23.toInt ≤ 8) ∧ (f1 (gr g h0 4) = .inl (gc g 1, 906, .inr (.inl q1))) ∧ (RowOK q1) ∧ (f1 (gr g h0 5) = .inl (gc g 1, 9060, .inr (.inl u1))) ∧ (f1 (gr g h0 7) = .inl (gc g 1, 1812, .inr (.inl im1))) ∧ (f1 (gr g h0 8) = .inl (gc g 3, 2, .inl ik1)) ∧ (UIq w10 u1 im1 ik1)) A) ([.ref h0, .int p1].toArray) s 0 0 A) (F0 m 109 ls [.int y_64]) := by
              intro y_64 H locs ls hI hS  hl
              refine lv_istore_n (lv' := [(3, .int y_64), (2, .int y_41), (0, .ref h0), (1, .int p1)]) hx hb dX12_finish_109 rfl hl (by decide) rfl (fun ls hl => ?_)
              refine lv_aload_n hx hb dX12_finish_110 rfl (lv_at hl 2 rfl) ?_
              refine va_callv (va_runV (As := []) (rest := []) ⟨hx, hb, hml, hown, hts⟩ (c_X12_over l dC dI g A hG f_42 h0 q_43 pp1_29 i_h0 k_44 k_51 z_31) (cwV 0 hts (gi_V (fun w_ h0_ => ⟨List.mem_cons_of_mem _ (List.mem_append_right _ (List.mem_append_right _ (List.mem_append_right _ (List.mem_append_right _ (List.mem_append_right _ (List.mem_append_left _ h0_)))))), (tb_c_X12_over w_ h0_).2⟩) (List.mem_cons_of_mem _ (List.mem_append_left _ (List.mem_of_getElem? (i := 11) rfl))) (List.mem_cons_of_mem _ (List.mem_append_left _ (List.mem_of_getElem? (i := 12) rfl))) (List.mem_cons_of_mem _ (List.mem_append_left _ (List.mem_of_getElem? (i := 13) rfl))) (List.mem_cons_of_mem _ (List.mem_append_left _ (List.mem_of_getElem? (i := 4) rfl)))) rfl rfl rfl (by decide +kernel) ⟨Nat.le_of_ble_eq_true rfl, Nat.le_of_ble_eq_true rfl⟩) ⟨fun a U g mk q => ⟨q.1, q.2.calling rfl rfl⟩, k_recv hK hI i_h0.1 k_47 (ci := 12) rfl, fun U hU hW => ⟨rfl, kIn.of hI hK hE hS hU hW⟩⟩ rfl rfl hl.1 rfl (lv_room (Nat.le_of_ble_eq_true rfl)) dX12_finish_111 ⟨Nat.le_of_ble_eq_true rfl, Nat.le_of_ble_eq_true rfl⟩) hS (fun q _ h => h) (fun q h => h) (fun u9 t H1 locs ht hvm _ hB hz1 hk1 hS => ?_)
              obtain ⟨f_65, hI, kc_67, q1_68, k_69, z_70, z_71, z_72⟩ := hB
              rw [ht] at hI
              have k_73 : f_65 h0 = .inr (12, [.int 0, .int z1, .ref (gr g h0 2), .ref (gr g h0 3), .ref (gr g h0 4), .ref (gr g h0 5), .ref (gr g h0 6), .ref (gr g h0 7), .ref (gr g h0 8), .ref (gr g h0 9), .int z10, .ref (gr g h0 11), .int z12, .int z13, .int z14, .int z15, .long z16, .int z17, .int z18, .ref (gr g h0 19), .ref (gr g h0 20), .ref (gr g h0 21), .ref (gr g h0 22), .int z23, .long y_46, .long z25, .long z26]) := Kp.at kc_67 i_h0 (by decide) k_47
              have k_74 : f_65 (gr g h0 5) = .inl (gc g 1, 9060, .inr (.inl u)) := Kp.at kc_67 i_3 (by decide) k_48
              have k_75 : f_65 (gr g h0 7) = .inl (gc g 1, 1812, .inr (.inl im)) := Kp.at kc_67 i_4 (by decide) k_49
              have k_76 : f_65 (gr g h0 8) = .inl (gc g 3, 2, .inl kt) := Kp.at kc_67 i_5 (by decide) k_50
              have k_77 : f_65 (gr g h0 6) = .inl (gc g 1, 906, .inr (.inl pp1_29)) := Kp.at kc_67 i_6 (by decide) k_51
              have z_70 : RowOK q1_68 := z_70
              have d_78 := rk_hd z_70
              have z_71 : (q1_68 0).toInt = (pp1_29 0).toInt := z_71
              have z_72 : (q1_68 1).toInt = (pp1_29 1).toInt := z_72
              have kp_79 := Kp.call kp_52 kc_67 (by decide)
              generalize H1 = H at hI hS ⊢
              refine W.widen (k := 0) (n := 0) (Nat.le_of_ble_eq_true rfl) (Nat.le_of_ble_eq_true rfl) ?_
              refine lv_iload_n hx hb dX12_finish_114 rfl (lv_at hl 0 rfl) ?_
              exact W.iret (v := y_64) hx hb hr (fun t ht hW => ⟨⟨y_64, (), rfl, trivial, ⟨f_65, k_ret ht hI, kp_79, 0, z1, z10, z12, z13, z14, z15, z16, z17, z18, z23, y_46, z25, z26, q1_68, u, im, kt, k_73, (by first | omega | decide), (by first | omega | decide), (by first | omega | decide), k_69, z_70, k_74, k_75, k_76, hU⟩⟩, hS.F ht⟩) hS.2.2 dX12_finish_115
            refine lv_if_le (tgt := 108) hx hb dX12_finish_101 (by decide) (fun c_80 => ?_) (fun c_80 => ?_)
            · have c_80 := lc_le rfl (by decide : Int64.toInt 0 = 0) ((lg_cmp_le _ _).mp c_80)
              refine lv_iload_n hx hb dX12_finish_108 rfl (lv_at hl 0 rfl) ?_
              exact J_109 y_41 _ _ _ hI hS  (lv_sub hl [0, 1, 2] rfl)
            · have c_80 := ln_le rfl (by decide : Int64.toInt 0 = 0) (fun h9 => c_80 ((lg_cmp_le _ _).mpr h9))
              refine lv_iconst (v := (-1)) hx hb dX12_finish_104 (by decide) ?_
              refine lv_goto (tgt := 109) hx hb dX12_finish_105 (by decide) ?_
              exact J_109 (-1) _ _ _ hI hS  (lv_sub hl [0, 1, 2] rfl)
          refine lv_icmp_ge (tgt := 87) hx hb dX12_finish_42 (by decide) (fun c_81 => ?_) (fun c_81 => ?_)
          · have c_81 := kc_le (by decide : Int32.toInt 500 = 500) rfl c_81
            exact J_87  _ _ _ hI hS  (lv_sub hl [0, 1, 2] rfl)
          · have c_81 := kn_le (by decide : Int32.toInt 500 = 500) rfl c_81
            refine lv_aload_n hx hb dX12_finish_45 rfl (lv_at hl 1 rfl) ?_
            refine k_get (ci := 12) (v := .ref (gr g h0 4)) (C := RX12) (T := TX12) (N := 27) hx hb hts (fun _ h0_ => List.mem_cons_of_mem _ (List.mem_append_right _ (List.mem_append_left _ h0_))) hown hK hI i_h0.1 k_47 rfl 4 (by decide) (hts (.fieldLink RX12 16 "DeadlineShareModel" "row" "[J") (List.mem_cons_of_mem _ (List.mem_append_left _ (List.mem_of_getElem? (i := 5) rfl)))) (fun _ h9 => h9) rfl dX12_finish_46 ?_
            refine lv_iconst (v := 1) hx hb dX12_finish_49 (by decide) ?_
            refine k_lald hx hb hK hI i_1.1 1 k_44 rfl (by unfold vp_in; decide) dX12_finish_50 ?_
            refine k_topl (y := q_43 1) (congrArg q_43 (show Int32.toNatClampNeg 1 = 1 by decide)) ?_
            refine lv_ldc2 hx hb hown (hts (.constantLong RX12 286 (9999)) (List.mem_cons_of_mem _ (List.mem_append_left _ (List.mem_of_getElem? (i := 14) rfl)))) dX12_finish_51 ?_
            refine W.lcmp hx hb dX12_finish_54 ?_
            refine lv_if_ge (tgt := 87) hx hb dX12_finish_55 (by decide) (fun c_84 => ?_) (fun c_84 => ?_)
            · have c_84 := lc_le (by decide : Int64.toInt 9999 = 9999) rfl ((lg_cmp_ge _ _).mp c_84)
              exact J_87  _ _ _ hI hS  (lv_sub hl [0, 1, 2] rfl)
            · have c_84 := ln_le (by decide : Int64.toInt 9999 = 9999) rfl (fun h9 => c_84 ((lg_cmp_ge _ _).mpr h9))
              refine lv_aload_n hx hb dX12_finish_58 rfl (lv_at hl 1 rfl) ?_
              refine k_get (ci := 12) (v := .ref (gr g h0 4)) (C := RX12) (T := TX12) (N := 27) hx hb hts (fun _ h0_ => List.mem_cons_of_mem _ (List.mem_append_right _ (List.mem_append_left _ h0_))) hown hK hI i_h0.1 k_47 rfl 4 (by decide) (hts (.fieldLink RX12 16 "DeadlineShareModel" "row" "[J") (List.mem_cons_of_mem _ (List.mem_append_left _ (List.mem_of_getElem? (i := 5) rfl)))) (fun _ h9 => h9) rfl dX12_finish_59 ?_
              refine lv_iload_n hx hb dX12_finish_62 rfl (lv_at hl 2 rfl) ?_
              refine k_topi (y := nI m_21) em_21 ?_
              refine va_calli (va_runS (As := [.int (nI m_21)]) (rest := [.ref (gr g h0 4)]) ⟨hx, hb, hml, hown, hts⟩ (c_X12_at l dC dI g A hG f_42 m_21) (va_cwS 1 hts (gi_S (fun w_ h0_ => ⟨List.mem_cons_of_mem _ (List.mem_append_right _ (List.mem_append_right _ (List.mem_append_right _ (List.mem_append_left _ h0_)))), (tb_c_X12_at w_ h0_).2⟩) (List.mem_cons_of_mem _ (List.mem_append_left _ (List.mem_of_getElem? (i := 6) rfl))) (List.mem_cons_of_mem _ (List.mem_append_left _ (List.mem_of_getElem? (i := 7) rfl))) (List.mem_cons_of_mem _ (List.mem_append_left _ (List.mem_of_getElem? (i := 4) rfl)))) rfl rfl rfl (by decide +kernel) ⟨Nat.le_of_ble_eq_true rfl, Nat.le_of_ble_eq_true rfl⟩) ⟨fun a U g mk q => ⟨q.1, q.2.calling rfl rfl⟩, fun U hU hW => ⟨rfl, kIn.of hI hK hE hS hU hW⟩⟩ rfl rfl hl.1 rfl (lv_room (Nat.le_of_ble_eq_true rfl)) dX12_finish_63 ⟨Nat.le_of_ble_eq_true rfl, Nat.le_of_ble_eq_true rfl⟩) hS (fun q _ h => h) (fun q h => h) (fun r_88 u9 t H1 locs ht hvm w_87 hB hz1 hk1 hS => ?_)
              have hI : Iv dC dI g A f_42 t.heap := hB
              rw [ht] at hI
              generalize H1 = H at hI hS ⊢
              refine W.widen (k := 0) (n := 0) (Nat.le_of_ble_eq_true rfl) (Nat.le_of_ble_eq_true rfl) ?_
              have w_87 : r_88 = nI (6 + 43 * m_21) := w_87
              refine k_topi (y := nI (6 + 43 * m_21)) w_87 ?_
              refine lv_bipush (v := 13) hx hb dX12_finish_66 (by decide) ?_
              refine lv_iadd hx hb dX12_finish_68 ?_
              refine k_topi (y := nI (6 + 43 * m_21 + 13)) ((nI_add (6 + 43 * m_21) 13).trans (congrArg nI (by omega))) ?_
              refine k_lald hx hb hK hI i_1.1 1 k_44 rfl (vp_in_nI (by omega) (by omega)) dX12_finish_69 ?_
              refine k_topl (y := q_43 (6 + 43 * m_21 + 13)) (congrArg q_43 (nI_clamp (by omega))) ?_
              have d_89 := rk_13 ok_45 (t := m_21) (by omega)
              refine lv_lconst (v := 0) hx hb dX12_finish_70 (by decide) ?_
              refine W.lcmp hx hb dX12_finish_71 ?_
              refine lv_if_le (tgt := 87) hx hb dX12_finish_72 (by decide) (fun c_90 => ?_) (fun c_90 => ?_)
              · have c_90 := lc_le rfl (by decide : Int64.toInt 0 = 0) ((lg_cmp_le _ _).mp c_90)
                exact J_87  _ _ _ hI hS  (lv_sub hl [0, 1, 2] rfl)
              · have c_90 := ln_le rfl (by decide : Int64.toInt 0 = 0) (fun h9 => c_90 ((lg_cmp_le _ _).mpr h9))
                refine lv_aload_n hx hb dX12_finish_75 rfl (lv_at hl 1 rfl) ?_
                refine lv_iconst (v := 0) hx hb dX12_finish_76 (by decide) ?_
                refine va_calli (va_runV (As := [.int 0]) (rest := []) ⟨hx, hb, hml, hown, hts⟩ (c_X12_tick l dC dI g A hG f_42 h0 0 0 z1 z10 z12 z13 z14 z15 z16 z17 z18 z23 y_46 z25 z26 q_43 i_h0 k_47 (by first | omega | (simp only [k_c0]; omega)) (by first | omega | (simp only [k_c0]; omega)) (by first | omega | (simp only [k_c0]; omega)) k_44 ok_45 (by first | omega | decide | (simp only [show Int32.toInt 0 = 0 from by decide] <;> omega))) (cwV 1 hts (gi_V (fun w_ h0_ => ⟨List.mem_cons_of_mem _ (List.mem_append_right _ (List.mem_append_right _ (List.mem_append_right _ (List.mem_append_right _ (List.mem_append_right _ (List.mem_append_right _ (List.mem_append_left _ h0_))))))), (tb_c_X12_tick w_ h0_).2⟩) (List.mem_cons_of_mem _ (List.mem_append_left _ (List.mem_of_getElem? (i := 15) rfl))) (List.mem_cons_of_mem _ (List.mem_append_left _ (List.mem_of_getElem? (i := 16) rfl))) (List.mem_cons_of_mem _ (List.mem_append_left _ (List.mem_of_getElem? (i := 17) rfl))) (List.mem_cons_of_mem _ (List.mem_append_left _ (List.mem_of_getElem? (i := 4) rfl)))) rfl rfl rfl (by decide +kernel) ⟨Nat.le_of_ble_eq_true rfl, Nat.le_of_ble_eq_true rfl⟩) ⟨fun a U g mk q => ⟨q.1, q.2.calling rfl rfl⟩, k_recv hK hI i_h0.1 k_47 (ci := 12) rfl, fun U hU hW => ⟨rfl, kIn.of hI hK hE hS hU hW⟩⟩ rfl rfl hl.1 rfl (lv_room (Nat.le_of_ble_eq_true rfl)) dX12_finish_77 ⟨Nat.le_of_ble_eq_true rfl, Nat.le_of_ble_eq_true rfl⟩) hS (fun q _ h => h) (fun q h => h) (fun r_93 u9 t H1 locs ht hvm w_92 hB hz1 hk1 hS => ?_)
                obtain ⟨f_91, hI, kc_94, w24_95, q1_96, k_97, k_98, z_99, z_100, z_101⟩ := hB
                rw [ht] at hI
                have k_102 : f_91 (gr g h0 5) = .inl (gc g 1, 9060, .inr (.inl u)) := Kp.at kc_94 i_3 (by decide) k_48
                have k_103 : f_91 (gr g h0 7) = .inl (gc g 1, 1812, .inr (.inl im)) := Kp.at kc_94 i_4 (by decide) k_49
                have k_104 : f_91 (gr g h0 8) = .inl (gc g 3, 2, .inl kt) := Kp.at kc_94 i_5 (by decide) k_50
                have k_105 : f_91 (gr g h0 6) = .inl (gc g 1, 906, .inr (.inl pp1_29)) := Kp.at kc_94 i_6 (by decide) k_51
                have k_97 : f_91 h0 = .inr (12, [.int (0 : Int32), .int z1, .ref (gr g h0 2), .ref (gr g h0 3), .ref (gr g h0 4), .ref (gr g h0 5), .ref (gr g h0 6), .ref (gr g h0 7), .ref (gr g h0 8), .ref (gr g h0 9), .int z10, .ref (gr g h0 11), .int z12, .int z13, .int z14, .int z15, .long z16, .int z17, .int z18, .ref (gr g h0 19), .ref (gr g h0 20), .ref (gr g h0 21), .ref (gr g h0 22), .int z23, .long w24_95, .long z25, .long z26]) := k_97
                have z_99 : RowOK q1_96 := z_99
                have d_106 := rk_hd z_99
                have z_100 : (q1_96 0).toInt = (q_43 0).toInt := z_100
                have z_101 : (q1_96 1).toInt = (q_43 1).toInt + 1 := z_101
                have kp_107 := Kp.call kp_52 kc_94 (by decide)
                generalize H1 = H at hI hS ⊢
                refine W.widen (k := 0) (n := 0) (Nat.le_of_ble_eq_true rfl) (Nat.le_of_ble_eq_true rfl) ?_
                have w_92 : -1 ≤ r_93.toInt ∧ r_93.toInt < (q_43 0).toInt := w_92
                have g_108 : Int32.toInt (0) = 0 := by decide
                refine lv_pop hx hb dX12_finish_80 rfl ?_
                obtain ⟨v_109, ev_109⟩ : ∃ y : Int32, y = y_41 + Int32.ofInt 1 := ⟨_, rfl⟩
                refine lv_iinc (v := v_109) (lv' := [(2, .int v_109), (0, .ref h0), (1, .int p1)]) hx hb dX12_finish_81 hl (k := 0) rfl ev_109.symm (by decide) rfl (fun ls hl => ?_)
                have tv_109 := k_inc y_41
                rw [← ev_109] at tv_109
                refine lv_goto (tgt := 38) hx hb dX12_finish_84 (by decide) ?_
                exact ih v_109 q1_96 w24_95 f_91 _ _ _ (by omega) hI hS k_98 z_99 k_97 k_102 k_103 k_104 k_105 kp_107 (by first | omega | decide | exact Or.inl (by decide)) (by first | omega | decide | exact Or.inl (by decide)) (lv_sub hl [0, 1, 2] rfl)
      exact K_38 _ 0 q z24 f_26 _ _ _ (Nat.lt_succ_self _) hI hS k_35 hc1_ok k_34 k_36 k_37 k_38 k_30 kp_40 (by first | omega | decide | exact Or.inl (by decide) | (simp only [show Int32.toInt 0 = 0 from by decide] <;> omega)) (by first | omega | decide | exact Or.inl (by decide) | (simp only [show Int32.toInt 0 = 0 from by decide] <;> omega)) (lv_sub hl [0, 1, 2] rfl)
    · have c_25 := lc_eq rfl (by decide : Int64.toInt 0 = 0) ((lg_cmp_eq _ _).mp c_25)
      refine lv_iconst (v := (-1)) hx hb dX12_finish_30 (by decide) ?_
      exact W.iret (v := (-1)) hx hb hr (fun t ht hW => ⟨⟨(-1), (), rfl, trivial, ⟨f_7, k_ret ht hI, kp_9, 0, z1, z10, z12, z13, z14, z15, z16, z17, z18, z23, z24, z25, z26, q, u, im, kt, k_10, (by first | omega | decide), (by first | omega | decide), (by first | omega | decide), k_11, hc1_ok, k_12, k_13, k_14, hU⟩⟩, hS.F ht⟩) hS.2.2 dX12_finish_31
theorem tw_990 : q_g (.code yX12_due cX12_due 6 (some .int)) := ⟨(List.mem_append_right _ (List.mem_of_getElem? (i := 1519) (by decide +kernel))), good_of_word (by decide +kernel)⟩
def ow_c_X12_due : List Cond := [.fieldLink RX12 67 "DeadlineShareModel" "thrown" "I", .methodLink RX12 142 yX12_isTask, .instanceMethod yX12_isTask, .selects RX12 yX12_isTask yX12_isTask, .initialized RX12, .methodLink RX12 310 yX12_begin, .instanceMethod yX12_begin, .selects RX12 yX12_begin yX12_begin, .fieldLink RX12 16 "DeadlineShareModel" "row" "[J", .methodLink RX12 87 yX12_at, .static yX12_at, .methodLink RX12 313 yX12_over, .instanceMethod yX12_over, .selects RX12 yX12_over yX12_over, .constantLong RX12 286 (9999), .methodLink RX12 288 yX12_tick, .instanceMethod yX12_tick, .selects RX12 yX12_tick yX12_tick]
def wq_c_X12_due : List Cond := .code yX12_due cX12_due 6 (some .int) :: (ow_c_X12_due ++ (u_ws RX12 TX12 27 ++ (wq_c_X12_isTask ++ (wq_c_X12_begin ++ (wq_c_X12_at ++ (wq_c_X12_over ++ (wq_c_X12_tick ++ ([] : List Cond))))))))
theorem tb_c_X12_due : ∀ w ∈ wq_c_X12_due, q_g w := by
  unfold wq_c_X12_due ow_c_X12_due
  exact q_cons tw_990 (q_app (q_cons tw_927 (q_cons tw_951 (q_cons tw_950 (q_cons tw_949 (q_cons tw_728 (q_cons tw_925 (q_cons tw_924 (q_cons tw_923 (q_cons tw_731 (q_cons tw_734 (q_cons tw_733 (q_cons tw_922 (q_cons tw_921 (q_cons tw_920 (q_cons tw_985 (q_cons tw_919 (q_cons tw_918 (q_cons tw_917 q_nil)))))))))))))))))) (q_app tu_X12 (q_app tb_c_X12_isTask (q_app tb_c_X12_begin (q_app tb_c_X12_at (q_app tb_c_X12_over (q_app tb_c_X12_tick q_nil)))))))
set_option maxHeartbeats 4000000 in
set_option maxRecDepth 100000 in
theorem c_X12_due (l : Launch) (dC : Nat → ClassId) (dI : Nat → Nat → Nat) (g : kG) (A : Nat → Prop) (hG : kWf g) (f : Nat → va_E) (h0 : Nat) (p1 : Int32) (z0 : Int32) (z1 : Int32) (z10 : Int32) (z12 : Int32) (z13 : Int32) (z14 : Int32) (z15 : Int32) (z16 : Int64) (z17 : Int32) (z18 : Int32) (z23 : Int32) (z24 : Int64) (z25 : Int64) (z26 : Int64) (q : Nat → Int64) (u : Nat → Int64) (im : Nat → Int64) (kt : Nat → Int32) (pp : Nat → Int64) (i_h0 : ik g 12 h0) (hc0 : f h0 = .inr (12, [.int z0, .int z1, .ref (gr g h0 2), .ref (gr g h0 3), .ref (gr g h0 4), .ref (gr g h0 5), .ref (gr g h0 6), .ref (gr g h0 7), .ref (gr g h0 8), .ref (gr g h0 9), .int z10, .ref (gr g h0 11), .int z12, .int z13, .int z14, .int z15, .long z16, .int z17, .int z18, .ref (gr g h0 19), .ref (gr g h0 20), .ref (gr g h0 21), .ref (gr g h0 22), .int z23, .long z24, .long z25, .long z26])) (hc0_10 : 0 ≤ z10.toInt ∧ z10.toInt ≤ 10) (hc0_12 : 0 ≤ z12.toInt ∧ z12.toInt ≤ 200) (hc0_23 : 0 ≤ z23.toInt ∧ z23.toInt ≤ 8) (hc1 : f (gr g h0 4) = .inl (gc g 1, 906, .inr (.inl q))) (hc1_ok : RowOK q) (hc2 : f (gr g h0 5) = .inl (gc g 1, 9060, .inr (.inl u))) (hc3 : f (gr g h0 7) = .inl (gc g 1, 1812, .inr (.inl im))) (hc4 : f (gr g h0 8) = .inl (gc g 3, 2, .inl kt)) (hc5 : f (gr g h0 6) = .inl (gc g 1, 906, .inr (.inl pp))) (hU : UIq z10 u im kt) : Met l yX12_due wq_c_X12_due ({ frames := 8, cells := 0, slots := 0, locals := 187 } : Room) (va_Pc [.ref h0, .int p1] (fun U => kIn dC dI g A f U)) (va_Qi (fun (r : Int32) (_ : Unit) => True) (fun (_ : Unit) t => ∃ f1 : Nat → va_E, Iv dC dI g A f1 t.heap ∧ Kp g [12, 32, 34] f f1 ∧ ∃ (w0 : Int32) (w1 : Int32) (w10 : Int32) (w12 : Int32) (w13 : Int32) (w14 : Int32) (w15 : Int32) (w16 : Int64) (w17 : Int32) (w18 : Int32) (w23 : Int32) (w24 : Int64) (w25 : Int64) (w26 : Int64) (q1 : Nat → Int64) (u1 : Nat → Int64) (im1 : Nat → Int64) (ik1 : Nat → Int32), (f1 h0 = .inr (12, [.int w0, .int w1, .ref (gr g h0 2), .ref (gr g h0 3), .ref (gr g h0 4), .ref (gr g h0 5), .ref (gr g h0 6), .ref (gr g h0 7), .ref (gr g h0 8), .ref (gr g h0 9), .int w10, .ref (gr g h0 11), .int w12, .int w13, .int w14, .int w15, .long w16, .int w17, .int w18, .ref (gr g h0 19), .ref (gr g h0 20), .ref (gr g h0 21), .ref (gr g h0 22), .int w23, .long w24, .long w25, .long w26])) ∧ (0 ≤ w10.toInt ∧ w10.toInt ≤ 10) ∧ (0 ≤ w12.toInt ∧ w12.toInt ≤ 200) ∧ (0 ≤ w23.toInt ∧ w23.toInt ≤ 8) ∧ (f1 (gr g h0 4) = .inl (gc g 1, 906, .inr (.inl q1))) ∧ (RowOK q1) ∧ (f1 (gr g h0 5) = .inl (gc g 1, 9060, .inr (.inl u1))) ∧ (f1 (gr g h0 7) = .inl (gc g 1, 1812, .inr (.inl im1))) ∧ (f1 (gr g h0 8) = .inl (gc g 3, 2, .inl ik1)) ∧ (UIq w10 u1 im1 ik1)) A) 0 0 A := by
  refine Met.ofW (cc := cX12_due) (maxL := 6) (ret := (some .int)) (by decide) rfl ?_
  intro p e s m args below meth c s₁ B hml hv
  obtain ⟨rfl, hI, hK, hE⟩ := hv
  have hx := B.exec
  have hb := B.bytes
  have hr := B.returns
  have hts := atoms_spec (ws := wq_c_X12_due) B.pre
  have hown : s.vm.findClass RX12 = some m.cls := findClass_of_methodNamed B.named
  have hlocks := B.notSynchronized
  have hS : va_S A s.heap s.heap [] := va_S.rf
  have hk0 : Kp g [12, 32, 34] f f := Kp.rf
  have hl := lv_entry ([.ref h0, .int p1]) (n := 6) (Nat.le_of_ble_eq_true rfl)
  rw [lg_entry_eq]
  generalize (lg_sl ([.ref h0, .int p1]) ++ List.replicate (6 - (lg_sl ([.ref h0, .int p1])).length) Slot.unset).toArray = ls at hl ⊢
  have hl : lv_has ls 6 [(0, .ref h0), (1, .int p1)] := hl
  have i_1 := kw_12_4 hG i_h0
  have d_2 := rk_hd hc1_ok
  have i_3 := kw_12_5 hG i_h0
  have i_4 := kw_12_7 hG i_h0
  have i_5 := kw_12_8 hG i_h0
  have i_6 := kw_12_6 hG i_h0
  refine lv_aload_n hx hb dX12_due_0 rfl (lv_at hl 0 rfl) ?_
  refine lv_iconst (v := 0) hx hb dX12_due_1 (by decide) ?_
  refine k_put (ci := 12) (v := .int 0) (ty := .int) (C := RX12) (T := TX12) (N := 27) hx hb hts (fun _ h0_ => List.mem_cons_of_mem _ (List.mem_append_right _ (List.mem_append_left _ h0_))) tyX12 tyX12_ok nmX12 hown hK hI hS i_h0.1 hc0 rfl 0 (by decide) (hts (.fieldLink RX12 67 "DeadlineShareModel" "thrown" "I") (List.mem_cons_of_mem _ (List.mem_append_left _ (List.mem_of_getElem? (i := 0) rfl)))) (fun _ h9 => h9) rfl (by decide +kernel) rfl rfl (Nat.le_of_ble_eq_true rfl) rfl (cl_12 i_h0 (by omega) (by omega) (by omega)) dX12_due_2 (fun f_7 H locs e_8 hI hS => ?_)
  have k_10 : f_7 h0 = .inr (12, [.int 0, .int z1, .ref (gr g h0 2), .ref (gr g h0 3), .ref (gr g h0 4), .ref (gr g h0 5), .ref (gr g h0 6), .ref (gr g h0 7), .ref (gr g h0 8), .ref (gr g h0 9), .int z10, .ref (gr g h0 11), .int z12, .int z13, .int z14, .int z15, .long z16, .int z17, .int z18, .ref (gr g h0 19), .ref (gr g h0 20), .ref (gr g h0 21), .ref (gr g h0 22), .int z23, .long z24, .long z25, .long z26]) := by rw [e_8]; exact va_up_self _ _ _
  have k_11 : f_7 (gr g h0 4) = .inl (gc g 1, 906, .inr (.inl q)) := by rw [e_8, va_up_ne _ _ (ik_ne i_1 i_h0 (by decide))]; exact hc1
  have k_12 : f_7 (gr g h0 5) = .inl (gc g 1, 9060, .inr (.inl u)) := by rw [e_8, va_up_ne _ _ (ik_ne i_3 i_h0 (by decide))]; exact hc2
  have k_13 : f_7 (gr g h0 7) = .inl (gc g 1, 1812, .inr (.inl im)) := by rw [e_8, va_up_ne _ _ (ik_ne i_4 i_h0 (by decide))]; exact hc3
  have k_14 : f_7 (gr g h0 8) = .inl (gc g 3, 2, .inl kt) := by rw [e_8, va_up_ne _ _ (ik_ne i_5 i_h0 (by decide))]; exact hc4
  have k_15 : f_7 (gr g h0 6) = .inl (gc g 1, 906, .inr (.inl pp)) := by rw [e_8, va_up_ne _ _ (ik_ne i_6 i_h0 (by decide))]; exact hc5
  have kp_9 := Kp.put hk0 i_h0 (by decide) e_8
  refine lv_aload_n hx hb dX12_due_5 rfl (lv_at hl 0 rfl) ?_
  refine lv_iload_n hx hb dX12_due_6 rfl (lv_at hl 1 rfl) ?_
  refine va_calli (va_runV (As := [.int p1]) (rest := []) ⟨hx, hb, hml, hown, hts⟩ (c_X12_isTask l dC dI g A hG f_7 h0 p1 q i_h0 k_11 hc1_ok) (cwV 1 hts (gi_V (fun w_ h0_ => ⟨List.mem_cons_of_mem _ (List.mem_append_right _ (List.mem_append_right _ (List.mem_append_left _ h0_))), (tb_c_X12_isTask w_ h0_).2⟩) (List.mem_cons_of_mem _ (List.mem_append_left _ (List.mem_of_getElem? (i := 1) rfl))) (List.mem_cons_of_mem _ (List.mem_append_left _ (List.mem_of_getElem? (i := 2) rfl))) (List.mem_cons_of_mem _ (List.mem_append_left _ (List.mem_of_getElem? (i := 3) rfl))) (List.mem_cons_of_mem _ (List.mem_append_left _ (List.mem_of_getElem? (i := 4) rfl)))) rfl rfl rfl (by decide +kernel) ⟨Nat.le_of_ble_eq_true rfl, Nat.le_of_ble_eq_true rfl⟩) ⟨fun a U g mk q => ⟨q.1, q.2.calling rfl rfl⟩, k_recv hK hI i_h0.1 k_10 (ci := 12) rfl, fun U hU hW => ⟨rfl, kIn.of hI hK hE hS hU hW⟩⟩ rfl rfl hl.1 rfl (lv_room (Nat.le_of_ble_eq_true rfl)) dX12_due_7 ⟨Nat.le_of_ble_eq_true rfl, Nat.le_of_ble_eq_true rfl⟩) hS (fun q _ h => h) (fun q h => h) (fun r_17 u9 t H1 locs ht hvm w_16 hB hz1 hk1 hS => ?_)
  have hI : Iv dC dI g A f_7 t.heap := hB
  rw [ht] at hI
  generalize H1 = H at hI hS ⊢
  refine W.widen (k := 0) (n := 0) (Nat.le_of_ble_eq_true rfl) (Nat.le_of_ble_eq_true rfl) ?_
  have w_16 : (r_17.toInt = 0 ∨ r_17.toInt = 1) ∧ (r_17.toInt = 0 ∨ (0 ≤ p1.toInt ∧ p1.toInt < (q 0).toInt)) := w_16
  refine lv_if_ne (tgt := 15) hx hb dX12_due_10 (by decide) (fun c_18 => ?_) (fun c_18 => ?_)
  · have c_18 := kn_eq rfl (by decide : Int32.toInt 0 = 0) c_18
    refine lv_aload_n hx hb dX12_due_15 rfl (lv_at hl 0 rfl) ?_
    refine va_callv (va_runV (As := []) (rest := []) ⟨hx, hb, hml, hown, hts⟩ (c_X12_begin l dC dI g A hG f_7 h0 q pp i_h0 k_11 hc1_ok k_15) (cwV 0 hts (gi_V (fun w_ h0_ => ⟨List.mem_cons_of_mem _ (List.mem_append_right _ (List.mem_append_right _ (List.mem_append_right _ (List.mem_append_left _ h0_)))), (tb_c_X12_begin w_ h0_).2⟩) (List.mem_cons_of_mem _ (List.mem_append_left _ (List.mem_of_getElem? (i := 5) rfl))) (List.mem_cons_of_mem _ (List.mem_append_left _ (List.mem_of_getElem? (i := 6) rfl))) (List.mem_cons_of_mem _ (List.mem_append_left _ (List.mem_of_getElem? (i := 7) rfl))) (List.mem_cons_of_mem _ (List.mem_append_left _ (List.mem_of_getElem? (i := 4) rfl)))) rfl rfl rfl (by decide +kernel) ⟨Nat.le_of_ble_eq_true rfl, Nat.le_of_ble_eq_true rfl⟩) ⟨fun a U g mk q => ⟨q.1, q.2.calling rfl rfl⟩, k_recv hK hI i_h0.1 k_10 (ci := 12) rfl, fun U hU hW => ⟨rfl, kIn.of hI hK hE hS hU hW⟩⟩ rfl rfl hl.1 rfl (lv_room (Nat.le_of_ble_eq_true rfl)) dX12_due_16 ⟨Nat.le_of_ble_eq_true rfl, Nat.le_of_ble_eq_true rfl⟩) hS (fun q _ h => h) (fun q h => h) (fun u9 t H1 locs ht hvm _ hB hz1 hk1 hS => ?_)
    obtain ⟨f_19, hI, kc_21, pp1_22, k_23, z_24, z_25, z_26⟩ := hB
    rw [ht] at hI
    have k_27 : f_19 h0 = .inr (12, [.int 0, .int z1, .ref (gr g h0 2), .ref (gr g h0 3), .ref (gr g h0 4), .ref (gr g h0 5), .ref (gr g h0 6), .ref (gr g h0 7), .ref (gr g h0 8), .ref (gr g h0 9), .int z10, .ref (gr g h0 11), .int z12, .int z13, .int z14, .int z15, .long z16, .int z17, .int z18, .ref (gr g h0 19), .ref (gr g h0 20), .ref (gr g h0 21), .ref (gr g h0 22), .int z23, .long z24, .long z25, .long z26]) := Kp.at kc_21 i_h0 (by decide) k_10
    have k_28 : f_19 (gr g h0 4) = .inl (gc g 1, 906, .inr (.inl q)) := Kp.at kc_21 i_1 (by decide) k_11
    have k_29 : f_19 (gr g h0 5) = .inl (gc g 1, 9060, .inr (.inl u)) := Kp.at kc_21 i_3 (by decide) k_12
    have k_30 : f_19 (gr g h0 7) = .inl (gc g 1, 1812, .inr (.inl im)) := Kp.at kc_21 i_4 (by decide) k_13
    have k_31 : f_19 (gr g h0 8) = .inl (gc g 3, 2, .inl kt) := Kp.at kc_21 i_5 (by decide) k_14
    have z_24 : RowOK pp1_22 := z_24
    have d_32 := rk_hd z_24
    have z_25 : (pp1_22 0).toInt = (q 0).toInt := z_25
    have z_26 : (pp1_22 1).toInt = (q 1).toInt := z_26
    have kp_33 := Kp.call kp_9 kc_21 (by decide)
    generalize H1 = H at hI hS ⊢
    refine W.widen (k := 0) (n := 0) (Nat.le_of_ble_eq_true rfl) (Nat.le_of_ble_eq_true rfl) ?_
    refine lv_aload_n hx hb dX12_due_19 rfl (lv_at hl 0 rfl) ?_
    refine k_get (ci := 12) (v := .ref (gr g h0 4)) (C := RX12) (T := TX12) (N := 27) hx hb hts (fun _ h0_ => List.mem_cons_of_mem _ (List.mem_append_right _ (List.mem_append_left _ h0_))) hown hK hI i_h0.1 k_27 rfl 4 (by decide) (hts (.fieldLink RX12 16 "DeadlineShareModel" "row" "[J") (List.mem_cons_of_mem _ (List.mem_append_left _ (List.mem_of_getElem? (i := 8) rfl)))) (fun _ h9 => h9) rfl dX12_due_20 ?_
    obtain ⟨m_36, em_36, tm_36⟩ := k_nat (x := p1) (by omega)
    refine lv_iload_n hx hb dX12_due_23 rfl (lv_at hl 1 rfl) ?_
    refine k_topi (y := nI m_36) em_36 ?_
    refine va_calli (va_runS (As := [.int (nI m_36)]) (rest := [.ref (gr g h0 4)]) ⟨hx, hb, hml, hown, hts⟩ (c_X12_at l dC dI g A hG f_19 m_36) (va_cwS 1 hts (gi_S (fun w_ h0_ => ⟨List.mem_cons_of_mem _ (List.mem_append_right _ (List.mem_append_right _ (List.mem_append_right _ (List.mem_append_right _ (List.mem_append_left _ h0_))))), (tb_c_X12_at w_ h0_).2⟩) (List.mem_cons_of_mem _ (List.mem_append_left _ (List.mem_of_getElem? (i := 9) rfl))) (List.mem_cons_of_mem _ (List.mem_append_left _ (List.mem_of_getElem? (i := 10) rfl))) (List.mem_cons_of_mem _ (List.mem_append_left _ (List.mem_of_getElem? (i := 4) rfl)))) rfl rfl rfl (by decide +kernel) ⟨Nat.le_of_ble_eq_true rfl, Nat.le_of_ble_eq_true rfl⟩) ⟨fun a U g mk q => ⟨q.1, q.2.calling rfl rfl⟩, fun U hU hW => ⟨rfl, kIn.of hI hK hE hS hU hW⟩⟩ rfl rfl hl.1 rfl (lv_room (Nat.le_of_ble_eq_true rfl)) dX12_due_24 ⟨Nat.le_of_ble_eq_true rfl, Nat.le_of_ble_eq_true rfl⟩) hS (fun q _ h => h) (fun q h => h) (fun r_38 u9 t H1 locs ht hvm w_37 hB hz1 hk1 hS => ?_)
    have hI : Iv dC dI g A f_19 t.heap := hB
    rw [ht] at hI
    generalize H1 = H at hI hS ⊢
    refine W.widen (k := 0) (n := 0) (Nat.le_of_ble_eq_true rfl) (Nat.le_of_ble_eq_true rfl) ?_
    have w_37 : r_38 = nI (6 + 43 * m_36) := w_37
    refine k_topi (y := nI (6 + 43 * m_36)) w_37 ?_
    refine lv_iconst (v := 5) hx hb dX12_due_27 (by decide) ?_
    refine lv_iadd hx hb dX12_due_28 ?_
    refine k_topi (y := nI (6 + 43 * m_36 + 5)) ((nI_add (6 + 43 * m_36) 5).trans (congrArg nI (by omega))) ?_
    refine k_lald hx hb hK hI i_1.1 1 k_28 rfl (vp_in_nI (by omega) (by omega)) dX12_due_29 ?_
    refine k_topl (y := q (6 + 43 * m_36 + 5)) (congrArg q (nI_clamp (by omega))) ?_
    refine lv_lstore_n (lv' := [(2, .long (q (6 + 43 * m_36 + 5))), (0, .ref h0), (1, .int p1)]) hx hb dX12_due_30 rfl hl (by decide) rfl (fun ls hl => ?_)
    refine lv_iconst (v := 0) hx hb dX12_due_31 (by decide) ?_
    refine lv_istore (lv' := [(4, .int 0), (2, .long (q (6 + 43 * m_36 + 5))), (0, .ref h0), (1, .int p1)]) hx hb dX12_due_32 hl (by decide) rfl (fun ls hl => ?_)
    have K_34 : ∀ (nn : Nat) (y_39 : Int32) (q_41 : Nat → Int64) (y_44 : Int64) (f_40 : Nat → va_E) (H : Heap) (locs : List Loc) (ls : Array Slot), (501 - y_39.toInt).toNat < nn → Iv dC dI g A f_40 H → va_S A s.heap H locs → f_40 (gr g h0 4) = .inl (gc g 1, 906, .inr (.inl q_41)) → RowOK q_41 → f_40 h0 = .inr (12, [.int 0, .int z1, .ref (gr g h0 2), .ref (gr g h0 3), .ref (gr g h0 4), .ref (gr g h0 5), .ref (gr g h0 6), .ref (gr g h0 7), .ref (gr g h0 8), .ref (gr g h0 9), .int z10, .ref (gr g h0 11), .int z12, .int z13, .int z14, .int z15, .long z16, .int z17, .int z18, .ref (gr g h0 19), .ref (gr g h0 20), .ref (gr g h0 21), .ref (gr g h0 22), .int z23, .long y_44, .long z25, .long z26]) → f_40 (gr g h0 5) = .inl (gc g 1, 9060, .inr (.inl u)) → f_40 (gr g h0 7) = .inl (gc g 1, 1812, .inr (.inl im)) → f_40 (gr g h0 8) = .inl (gc g 3, 2, .inl kt) → f_40 (gr g h0 6) = .inl (gc g 1, 906, .inr (.inl pp1_22)) → Kp g [12, 32, 34] f f_40 → ((q_41 0).toInt = (q 0).toInt) → (0 ≤ y_39.toInt) → lv_has ls 6 [(4, .int y_39), (2, .long (q (6 + 43 * m_36 + 5))), (0, .ref h0), (1, .int p1)] → W p l e (headSpec wq_c_X12_due ({ frames := 8, cells := 0, slots := 0, locals := 187 } : Room)).room s m ([.ref h0, .int p1].toArray) below meth c H locs 0 0 (MQ below (va_Qi (fun (r : Int32) (_ : Unit) => True) (fun (_ : Unit) t => ∃ f1 : Nat → va_E, Iv dC dI g A f1 t.heap ∧ Kp g [12, 32, 34] f f1 ∧ ∃ (w0 : Int32) (w1 : Int32) (w10 : Int32) (w12 : Int32) (w13 : Int32) (w14 : Int32) (w15 : Int32) (w16 : Int64) (w17 : Int32) (w18 : Int32) (w23 : Int32) (w24 : Int64) (w25 : Int64) (w26 : Int64) (q1 : Nat → Int64) (u1 : Nat → Int64) (im1 : Nat → Int64) (ik1 : Nat → Int32), (f1 h0 = .inr (12, [.int w0, .int w1, .ref (gr g h0 2), .ref (gr g h0 3), .ref (gr g h0 4), .ref (gr g h0 5), .ref (gr g h0 6), .ref (gr g h0 7), .ref (gr g h0 8), .ref (gr g h0 9), .int w10, .ref (gr g h0 11), .int w12, .int w13, .int w14, .int w15, .long w16, .int w17, .int w18, .ref (gr g h0 19), .ref (gr g h0 20), .ref (gr g h0 21), .ref (gr g h0 22), .int w23, .long w24, .long w25, .long w26])) ∧ (0 ≤ w10.toInt ∧ w10.toInt ≤ 10) ∧ (0 ≤ w12.toInt ∧ w12.toInt ≤ 200) ∧ (0 ≤ w23.toInt ∧ w23.toInt ≤ 8) ∧ (f1 (gr g h0 4) = .inl (gc g 1, 906, .inr (.inl q1))) ∧ (RowOK q1) ∧ (f1 (gr g h0 5) = .inl (gc g 1, 9060, .inr (.inl u1))) ∧ (f1 (gr g h0 7) = .inl (gc g 1, 1812, .inr (.inl im1))) ∧ (f1 (gr g h0 8) = .inl (gc g 3, 2, .inl ik1)) ∧ (UIq w10 u1 im1 ik1)) A) ([.ref h0, .int p1].toArray) s 0 0 A) (F0 m 34 ls []) := by
      intro nn
      induction nn with
      | zero => intro y_39 q_41 y_44 f_40 H locs ls m_53; exact absurd m_53 (Nat.not_lt_zero _)
      | succ nn ih =>
        intro y_39 q_41 y_44 f_40 H locs ls m_53 hI hS k_42 ok_43 k_45 k_46 k_47 k_48 k_49 kp_50 t_51 t_52 hl
        have g_54 := Int32.toInt_lt y_39
        have g_55 := Int32.le_toInt y_39
        have d_56 := rk_hd ok_43
        refine lv_iload hx hb dX12_due_34 (lv_at hl 0 rfl) ?_
        refine lv_sipush (v := 500) hx hb dX12_due_36 (by decide) ?_
        have J_83 : ∀ (H : Heap) (locs : List Loc) (ls : Array Slot), Iv dC dI g A f_40 H → va_S A s.heap H locs → lv_has ls 6 [(4, .int y_39), (2, .long (q (6 + 43 * m_36 + 5))), (0, .ref h0), (1, .int p1)] → W p l e (headSpec wq_c_X12_due ({ frames := 8, cells := 0, slots := 0, locals := 187 } : Room)).room s m ([.ref h0, .int p1].toArray) below meth c H locs 0 0 (MQ below (va_Qi (fun (r : Int32) (_ : Unit) => True) (fun (_ : Unit) t => ∃ f1 : Nat → va_E, Iv dC dI g A f1 t.heap ∧ Kp g [12, 32, 34] f f1 ∧ ∃ (w0 : Int32) (w1 : Int32) (w10 : Int32) (w12 : Int32) (w13 : Int32) (w14 : Int32) (w15 : Int32) (w16 : Int64) (w17 : Int32) (w18 : Int32) (w23 : Int32) (w24 : Int64) (w25 : Int64) (w26 : Int64) (q1 : Nat → Int64) (u1 : Nat → Int64) (im1 : Nat → Int64) (ik1 : Nat → Int32), (f1 h0 = .inr (12, [.int w0, .int w1, .ref (gr g h0 2), .ref (gr g h0 3), .ref (gr g h0 4), .ref (gr g h0 5), .ref (gr g h0 6), .ref (gr g h0 7), .ref (gr g h0 8), .ref (gr g h0 9), .int w10, .ref (gr g h0 11), .int w12, .int w13, .int w14, .int w15, .long w16, .int w17, .int w18, .ref (gr g h0 19), .ref (gr g h0 20), .ref (gr g h0 21), .ref (gr g h0 22), .int w23, .long w24, .long w25, .long w26])) ∧ (0 ≤ w10.toInt ∧ w10.toInt ≤ 10) ∧ (0 ≤ w12.toInt ∧ w12.toInt ≤ 200) ∧ (0 ≤ w23.toInt ∧ w23.toInt ≤ 8) ∧ (f1 (gr g h0 4) = .inl (gc g 1, 906, .inr (.inl q1))) ∧ (RowOK q1) ∧ (f1 (gr g h0 5) = .inl (gc g 1, 9060, .inr (.inl u1))) ∧ (f1 (gr g h0 7) = .inl (gc g 1, 1812, .inr (.inl im1))) ∧ (f1 (gr g h0 8) = .inl (gc g 3, 2, .inl ik1)) ∧ (UIq w10 u1 im1 ik1)) A) ([.ref h0, .int p1].toArray) s 0 0 A) (F0 m 83 ls []) := by
          intro H locs ls hI hS  hl
          refine lv_aload_n hx hb dX12_due_83 rfl (lv_at hl 2 rfl) ?_
          refine k_get (ci := 12) (v := .ref (gr g h0 4)) (C := RX12) (T := TX12) (N := 27) hx hb hts (fun _ h0_ => List.mem_cons_of_mem _ (List.mem_append_right _ (List.mem_append_left _ h0_))) hown hK hI i_h0.1 k_45 rfl 4 (by decide) (hts (.fieldLink RX12 16 "DeadlineShareModel" "row" "[J") (List.mem_cons_of_mem _ (List.mem_append_left _ (List.mem_of_getElem? (i := 8) rfl)))) (fun _ h9 => h9) rfl dX12_due_84 ?_
          refine lv_iload_n hx hb dX12_due_87 rfl (lv_at hl 3 rfl) ?_
          refine k_topi (y := nI m_36) em_36 ?_
          refine va_calli (va_runS (As := [.int (nI m_36)]) (rest := [.ref (gr g h0 4)]) ⟨hx, hb, hml, hown, hts⟩ (c_X12_at l dC dI g A hG f_40 m_36) (va_cwS 1 hts (gi_S (fun w_ h0_ => ⟨List.mem_cons_of_mem _ (List.mem_append_right _ (List.mem_append_right _ (List.mem_append_right _ (List.mem_append_right _ (List.mem_append_left _ h0_))))), (tb_c_X12_at w_ h0_).2⟩) (List.mem_cons_of_mem _ (List.mem_append_left _ (List.mem_of_getElem? (i := 9) rfl))) (List.mem_cons_of_mem _ (List.mem_append_left _ (List.mem_of_getElem? (i := 10) rfl))) (List.mem_cons_of_mem _ (List.mem_append_left _ (List.mem_of_getElem? (i := 4) rfl)))) rfl rfl rfl (by decide +kernel) ⟨Nat.le_of_ble_eq_true rfl, Nat.le_of_ble_eq_true rfl⟩) ⟨fun a U g mk q => ⟨q.1, q.2.calling rfl rfl⟩, fun U hU hW => ⟨rfl, kIn.of hI hK hE hS hU hW⟩⟩ rfl rfl hl.1 rfl (lv_room (Nat.le_of_ble_eq_true rfl)) dX12_due_88 ⟨Nat.le_of_ble_eq_true rfl, Nat.le_of_ble_eq_true rfl⟩) hS (fun q _ h => h) (fun q h => h) (fun r_60 u9 t H1 locs ht hvm w_59 hB hz1 hk1 hS => ?_)
          have hI : Iv dC dI g A f_40 t.heap := hB
          rw [ht] at hI
          generalize H1 = H at hI hS ⊢
          refine W.widen (k := 0) (n := 0) (Nat.le_of_ble_eq_true rfl) (Nat.le_of_ble_eq_true rfl) ?_
          have w_59 : r_60 = nI (6 + 43 * m_36) := w_59
          refine k_topi (y := nI (6 + 43 * m_36)) w_59 ?_
          refine lv_iconst (v := 5) hx hb dX12_due_91 (by decide) ?_
          refine lv_iadd hx hb dX12_due_92 ?_
          refine k_topi (y := nI (6 + 43 * m_36 + 5)) ((nI_add (6 + 43 * m_36) 5).trans (congrArg nI (by omega))) ?_
          refine k_lald hx hb hK hI i_1.1 1 k_42 rfl (vp_in_nI (by omega) (by omega)) dX12_due_93 ?_
          refine k_topl (y := q_41 (6 + 43 * m_36 + 5)) (congrArg q_41 (nI_clamp (by omega))) ?_
          refine lv_lload_n hx hb dX12_due_94 rfl (lv_at hl 1 rfl) ?_
          refine W.lcmp hx hb dX12_due_95 ?_
          have J_105 : ∀ (y_61 : Int32) (H : Heap) (locs : List Loc) (ls : Array Slot), Iv dC dI g A f_40 H → va_S A s.heap H locs → lv_has ls 6 [(4, .int y_39), (2, .long (q (6 + 43 * m_36 + 5))), (0, .ref h0), (1, .int p1)] → W p l e (headSpec wq_c_X12_due ({ frames := 8, cells := 0, slots := 0, locals := 187 } : Room)).room s m ([.ref h0, .int p1].toArray) below meth c H locs 0 0 (MQ below (va_Qi (fun (r : Int32) (_ : Unit) => True) (fun (_ : Unit) t => ∃ f1 : Nat → va_E, Iv dC dI g A f1 t.heap ∧ Kp g [12, 32, 34] f f1 ∧ ∃ (w0 : Int32) (w1 : Int32) (w10 : Int32) (w12 : Int32) (w13 : Int32) (w14 : Int32) (w15 : Int32) (w16 : Int64) (w17 : Int32) (w18 : Int32) (w23 : Int32) (w24 : Int64) (w25 : Int64) (w26 : Int64) (q1 : Nat → Int64) (u1 : Nat → Int64) (im1 : Nat → Int64) (ik1 : Nat → Int32), (f1 h0 = .inr (12, [.int w0, .int w1, .ref (gr g h0 2), .ref (gr g h0 3), .ref (gr g h0 4), .ref (gr g h0 5), .ref (gr g h0 6), .ref (gr g h0 7), .ref (gr g h0 8), .ref (gr g h0 9), .int w10, .ref (gr g h0 11), .int w12, .int w13, .int w14, .int w15, .long w16, .int w17, .int w18, .ref (gr g h0 19), .ref (gr g h0 20), .ref (gr g h0 21), .ref (gr g h0 22), .int w23, .long w24, .long w25, .long w26])) ∧ (0 ≤ w10.toInt ∧ w10.toInt ≤ 10) ∧ (0 ≤ w12.toInt ∧ w12.toInt ≤ 200) ∧ (0 ≤ w23.toInt ∧ w23.toInt ≤ 8) ∧ (f1 (gr g h0 4) = .inl (gc g 1, 906, .inr (.inl q1))) ∧ (RowOK q1) ∧ (f1 (gr g h0 5) = .inl (gc g 1, 9060, .inr (.inl u1))) ∧ (f1 (gr g h0 7) = .inl (gc g 1, 1812, .inr (.inl im1))) ∧ (f1 (gr g h0 8) = .inl (gc g 3, 2, .inl ik1)) ∧ (UIq w10 u1 im1 ik1)) A) ([.ref h0, .int p1].toArray) s 0 0 A) (F0 m 105 ls [.int y_61]) := by
            intro y_61 H locs ls hI hS  hl
            refine lv_istore (lv' := [(5, .int y_61), (4, .int y_39), (2, .long (q (6 + 43 * m_36 + 5))), (0, .ref h0), (1, .int p1)]) hx hb dX12_due_105 hl (by decide) rfl (fun ls hl => ?_)
            refine lv_aload_n hx hb dX12_due_107 rfl (lv_at hl 3 rfl) ?_
            refine va_callv (va_runV (As := []) (rest := []) ⟨hx, hb, hml, hown, hts⟩ (c_X12_over l dC dI g A hG f_40 h0 q_41 pp1_22 i_h0 k_42 k_49 z_24) (cwV 0 hts (gi_V (fun w_ h0_ => ⟨List.mem_cons_of_mem _ (List.mem_append_right _ (List.mem_append_right _ (List.mem_append_right _ (List.mem_append_right _ (List.mem_append_right _ (List.mem_append_left _ h0_)))))), (tb_c_X12_over w_ h0_).2⟩) (List.mem_cons_of_mem _ (List.mem_append_left _ (List.mem_of_getElem? (i := 11) rfl))) (List.mem_cons_of_mem _ (List.mem_append_left _ (List.mem_of_getElem? (i := 12) rfl))) (List.mem_cons_of_mem _ (List.mem_append_left _ (List.mem_of_getElem? (i := 13) rfl))) (List.mem_cons_of_mem _ (List.mem_append_left _ (List.mem_of_getElem? (i := 4) rfl)))) rfl rfl rfl (by decide +kernel) ⟨Nat.le_of_ble_eq_true rfl, Nat.le_of_ble_eq_true rfl⟩) ⟨fun a U g mk q => ⟨q.1, q.2.calling rfl rfl⟩, k_recv hK hI i_h0.1 k_45 (ci := 12) rfl, fun U hU hW => ⟨rfl, kIn.of hI hK hE hS hU hW⟩⟩ rfl rfl hl.1 rfl (lv_room (Nat.le_of_ble_eq_true rfl)) dX12_due_108 ⟨Nat.le_of_ble_eq_true rfl, Nat.le_of_ble_eq_true rfl⟩) hS (fun q _ h => h) (fun q h => h) (fun u9 t H1 locs ht hvm _ hB hz1 hk1 hS => ?_)
            obtain ⟨f_62, hI, kc_64, q1_65, k_66, z_67, z_68, z_69⟩ := hB
            rw [ht] at hI
            have k_70 : f_62 h0 = .inr (12, [.int 0, .int z1, .ref (gr g h0 2), .ref (gr g h0 3), .ref (gr g h0 4), .ref (gr g h0 5), .ref (gr g h0 6), .ref (gr g h0 7), .ref (gr g h0 8), .ref (gr g h0 9), .int z10, .ref (gr g h0 11), .int z12, .int z13, .int z14, .int z15, .long z16, .int z17, .int z18, .ref (gr g h0 19), .ref (gr g h0 20), .ref (gr g h0 21), .ref (gr g h0 22), .int z23, .long y_44, .long z25, .long z26]) := Kp.at kc_64 i_h0 (by decide) k_45
            have k_71 : f_62 (gr g h0 5) = .inl (gc g 1, 9060, .inr (.inl u)) := Kp.at kc_64 i_3 (by decide) k_46
            have k_72 : f_62 (gr g h0 7) = .inl (gc g 1, 1812, .inr (.inl im)) := Kp.at kc_64 i_4 (by decide) k_47
            have k_73 : f_62 (gr g h0 8) = .inl (gc g 3, 2, .inl kt) := Kp.at kc_64 i_5 (by decide) k_48
            have k_74 : f_62 (gr g h0 6) = .inl (gc g 1, 906, .inr (.inl pp1_22)) := Kp.at kc_64 i_6 (by decide) k_49
            have z_67 : RowOK q1_65 := z_67
            have d_75 := rk_hd z_67
            have z_68 : (q1_65 0).toInt = (pp1_22 0).toInt := z_68
            have z_69 : (q1_65 1).toInt = (pp1_22 1).toInt := z_69
            have kp_76 := Kp.call kp_50 kc_64 (by decide)
            generalize H1 = H at hI hS ⊢
            refine W.widen (k := 0) (n := 0) (Nat.le_of_ble_eq_true rfl) (Nat.le_of_ble_eq_true rfl) ?_
            refine lv_iload hx hb dX12_due_111 (lv_at hl 0 rfl) ?_
            exact W.iret (v := y_61) hx hb hr (fun t ht hW => ⟨⟨y_61, (), rfl, trivial, ⟨f_62, k_ret ht hI, kp_76, 0, z1, z10, z12, z13, z14, z15, z16, z17, z18, z23, y_44, z25, z26, q1_65, u, im, kt, k_70, (by first | omega | decide), (by first | omega | decide), (by first | omega | decide), k_66, z_67, k_71, k_72, k_73, hU⟩⟩, hS.F ht⟩) hS.2.2 dX12_due_113
          refine lv_if_ne (tgt := 103) hx hb dX12_due_96 (by decide) (fun c_77 => ?_) (fun c_77 => ?_)
          · have c_77 := ln_eq rfl rfl (fun h9 => c_77 ((lg_cmp_eq _ _).mpr h9))
            refine lv_iload hx hb dX12_due_103 (lv_at hl 0 rfl) ?_
            exact J_105 y_39 _ _ _ hI hS  (lv_sub hl [0, 1, 2, 3] rfl)
          · have c_77 := lc_eq rfl rfl ((lg_cmp_eq _ _).mp c_77)
            refine lv_iconst (v := (-1)) hx hb dX12_due_99 (by decide) ?_
            refine lv_goto (tgt := 105) hx hb dX12_due_100 (by decide) ?_
            exact J_105 (-1) _ _ _ hI hS  (lv_sub hl [0, 1, 2, 3] rfl)
        refine lv_icmp_ge (tgt := 83) hx hb dX12_due_39 (by decide) (fun c_78 => ?_) (fun c_78 => ?_)
        · have c_78 := kc_le (by decide : Int32.toInt 500 = 500) rfl c_78
          exact J_83  _ _ _ hI hS  (lv_sub hl [0, 1, 2, 3] rfl)
        · have c_78 := kn_le (by decide : Int32.toInt 500 = 500) rfl c_78
          refine lv_aload_n hx hb dX12_due_42 rfl (lv_at hl 2 rfl) ?_
          refine k_get (ci := 12) (v := .ref (gr g h0 4)) (C := RX12) (T := TX12) (N := 27) hx hb hts (fun _ h0_ => List.mem_cons_of_mem _ (List.mem_append_right _ (List.mem_append_left _ h0_))) hown hK hI i_h0.1 k_45 rfl 4 (by decide) (hts (.fieldLink RX12 16 "DeadlineShareModel" "row" "[J") (List.mem_cons_of_mem _ (List.mem_append_left _ (List.mem_of_getElem? (i := 8) rfl)))) (fun _ h9 => h9) rfl dX12_due_43 ?_
          refine lv_iconst (v := 1) hx hb dX12_due_46 (by decide) ?_
          refine k_lald hx hb hK hI i_1.1 1 k_42 rfl (by unfold vp_in; decide) dX12_due_47 ?_
          refine k_topl (y := q_41 1) (congrArg q_41 (show Int32.toNatClampNeg 1 = 1 by decide)) ?_
          refine lv_ldc2 hx hb hown (hts (.constantLong RX12 286 (9999)) (List.mem_cons_of_mem _ (List.mem_append_left _ (List.mem_of_getElem? (i := 14) rfl)))) dX12_due_48 ?_
          refine W.lcmp hx hb dX12_due_51 ?_
          refine lv_if_ge (tgt := 83) hx hb dX12_due_52 (by decide) (fun c_81 => ?_) (fun c_81 => ?_)
          · have c_81 := lc_le (by decide : Int64.toInt 9999 = 9999) rfl ((lg_cmp_ge _ _).mp c_81)
            exact J_83  _ _ _ hI hS  (lv_sub hl [0, 1, 2, 3] rfl)
          · have c_81 := ln_le (by decide : Int64.toInt 9999 = 9999) rfl (fun h9 => c_81 ((lg_cmp_ge _ _).mpr h9))
            refine lv_aload_n hx hb dX12_due_55 rfl (lv_at hl 2 rfl) ?_
            refine k_get (ci := 12) (v := .ref (gr g h0 4)) (C := RX12) (T := TX12) (N := 27) hx hb hts (fun _ h0_ => List.mem_cons_of_mem _ (List.mem_append_right _ (List.mem_append_left _ h0_))) hown hK hI i_h0.1 k_45 rfl 4 (by decide) (hts (.fieldLink RX12 16 "DeadlineShareModel" "row" "[J") (List.mem_cons_of_mem _ (List.mem_append_left _ (List.mem_of_getElem? (i := 8) rfl)))) (fun _ h9 => h9) rfl dX12_due_56 ?_
            refine lv_iload_n hx hb dX12_due_59 rfl (lv_at hl 3 rfl) ?_
            refine k_topi (y := nI m_36) em_36 ?_
            refine va_calli (va_runS (As := [.int (nI m_36)]) (rest := [.ref (gr g h0 4)]) ⟨hx, hb, hml, hown, hts⟩ (c_X12_at l dC dI g A hG f_40 m_36) (va_cwS 1 hts (gi_S (fun w_ h0_ => ⟨List.mem_cons_of_mem _ (List.mem_append_right _ (List.mem_append_right _ (List.mem_append_right _ (List.mem_append_right _ (List.mem_append_left _ h0_))))), (tb_c_X12_at w_ h0_).2⟩) (List.mem_cons_of_mem _ (List.mem_append_left _ (List.mem_of_getElem? (i := 9) rfl))) (List.mem_cons_of_mem _ (List.mem_append_left _ (List.mem_of_getElem? (i := 10) rfl))) (List.mem_cons_of_mem _ (List.mem_append_left _ (List.mem_of_getElem? (i := 4) rfl)))) rfl rfl rfl (by decide +kernel) ⟨Nat.le_of_ble_eq_true rfl, Nat.le_of_ble_eq_true rfl⟩) ⟨fun a U g mk q => ⟨q.1, q.2.calling rfl rfl⟩, fun U hU hW => ⟨rfl, kIn.of hI hK hE hS hU hW⟩⟩ rfl rfl hl.1 rfl (lv_room (Nat.le_of_ble_eq_true rfl)) dX12_due_60 ⟨Nat.le_of_ble_eq_true rfl, Nat.le_of_ble_eq_true rfl⟩) hS (fun q _ h => h) (fun q h => h) (fun r_85 u9 t H1 locs ht hvm w_84 hB hz1 hk1 hS => ?_)
            have hI : Iv dC dI g A f_40 t.heap := hB
            rw [ht] at hI
            generalize H1 = H at hI hS ⊢
            refine W.widen (k := 0) (n := 0) (Nat.le_of_ble_eq_true rfl) (Nat.le_of_ble_eq_true rfl) ?_
            have w_84 : r_85 = nI (6 + 43 * m_36) := w_84
            refine k_topi (y := nI (6 + 43 * m_36)) w_84 ?_
            refine lv_iconst (v := 5) hx hb dX12_due_63 (by decide) ?_
            refine lv_iadd hx hb dX12_due_64 ?_
            refine k_topi (y := nI (6 + 43 * m_36 + 5)) ((nI_add (6 + 43 * m_36) 5).trans (congrArg nI (by omega))) ?_
            refine k_lald hx hb hK hI i_1.1 1 k_42 rfl (vp_in_nI (by omega) (by omega)) dX12_due_65 ?_
            refine k_topl (y := q_41 (6 + 43 * m_36 + 5)) (congrArg q_41 (nI_clamp (by omega))) ?_
            refine lv_lload_n hx hb dX12_due_66 rfl (lv_at hl 1 rfl) ?_
            refine W.lcmp hx hb dX12_due_67 ?_
            refine lv_if_ne (tgt := 83) hx hb dX12_due_68 (by decide) (fun c_86 => ?_) (fun c_86 => ?_)
            · have c_86 := ln_eq rfl rfl (fun h9 => c_86 ((lg_cmp_eq _ _).mpr h9))
              exact J_83  _ _ _ hI hS  (lv_sub hl [0, 1, 2, 3] rfl)
            · have c_86 := lc_eq rfl rfl ((lg_cmp_eq _ _).mp c_86)
              refine lv_aload_n hx hb dX12_due_71 rfl (lv_at hl 2 rfl) ?_
              refine lv_iconst (v := 0) hx hb dX12_due_72 (by decide) ?_
              refine va_calli (va_runV (As := [.int 0]) (rest := []) ⟨hx, hb, hml, hown, hts⟩ (c_X12_tick l dC dI g A hG f_40 h0 0 0 z1 z10 z12 z13 z14 z15 z16 z17 z18 z23 y_44 z25 z26 q_41 i_h0 k_45 (by first | omega | (simp only [k_c0]; omega)) (by first | omega | (simp only [k_c0]; omega)) (by first | omega | (simp only [k_c0]; omega)) k_42 ok_43 (by first | omega | decide | (simp only [show Int32.toInt 0 = 0 from by decide] <;> omega))) (cwV 1 hts (gi_V (fun w_ h0_ => ⟨List.mem_cons_of_mem _ (List.mem_append_right _ (List.mem_append_right _ (List.mem_append_right _ (List.mem_append_right _ (List.mem_append_right _ (List.mem_append_right _ (List.mem_append_left _ h0_))))))), (tb_c_X12_tick w_ h0_).2⟩) (List.mem_cons_of_mem _ (List.mem_append_left _ (List.mem_of_getElem? (i := 15) rfl))) (List.mem_cons_of_mem _ (List.mem_append_left _ (List.mem_of_getElem? (i := 16) rfl))) (List.mem_cons_of_mem _ (List.mem_append_left _ (List.mem_of_getElem? (i := 17) rfl))) (List.mem_cons_of_mem _ (List.mem_append_left _ (List.mem_of_getElem? (i := 4) rfl)))) rfl rfl rfl (by decide +kernel) ⟨Nat.le_of_ble_eq_true rfl, Nat.le_of_ble_eq_true rfl⟩) ⟨fun a U g mk q => ⟨q.1, q.2.calling rfl rfl⟩, k_recv hK hI i_h0.1 k_45 (ci := 12) rfl, fun U hU hW => ⟨rfl, kIn.of hI hK hE hS hU hW⟩⟩ rfl rfl hl.1 rfl (lv_room (Nat.le_of_ble_eq_true rfl)) dX12_due_73 ⟨Nat.le_of_ble_eq_true rfl, Nat.le_of_ble_eq_true rfl⟩) hS (fun q _ h => h) (fun q h => h) (fun r_89 u9 t H1 locs ht hvm w_88 hB hz1 hk1 hS => ?_)
              obtain ⟨f_87, hI, kc_90, w24_91, q1_92, k_93, k_94, z_95, z_96, z_97⟩ := hB
              rw [ht] at hI
              have k_98 : f_87 (gr g h0 5) = .inl (gc g 1, 9060, .inr (.inl u)) := Kp.at kc_90 i_3 (by decide) k_46
              have k_99 : f_87 (gr g h0 7) = .inl (gc g 1, 1812, .inr (.inl im)) := Kp.at kc_90 i_4 (by decide) k_47
              have k_100 : f_87 (gr g h0 8) = .inl (gc g 3, 2, .inl kt) := Kp.at kc_90 i_5 (by decide) k_48
              have k_101 : f_87 (gr g h0 6) = .inl (gc g 1, 906, .inr (.inl pp1_22)) := Kp.at kc_90 i_6 (by decide) k_49
              have k_93 : f_87 h0 = .inr (12, [.int (0 : Int32), .int z1, .ref (gr g h0 2), .ref (gr g h0 3), .ref (gr g h0 4), .ref (gr g h0 5), .ref (gr g h0 6), .ref (gr g h0 7), .ref (gr g h0 8), .ref (gr g h0 9), .int z10, .ref (gr g h0 11), .int z12, .int z13, .int z14, .int z15, .long z16, .int z17, .int z18, .ref (gr g h0 19), .ref (gr g h0 20), .ref (gr g h0 21), .ref (gr g h0 22), .int z23, .long w24_91, .long z25, .long z26]) := k_93
              have z_95 : RowOK q1_92 := z_95
              have d_102 := rk_hd z_95
              have z_96 : (q1_92 0).toInt = (q_41 0).toInt := z_96
              have z_97 : (q1_92 1).toInt = (q_41 1).toInt + 1 := z_97
              have kp_103 := Kp.call kp_50 kc_90 (by decide)
              generalize H1 = H at hI hS ⊢
              refine W.widen (k := 0) (n := 0) (Nat.le_of_ble_eq_true rfl) (Nat.le_of_ble_eq_true rfl) ?_
              have w_88 : -1 ≤ r_89.toInt ∧ r_89.toInt < (q_41 0).toInt := w_88
              have g_104 : Int32.toInt (0) = 0 := by decide
              refine lv_pop hx hb dX12_due_76 rfl ?_
              obtain ⟨v_105, ev_105⟩ : ∃ y : Int32, y = y_39 + Int32.ofInt 1 := ⟨_, rfl⟩
              refine lv_iinc (v := v_105) (lv' := [(4, .int v_105), (2, .long (q (6 + 43 * m_36 + 5))), (0, .ref h0), (1, .int p1)]) hx hb dX12_due_77 hl (k := 0) rfl ev_105.symm (by decide) rfl (fun ls hl => ?_)
              have tv_105 := k_inc y_39
              rw [← ev_105] at tv_105
              refine lv_goto (tgt := 34) hx hb dX12_due_80 (by decide) ?_
              exact ih v_105 q1_92 w24_91 f_87 _ _ _ (by omega) hI hS k_94 z_95 k_93 k_98 k_99 k_100 k_101 kp_103 (by first | omega | decide | exact Or.inl (by decide)) (by first | omega | decide | exact Or.inl (by decide)) (lv_sub hl [0, 1, 2, 3] rfl)
    exact K_34 _ 0 q z24 f_19 _ _ _ (Nat.lt_succ_self _) hI hS k_28 hc1_ok k_27 k_29 k_30 k_31 k_23 kp_33 (by first | omega | decide | exact Or.inl (by decide) | (simp only [show Int32.toInt 0 = 0 from by decide] <;> omega)) (by first | omega | decide | exact Or.inl (by decide) | (simp only [show Int32.toInt 0 = 0 from by decide] <;> omega)) (lv_sub hl [0, 1, 2, 3] rfl)
  · have c_18 := kc_eq rfl (by decide : Int32.toInt 0 = 0) c_18
    refine lv_iconst (v := (-1)) hx hb dX12_due_13 (by decide) ?_
    exact W.iret (v := (-1)) hx hb hr (fun t ht hW => ⟨⟨(-1), (), rfl, trivial, ⟨f_7, k_ret ht hI, kp_9, 0, z1, z10, z12, z13, z14, z15, z16, z17, z18, z23, z24, z25, z26, q, u, im, kt, k_10, (by first | omega | decide), (by first | omega | decide), (by first | omega | decide), k_11, hc1_ok, k_12, k_13, k_14, hU⟩⟩, hS.F ht⟩) hS.2.2 dX12_due_14
theorem tw_991 : q_g (.selects RX12 yX12_runsWith yX12_runsWith) := ⟨(List.mem_append_left _ (List.mem_of_getElem? (i := 64) (by decide +kernel))), good_of_word (by decide +kernel)⟩
theorem tw_992 : q_g (.instanceMethod yX12_runsWith) := ⟨(List.mem_append_right _ (List.mem_of_getElem? (i := 1526) (by decide +kernel))), good_of_word (by decide +kernel)⟩
theorem tw_993 : q_g (.methodLink RX12 316 yX12_runsWith) := ⟨(List.mem_append_right _ (List.mem_of_getElem? (i := 1524) (by decide +kernel))), good_of_word (by decide +kernel)⟩
theorem tw_994 : q_g (.code yX12_least cX12_least 6 (some .int)) := ⟨(List.mem_append_right _ (List.mem_of_getElem? (i := 1523) (by decide +kernel))), good_of_word (by decide +kernel)⟩
def ow_c_X12_least : List Cond := [.fieldLink RX12 67 "DeadlineShareModel" "thrown" "I", .methodLink RX12 142 yX12_isTask, .instanceMethod yX12_isTask, .selects RX12 yX12_isTask yX12_isTask, .initialized RX12, .constantLong RX12 172 (60), .methodLink RX12 83 yX12_in, .static yX12_in, .fieldLink RX12 16 "DeadlineShareModel" "row" "[J", .constantLong RX12 286 (9999), .methodLink RX12 316 yX12_runsWith, .instanceMethod yX12_runsWith, .selects RX12 yX12_runsWith yX12_runsWith]
def wq_c_X12_least : List Cond := .code yX12_least cX12_least 6 (some .int) :: (ow_c_X12_least ++ (u_ws RX12 TX12 27 ++ (wq_c_X12_isTask ++ (wq_c_X12_in ++ (wq_c_X12_runsWith ++ ([] : List Cond))))))
theorem tb_c_X12_least : ∀ w ∈ wq_c_X12_least, q_g w := by
  unfold wq_c_X12_least ow_c_X12_least
  exact q_cons tw_994 (q_app (q_cons tw_927 (q_cons tw_951 (q_cons tw_950 (q_cons tw_949 (q_cons tw_728 (q_cons tw_986 (q_cons tw_730 (q_cons tw_729 (q_cons tw_731 (q_cons tw_985 (q_cons tw_993 (q_cons tw_992 (q_cons tw_991 q_nil))))))))))))) (q_app tu_X12 (q_app tb_c_X12_isTask (q_app tb_c_X12_in (q_app tb_c_X12_runsWith q_nil)))))
set_option maxHeartbeats 4000000 in
set_option maxRecDepth 100000 in
theorem c_X12_least (l : Launch) (dC : Nat → ClassId) (dI : Nat → Nat → Nat) (g : kG) (A : Nat → Prop) (hG : kWf g) (f : Nat → va_E) (h0 : Nat) (p1 : Int32) (p2 : Int32) (p3 : Int32) (z0 : Int32) (z1 : Int32) (z10 : Int32) (z12 : Int32) (z13 : Int32) (z14 : Int32) (z15 : Int32) (z16 : Int64) (z17 : Int32) (z18 : Int32) (z23 : Int32) (z24 : Int64) (z25 : Int64) (z26 : Int64) (q : Nat → Int64) (u : Nat → Int64) (im : Nat → Int64) (kt : Nat → Int32) (pp : Nat → Int64) (i_h0 : ik g 12 h0) (hc0 : f h0 = .inr (12, [.int z0, .int z1, .ref (gr g h0 2), .ref (gr g h0 3), .ref (gr g h0 4), .ref (gr g h0 5), .ref (gr g h0 6), .ref (gr g h0 7), .ref (gr g h0 8), .ref (gr g h0 9), .int z10, .ref (gr g h0 11), .int z12, .int z13, .int z14, .int z15, .long z16, .int z17, .int z18, .ref (gr g h0 19), .ref (gr g h0 20), .ref (gr g h0 21), .ref (gr g h0 22), .int z23, .long z24, .long z25, .long z26])) (hc0_10 : 0 ≤ z10.toInt ∧ z10.toInt ≤ 10) (hc0_12 : 0 ≤ z12.toInt ∧ z12.toInt ≤ 200) (hc0_23 : 0 ≤ z23.toInt ∧ z23.toInt ≤ 8) (hc1 : f (gr g h0 4) = .inl (gc g 1, 906, .inr (.inl q))) (hc1_ok : RowOK q) (hc2 : f (gr g h0 5) = .inl (gc g 1, 9060, .inr (.inl u))) (hc3 : f (gr g h0 7) = .inl (gc g 1, 1812, .inr (.inl im))) (hc4 : f (gr g h0 8) = .inl (gc g 3, 2, .inl kt)) (hc5 : f (gr g h0 6) = .inl (gc g 1, 906, .inr (.inl pp))) (hU : UIq z10 u im kt) : Met l yX12_least wq_c_X12_least ({ frames := 9, cells := 0, slots := 0, locals := 212 } : Room) (va_Pc [.ref h0, .int p1, .int p2, .int p3] (fun U => kIn dC dI g A f U)) (va_Qi (fun (r : Int32) (_ : Unit) => True) (fun (_ : Unit) t => ∃ f1 : Nat → va_E, Iv dC dI g A f1 t.heap ∧ Kp g [12, 32, 34] f f1 ∧ ∃ (w0 : Int32) (w1 : Int32) (w10 : Int32) (w12 : Int32) (w13 : Int32) (w14 : Int32) (w15 : Int32) (w16 : Int64) (w17 : Int32) (w18 : Int32) (w23 : Int32) (w24 : Int64) (w25 : Int64) (w26 : Int64) (q1 : Nat → Int64) (u1 : Nat → Int64) (im1 : Nat → Int64) (ik1 : Nat → Int32), (f1 h0 = .inr (12, [.int w0, .int w1, .ref (gr g h0 2), .ref (gr g h0 3), .ref (gr g h0 4), .ref (gr g h0 5), .ref (gr g h0 6), .ref (gr g h0 7), .ref (gr g h0 8), .ref (gr g h0 9), .int w10, .ref (gr g h0 11), .int w12, .int w13, .int w14, .int w15, .long w16, .int w17, .int w18, .ref (gr g h0 19), .ref (gr g h0 20), .ref (gr g h0 21), .ref (gr g h0 22), .int w23, .long w24, .long w25, .long w26])) ∧ (0 ≤ w10.toInt ∧ w10.toInt ≤ 10) ∧ (0 ≤ w12.toInt ∧ w12.toInt ≤ 200) ∧ (0 ≤ w23.toInt ∧ w23.toInt ≤ 8) ∧ (f1 (gr g h0 4) = .inl (gc g 1, 906, .inr (.inl q1))) ∧ (RowOK q1) ∧ (f1 (gr g h0 5) = .inl (gc g 1, 9060, .inr (.inl u1))) ∧ (f1 (gr g h0 7) = .inl (gc g 1, 1812, .inr (.inl im1))) ∧ (f1 (gr g h0 8) = .inl (gc g 3, 2, .inl ik1)) ∧ (UIq w10 u1 im1 ik1)) A) 0 0 A := by
  refine Met.ofW (cc := cX12_least) (maxL := 6) (ret := (some .int)) (by decide) rfl ?_
  intro p e s m args below meth c s₁ B hml hv
  obtain ⟨rfl, hI, hK, hE⟩ := hv
  have hx := B.exec
  have hb := B.bytes
  have hr := B.returns
  have hts := atoms_spec (ws := wq_c_X12_least) B.pre
  have hown : s.vm.findClass RX12 = some m.cls := findClass_of_methodNamed B.named
  have hlocks := B.notSynchronized
  have hS : va_S A s.heap s.heap [] := va_S.rf
  have hk0 : Kp g [12, 32, 34] f f := Kp.rf
  have hl := lv_entry ([.ref h0, .int p1, .int p2, .int p3]) (n := 6) (Nat.le_of_ble_eq_true rfl)
  rw [lg_entry_eq]
  generalize (lg_sl ([.ref h0, .int p1, .int p2, .int p3]) ++ List.replicate (6 - (lg_sl ([.ref h0, .int p1, .int p2, .int p3])).length) Slot.unset).toArray = ls at hl ⊢
  have hl : lv_has ls 6 [(0, .ref h0), (1, .int p1), (2, .int p2), (3, .int p3)] := hl
  have i_1 := kw_12_4 hG i_h0
  have d_2 := rk_hd hc1_ok
  have i_3 := kw_12_5 hG i_h0
  have i_4 := kw_12_7 hG i_h0
  have i_5 := kw_12_8 hG i_h0
  have i_6 := kw_12_6 hG i_h0
  refine lv_aload_n hx hb dX12_least_0 rfl (lv_at hl 0 rfl) ?_
  refine lv_iconst (v := 0) hx hb dX12_least_1 (by decide) ?_
  refine k_put (ci := 12) (v := .int 0) (ty := .int) (C := RX12) (T := TX12) (N := 27) hx hb hts (fun _ h0_ => List.mem_cons_of_mem _ (List.mem_append_right _ (List.mem_append_left _ h0_))) tyX12 tyX12_ok nmX12 hown hK hI hS i_h0.1 hc0 rfl 0 (by decide) (hts (.fieldLink RX12 67 "DeadlineShareModel" "thrown" "I") (List.mem_cons_of_mem _ (List.mem_append_left _ (List.mem_of_getElem? (i := 0) rfl)))) (fun _ h9 => h9) rfl (by decide +kernel) rfl rfl (Nat.le_of_ble_eq_true rfl) rfl (cl_12 i_h0 (by omega) (by omega) (by omega)) dX12_least_2 (fun f_7 H locs e_8 hI hS => ?_)
  have k_10 : f_7 h0 = .inr (12, [.int 0, .int z1, .ref (gr g h0 2), .ref (gr g h0 3), .ref (gr g h0 4), .ref (gr g h0 5), .ref (gr g h0 6), .ref (gr g h0 7), .ref (gr g h0 8), .ref (gr g h0 9), .int z10, .ref (gr g h0 11), .int z12, .int z13, .int z14, .int z15, .long z16, .int z17, .int z18, .ref (gr g h0 19), .ref (gr g h0 20), .ref (gr g h0 21), .ref (gr g h0 22), .int z23, .long z24, .long z25, .long z26]) := by rw [e_8]; exact va_up_self _ _ _
  have k_11 : f_7 (gr g h0 4) = .inl (gc g 1, 906, .inr (.inl q)) := by rw [e_8, va_up_ne _ _ (ik_ne i_1 i_h0 (by decide))]; exact hc1
  have k_12 : f_7 (gr g h0 5) = .inl (gc g 1, 9060, .inr (.inl u)) := by rw [e_8, va_up_ne _ _ (ik_ne i_3 i_h0 (by decide))]; exact hc2
  have k_13 : f_7 (gr g h0 7) = .inl (gc g 1, 1812, .inr (.inl im)) := by rw [e_8, va_up_ne _ _ (ik_ne i_4 i_h0 (by decide))]; exact hc3
  have k_14 : f_7 (gr g h0 8) = .inl (gc g 3, 2, .inl kt) := by rw [e_8, va_up_ne _ _ (ik_ne i_5 i_h0 (by decide))]; exact hc4
  have k_15 : f_7 (gr g h0 6) = .inl (gc g 1, 906, .inr (.inl pp)) := by rw [e_8, va_up_ne _ _ (ik_ne i_6 i_h0 (by decide))]; exact hc5
  have kp_9 := Kp.put hk0 i_h0 (by decide) e_8
  refine lv_aload_n hx hb dX12_least_5 rfl (lv_at hl 0 rfl) ?_
  refine lv_iload_n hx hb dX12_least_6 rfl (lv_at hl 1 rfl) ?_
  refine va_calli (va_runV (As := [.int p1]) (rest := []) ⟨hx, hb, hml, hown, hts⟩ (c_X12_isTask l dC dI g A hG f_7 h0 p1 q i_h0 k_11 hc1_ok) (cwV 1 hts (gi_V (fun w_ h0_ => ⟨List.mem_cons_of_mem _ (List.mem_append_right _ (List.mem_append_right _ (List.mem_append_left _ h0_))), (tb_c_X12_isTask w_ h0_).2⟩) (List.mem_cons_of_mem _ (List.mem_append_left _ (List.mem_of_getElem? (i := 1) rfl))) (List.mem_cons_of_mem _ (List.mem_append_left _ (List.mem_of_getElem? (i := 2) rfl))) (List.mem_cons_of_mem _ (List.mem_append_left _ (List.mem_of_getElem? (i := 3) rfl))) (List.mem_cons_of_mem _ (List.mem_append_left _ (List.mem_of_getElem? (i := 4) rfl)))) rfl rfl rfl (by decide +kernel) ⟨Nat.le_of_ble_eq_true rfl, Nat.le_of_ble_eq_true rfl⟩) ⟨fun a U g mk q => ⟨q.1, q.2.calling rfl rfl⟩, k_recv hK hI i_h0.1 k_10 (ci := 12) rfl, fun U hU hW => ⟨rfl, kIn.of hI hK hE hS hU hW⟩⟩ rfl rfl hl.1 rfl (lv_room (Nat.le_of_ble_eq_true rfl)) dX12_least_7 ⟨Nat.le_of_ble_eq_true rfl, Nat.le_of_ble_eq_true rfl⟩) hS (fun q _ h => h) (fun q h => h) (fun r_17 u9 t H1 locs ht hvm w_16 hB hz1 hk1 hS => ?_)
  have hI : Iv dC dI g A f_7 t.heap := hB
  rw [ht] at hI
  generalize H1 = H at hI hS ⊢
  refine W.widen (k := 0) (n := 0) (Nat.le_of_ble_eq_true rfl) (Nat.le_of_ble_eq_true rfl) ?_
  have w_16 : (r_17.toInt = 0 ∨ r_17.toInt = 1) ∧ (r_17.toInt = 0 ∨ (0 ≤ p1.toInt ∧ p1.toInt < (q 0).toInt)) := w_16
  refine lv_if_eq (tgt := 52) hx hb dX12_least_10 (by decide) (fun c_18 => ?_) (fun c_18 => ?_)
  · have c_18 := kc_eq rfl (by decide : Int32.toInt 0 = 0) c_18
    refine lv_iconst (v := (-1)) hx hb dX12_least_52 (by decide) ?_
    exact W.iret (v := (-1)) hx hb hr (fun t ht hW => ⟨⟨(-1), (), rfl, trivial, ⟨f_7, k_ret ht hI, kp_9, 0, z1, z10, z12, z13, z14, z15, z16, z17, z18, z23, z24, z25, z26, q, u, im, kt, k_10, (by first | omega | decide), (by first | omega | decide), (by first | omega | decide), k_11, hc1_ok, k_12, k_13, k_14, hU⟩⟩, hS.F ht⟩) hS.2.2 dX12_least_53
  · have c_18 := kn_eq rfl (by decide : Int32.toInt 0 = 0) c_18
    refine lv_iload_n hx hb dX12_least_13 rfl (lv_at hl 3 rfl) ?_
    refine lv_i2l (v := p3.toInt64) hx hb dX12_least_14 rfl ?_
    have t_19 := Int32.toInt_toInt64 p3
    have g_20 := Int32.toInt_lt p3
    have g_21 := Int32.le_toInt p3
    refine lv_lconst (v := 1) hx hb dX12_least_15 (by decide) ?_
    refine lv_ldc2 hx hb hown (hts (.constantLong RX12 172 (60)) (List.mem_cons_of_mem _ (List.mem_append_left _ (List.mem_of_getElem? (i := 5) rfl)))) dX12_least_16 ?_
    refine va_calli (va_runS (As := [.long p3.toInt64, .long 1, .long 60]) (rest := []) ⟨hx, hb, hml, hown, hts⟩ (c_X12_in l dC dI g A hG f_7 p3.toInt64 1 60) (va_cwS 3 hts (gi_S (fun w_ h0_ => ⟨List.mem_cons_of_mem _ (List.mem_append_right _ (List.mem_append_right _ (List.mem_append_right _ (List.mem_append_left _ h0_)))), (tb_c_X12_in w_ h0_).2⟩) (List.mem_cons_of_mem _ (List.mem_append_left _ (List.mem_of_getElem? (i := 6) rfl))) (List.mem_cons_of_mem _ (List.mem_append_left _ (List.mem_of_getElem? (i := 7) rfl))) (List.mem_cons_of_mem _ (List.mem_append_left _ (List.mem_of_getElem? (i := 4) rfl)))) rfl rfl rfl (by decide +kernel) ⟨Nat.le_of_ble_eq_true rfl, Nat.le_of_ble_eq_true rfl⟩) ⟨fun a U g mk q => ⟨q.1, q.2.calling rfl rfl⟩, fun U hU hW => ⟨rfl, kIn.of hI hK hE hS hU hW⟩⟩ rfl rfl hl.1 rfl (lv_room (Nat.le_of_ble_eq_true rfl)) dX12_least_19 ⟨Nat.le_of_ble_eq_true rfl, Nat.le_of_ble_eq_true rfl⟩) hS (fun q _ h => h) (fun q h => h) (fun r_23 u9 t H1 locs ht hvm w_22 hB hz1 hk1 hS => ?_)
    have hI : Iv dC dI g A f_7 t.heap := hB
    rw [ht] at hI
    generalize H1 = H at hI hS ⊢
    refine W.widen (k := 0) (n := 0) (Nat.le_of_ble_eq_true rfl) (Nat.le_of_ble_eq_true rfl) ?_
    have w_22 : (r_23.toInt = 0 ∧ (p3.toInt64.toInt < (1 : Int64).toInt ∨ (60 : Int64).toInt < p3.toInt64.toInt)) ∨ (r_23.toInt = 1 ∧ (1 : Int64).toInt ≤ p3.toInt64.toInt ∧ p3.toInt64.toInt ≤ (60 : Int64).toInt) := w_22
    have g_24 : Int64.toInt (1) = 1 := by decide
    have g_25 : Int64.toInt (60) = 60 := by decide
    refine lv_if_eq (tgt := 52) hx hb dX12_least_22 (by decide) (fun c_26 => ?_) (fun c_26 => ?_)
    · have c_26 := kc_eq rfl (by decide : Int32.toInt 0 = 0) c_26
      refine lv_iconst (v := (-1)) hx hb dX12_least_52 (by decide) ?_
      exact W.iret (v := (-1)) hx hb hr (fun t ht hW => ⟨⟨(-1), (), rfl, trivial, ⟨f_7, k_ret ht hI, kp_9, 0, z1, z10, z12, z13, z14, z15, z16, z17, z18, z23, z24, z25, z26, q, u, im, kt, k_10, (by first | omega | decide), (by first | omega | decide), (by first | omega | decide), k_11, hc1_ok, k_12, k_13, k_14, hU⟩⟩, hS.F ht⟩) hS.2.2 dX12_least_53
    · have c_26 := kn_eq rfl (by decide : Int32.toInt 0 = 0) c_26
      refine lv_iload_n hx hb dX12_least_25 rfl (lv_at hl 2 rfl) ?_
      refine lv_i2l (v := p2.toInt64) hx hb dX12_least_26 rfl ?_
      have t_27 := Int32.toInt_toInt64 p2
      have g_28 := Int32.toInt_lt p2
      have g_29 := Int32.le_toInt p2
      refine lv_lconst (v := 0) hx hb dX12_least_27 (by decide) ?_
      refine lv_iload_n hx hb dX12_least_28 rfl (lv_at hl 3 rfl) ?_
      refine lv_i2l (v := p3.toInt64) hx hb dX12_least_29 rfl ?_
      have t_30 := Int32.toInt_toInt64 p3
      have g_31 := Int32.toInt_lt p3
      have g_32 := Int32.le_toInt p3
      refine va_calli (va_runS (As := [.long p2.toInt64, .long 0, .long p3.toInt64]) (rest := []) ⟨hx, hb, hml, hown, hts⟩ (c_X12_in l dC dI g A hG f_7 p2.toInt64 0 p3.toInt64) (va_cwS 3 hts (gi_S (fun w_ h0_ => ⟨List.mem_cons_of_mem _ (List.mem_append_right _ (List.mem_append_right _ (List.mem_append_right _ (List.mem_append_left _ h0_)))), (tb_c_X12_in w_ h0_).2⟩) (List.mem_cons_of_mem _ (List.mem_append_left _ (List.mem_of_getElem? (i := 6) rfl))) (List.mem_cons_of_mem _ (List.mem_append_left _ (List.mem_of_getElem? (i := 7) rfl))) (List.mem_cons_of_mem _ (List.mem_append_left _ (List.mem_of_getElem? (i := 4) rfl)))) rfl rfl rfl (by decide +kernel) ⟨Nat.le_of_ble_eq_true rfl, Nat.le_of_ble_eq_true rfl⟩) ⟨fun a U g mk q => ⟨q.1, q.2.calling rfl rfl⟩, fun U hU hW => ⟨rfl, kIn.of hI hK hE hS hU hW⟩⟩ rfl rfl hl.1 rfl (lv_room (Nat.le_of_ble_eq_true rfl)) dX12_least_30 ⟨Nat.le_of_ble_eq_true rfl, Nat.le_of_ble_eq_true rfl⟩) hS (fun q _ h => h) (fun q h => h) (fun r_34 u9 t H1 locs ht hvm w_33 hB hz1 hk1 hS => ?_)
      have hI : Iv dC dI g A f_7 t.heap := hB
      rw [ht] at hI
      generalize H1 = H at hI hS ⊢
      refine W.widen (k := 0) (n := 0) (Nat.le_of_ble_eq_true rfl) (Nat.le_of_ble_eq_true rfl) ?_
      have w_33 : (r_34.toInt = 0 ∧ (p2.toInt64.toInt < (0 : Int64).toInt ∨ p3.toInt64.toInt < p2.toInt64.toInt)) ∨ (r_34.toInt = 1 ∧ (0 : Int64).toInt ≤ p2.toInt64.toInt ∧ p2.toInt64.toInt ≤ p3.toInt64.toInt) := w_33
      have g_35 : Int64.toInt (0) = 0 := by decide
      refine lv_if_eq (tgt := 52) hx hb dX12_least_33 (by decide) (fun c_36 => ?_) (fun c_36 => ?_)
      · have c_36 := kc_eq rfl (by decide : Int32.toInt 0 = 0) c_36
        refine lv_iconst (v := (-1)) hx hb dX12_least_52 (by decide) ?_
        exact W.iret (v := (-1)) hx hb hr (fun t ht hW => ⟨⟨(-1), (), rfl, trivial, ⟨f_7, k_ret ht hI, kp_9, 0, z1, z10, z12, z13, z14, z15, z16, z17, z18, z23, z24, z25, z26, q, u, im, kt, k_10, (by first | omega | decide), (by first | omega | decide), (by first | omega | decide), k_11, hc1_ok, k_12, k_13, k_14, hU⟩⟩, hS.F ht⟩) hS.2.2 dX12_least_53
      · have c_36 := kn_eq rfl (by decide : Int32.toInt 0 = 0) c_36
        refine lv_aload_n hx hb dX12_least_36 rfl (lv_at hl 0 rfl) ?_
        refine k_get (ci := 12) (v := .ref (gr g h0 4)) (C := RX12) (T := TX12) (N := 27) hx hb hts (fun _ h0_ => List.mem_cons_of_mem _ (List.mem_append_right _ (List.mem_append_left _ h0_))) hown hK hI i_h0.1 k_10 rfl 4 (by decide) (hts (.fieldLink RX12 16 "DeadlineShareModel" "row" "[J") (List.mem_cons_of_mem _ (List.mem_append_left _ (List.mem_of_getElem? (i := 8) rfl)))) (fun _ h9 => h9) rfl dX12_least_37 ?_
        refine lv_iconst (v := 1) hx hb dX12_least_40 (by decide) ?_
        refine k_lald hx hb hK hI i_1.1 1 k_11 rfl (by unfold vp_in; decide) dX12_least_41 ?_
        refine k_topl (y := q 1) (congrArg q (show Int32.toNatClampNeg 1 = 1 by decide)) ?_
        refine lv_iload_n hx hb dX12_least_42 rfl (lv_at hl 3 rfl) ?_
        refine lv_i2l (v := p3.toInt64) hx hb dX12_least_43 rfl ?_
        have t_39 := Int32.toInt_toInt64 p3
        have g_40 := Int32.toInt_lt p3
        have g_41 := Int32.le_toInt p3
        refine lv_ladd hx hb dX12_least_44 ?_
        refine lv_topl (fun v_42 ev_42 => ?_)
        have tv_42 := l_ad (q 1) p3.toInt64
        rw [← ev_42] at tv_42
        refine lv_ldc2 hx hb hown (hts (.constantLong RX12 286 (9999)) (List.mem_cons_of_mem _ (List.mem_append_left _ (List.mem_of_getElem? (i := 9) rfl)))) dX12_least_45 ?_
        refine W.lcmp hx hb dX12_least_48 ?_
        refine lv_if_le (tgt := 54) hx hb dX12_least_49 (by decide) (fun c_43 => ?_) (fun c_43 => ?_)
        · have c_43 := lc_le rfl (by decide : Int64.toInt 9999 = 9999) ((lg_cmp_le _ _).mp c_43)
          refine lv_iconst (v := (-1)) hx hb dX12_least_54 (by decide) ?_
          refine lv_istore (lv' := [(4, .int (-1)), (0, .ref h0), (1, .int p1), (2, .int p2), (3, .int p3)]) hx hb dX12_least_55 hl (by decide) rfl (fun ls hl => ?_)
          refine lv_bipush (v := 8) hx hb dX12_least_57 (by decide) ?_
          refine lv_istore (lv' := [(5, .int 8), (4, .int (-1)), (0, .ref h0), (1, .int p1), (2, .int p2), (3, .int p3)]) hx hb dX12_least_59 hl (by decide) rfl (fun ls hl => ?_)
          have K_61 : ∀ (nn : Nat) (y_44 : Int32) (y_45 : Int32) (q_47 : Nat → Int64) (q_50 : Nat → Int64) (y_52 : Int64) (f_46 : Nat → va_E) (H : Heap) (locs : List Loc) (ls : Array Slot), y_44.toInt.toNat < nn → Iv dC dI g A f_46 H → va_S A s.heap H locs → f_46 (gr g h0 4) = .inl (gc g 1, 906, .inr (.inl q_47)) → RowOK q_47 → f_46 (gr g h0 6) = .inl (gc g 1, 906, .inr (.inl q_50)) → f_46 h0 = .inr (12, [.int 0, .int z1, .ref (gr g h0 2), .ref (gr g h0 3), .ref (gr g h0 4), .ref (gr g h0 5), .ref (gr g h0 6), .ref (gr g h0 7), .ref (gr g h0 8), .ref (gr g h0 9), .int z10, .ref (gr g h0 11), .int z12, .int z13, .int z14, .int z15, .long z16, .int z17, .int z18, .ref (gr g h0 19), .ref (gr g h0 20), .ref (gr g h0 21), .ref (gr g h0 22), .int z23, .long y_52, .long z25, .long z26]) → f_46 (gr g h0 5) = .inl (gc g 1, 9060, .inr (.inl u)) → f_46 (gr g h0 7) = .inl (gc g 1, 1812, .inr (.inl im)) → f_46 (gr g h0 8) = .inl (gc g 3, 2, .inl kt) → Kp g [12, 32, 34] f f_46 → (0 ≤ y_44.toInt ∧ y_44.toInt ≤ 8) → ((q_47 0).toInt = (q 0).toInt) → ((q_47 1).toInt = (q 1).toInt) → lv_has ls 6 [(5, .int y_44), (4, .int y_45), (0, .ref h0), (1, .int p1), (2, .int p2), (3, .int p3)] → W p l e (headSpec wq_c_X12_least ({ frames := 9, cells := 0, slots := 0, locals := 212 } : Room)).room s m ([.ref h0, .int p1, .int p2, .int p3].toArray) below meth c H locs 0 0 (MQ below (va_Qi (fun (r : Int32) (_ : Unit) => True) (fun (_ : Unit) t => ∃ f1 : Nat → va_E, Iv dC dI g A f1 t.heap ∧ Kp g [12, 32, 34] f f1 ∧ ∃ (w0 : Int32) (w1 : Int32) (w10 : Int32) (w12 : Int32) (w13 : Int32) (w14 : Int32) (w15 : Int32) (w16 : Int64) (w17 : Int32) (w18 : Int32) (w23 : Int32) (w24 : Int64) (w25 : Int64) (w26 : Int64) (q1 : Nat → Int64) (u1 : Nat → Int64) (im1 : Nat → Int64) (ik1 : Nat → Int32), (f1 h0 = .inr (12, [.int w0, .int w1, .ref (gr g h0 2), .ref (gr g h0 3), .ref (gr g h0 4), .ref (gr g h0 5), .ref (gr g h0 6), .ref (gr g h0 7), .ref (gr g h0 8), .ref (gr g h0 9), .int w10, .ref (gr g h0 11), .int w12, .int w13, .int w14, .int w15, .long w16, .int w17, .int w18, .ref (gr g h0 19), .ref (gr g h0 20), .ref (gr g h0 21), .ref (gr g h0 22), .int w23, .long w24, .long w25, .long w26])) ∧ (0 ≤ w10.toInt ∧ w10.toInt ≤ 10) ∧ (0 ≤ w12.toInt ∧ w12.toInt ≤ 200) ∧ (0 ≤ w23.toInt ∧ w23.toInt ≤ 8) ∧ (f1 (gr g h0 4) = .inl (gc g 1, 906, .inr (.inl q1))) ∧ (RowOK q1) ∧ (f1 (gr g h0 5) = .inl (gc g 1, 9060, .inr (.inl u1))) ∧ (f1 (gr g h0 7) = .inl (gc g 1, 1812, .inr (.inl im1))) ∧ (f1 (gr g h0 8) = .inl (gc g 3, 2, .inl ik1)) ∧ (UIq w10 u1 im1 ik1)) A) ([.ref h0, .int p1, .int p2, .int p3].toArray) s 0 0 A) (F0 m 61 ls []) := by
            intro nn
            induction nn with
            | zero => intro y_44 y_45 q_47 q_50 y_52 f_46 H locs ls m_61; exact absurd m_61 (Nat.not_lt_zero _)
            | succ nn ih =>
              intro y_44 y_45 q_47 q_50 y_52 f_46 H locs ls m_61 hI hS k_48 ok_49 k_51 k_53 k_54 k_55 k_56 kp_57 t_60 t_58 t_59 hl
              have g_62 := Int32.toInt_lt y_44
              have g_63 := Int32.le_toInt y_44
              have d_64 := rk_hd ok_49
              refine lv_iload hx hb dX12_least_61 (lv_at hl 0 rfl) ?_
              refine lv_if_le (tgt := 93) hx hb dX12_least_63 (by decide) (fun c_65 => ?_) (fun c_65 => ?_)
              · have c_65 := kc_le rfl (by decide : Int32.toInt 0 = 0) c_65
                refine lv_iload hx hb dX12_least_93 (lv_at hl 1 rfl) ?_
                exact W.iret (v := y_45) hx hb hr (fun t ht hW => ⟨⟨y_45, (), rfl, trivial, ⟨f_46, k_ret ht hI, kp_57, 0, z1, z10, z12, z13, z14, z15, z16, z17, z18, z23, y_52, z25, z26, q_47, u, im, kt, k_53, (by first | omega | decide), (by first | omega | decide), (by first | omega | decide), k_48, ok_49, k_54, k_55, k_56, hU⟩⟩, hS.F ht⟩) hS.2.2 dX12_least_95
              · have c_65 := kn_le rfl (by decide : Int32.toInt 0 = 0) c_65
                refine lv_aload_n hx hb dX12_least_66 rfl (lv_at hl 2 rfl) ?_
                obtain ⟨m_66, em_66, tm_66⟩ := k_nat (x := p1) (by omega)
                refine lv_iload_n hx hb dX12_least_67 rfl (lv_at hl 3 rfl) ?_
                refine k_topi (y := nI m_66) em_66 ?_
                refine lv_iload hx hb dX12_least_68 (lv_at hl 0 rfl) ?_
                refine lv_iload_n hx hb dX12_least_70 rfl (lv_at hl 5 rfl) ?_
                refine va_calli (va_runV (As := [.int (nI m_66), .int y_44, .int p3]) (rest := []) ⟨hx, hb, hml, hown, hts⟩ (c_X12_runsWith l dC dI g A hG f_46 h0 m_66 y_44 p3 0 z1 z10 z12 z13 z14 z15 z16 z17 z18 z23 y_52 z25 z26 q_47 q_50 i_h0 k_53 (by first | omega | (simp only [k_c0]; omega)) (by first | omega | (simp only [k_c0]; omega)) (by first | omega | (simp only [k_c0]; omega)) k_48 ok_49 k_51 (by first | omega | decide | (simp only [k_c0, k_c1, k_cm1] <;> omega)) (by first | omega | decide | (simp only [k_c0, k_c1, k_cm1] <;> omega)) (by first | omega | decide | (simp only [k_c0, k_c1, k_cm1] <;> omega))) (cwV 3 hts (gi_V (fun w_ h0_ => ⟨List.mem_cons_of_mem _ (List.mem_append_right _ (List.mem_append_right _ (List.mem_append_right _ (List.mem_append_right _ (List.mem_append_left _ h0_))))), (tb_c_X12_runsWith w_ h0_).2⟩) (List.mem_cons_of_mem _ (List.mem_append_left _ (List.mem_of_getElem? (i := 10) rfl))) (List.mem_cons_of_mem _ (List.mem_append_left _ (List.mem_of_getElem? (i := 11) rfl))) (List.mem_cons_of_mem _ (List.mem_append_left _ (List.mem_of_getElem? (i := 12) rfl))) (List.mem_cons_of_mem _ (List.mem_append_left _ (List.mem_of_getElem? (i := 4) rfl)))) rfl rfl rfl (by decide +kernel) ⟨Nat.le_of_ble_eq_true rfl, Nat.le_of_ble_eq_true rfl⟩) ⟨fun a U g mk q => ⟨q.1, q.2.calling rfl rfl⟩, k_recv hK hI i_h0.1 k_53 (ci := 12) rfl, fun U hU hW => ⟨rfl, kIn.of hI hK hE hS hU hW⟩⟩ rfl rfl hl.1 rfl (lv_room (Nat.le_of_ble_eq_true rfl)) dX12_least_71 ⟨Nat.le_of_ble_eq_true rfl, Nat.le_of_ble_eq_true rfl⟩) hS (fun q _ h => h) (fun q h => h) (fun r_69 u9 t H1 locs ht hvm w_68 hB hz1 hk1 hS => ?_)
                obtain ⟨f_67, hI, kc_70, w24_71, q1_72, pp1_73, k_74, k_75, z_76, z_77, z_78, k_79⟩ := hB
                rw [ht] at hI
                have k_80 : f_67 (gr g h0 5) = .inl (gc g 1, 9060, .inr (.inl u)) := Kp.at kc_70 i_3 (by decide) k_54
                have k_81 : f_67 (gr g h0 7) = .inl (gc g 1, 1812, .inr (.inl im)) := Kp.at kc_70 i_4 (by decide) k_55
                have k_82 : f_67 (gr g h0 8) = .inl (gc g 3, 2, .inl kt) := Kp.at kc_70 i_5 (by decide) k_56
                have k_74 : f_67 h0 = .inr (12, [.int (0 : Int32), .int z1, .ref (gr g h0 2), .ref (gr g h0 3), .ref (gr g h0 4), .ref (gr g h0 5), .ref (gr g h0 6), .ref (gr g h0 7), .ref (gr g h0 8), .ref (gr g h0 9), .int z10, .ref (gr g h0 11), .int z12, .int z13, .int z14, .int z15, .long z16, .int z17, .int z18, .ref (gr g h0 19), .ref (gr g h0 20), .ref (gr g h0 21), .ref (gr g h0 22), .int z23, .long w24_71, .long z25, .long z26]) := k_74
                have z_76 : RowOK q1_72 := z_76
                have d_83 := rk_hd z_76
                have z_77 : (q1_72 0).toInt = (q_47 0).toInt := z_77
                have z_78 : (q1_72 1).toInt = (q_47 1).toInt := z_78
                have kp_84 := Kp.call kp_57 kc_70 (by decide)
                generalize H1 = H at hI hS ⊢
                refine W.widen (k := 0) (n := 0) (Nat.le_of_ble_eq_true rfl) (Nat.le_of_ble_eq_true rfl) ?_
                refine lv_iload_n hx hb dX12_least_74 rfl (lv_at hl 4 rfl) ?_
                have J_85 : ∀ (y_85 : Int32) (H : Heap) (locs : List Loc) (ls : Array Slot), Iv dC dI g A f_67 H → va_S A s.heap H locs → lv_has ls 6 [(5, .int y_44), (4, .int y_45), (0, .ref h0), (1, .int p1), (2, .int p2), (3, .int p3)] → W p l e (headSpec wq_c_X12_least ({ frames := 9, cells := 0, slots := 0, locals := 212 } : Room)).room s m ([.ref h0, .int p1, .int p2, .int p3].toArray) below meth c H locs 0 0 (MQ below (va_Qi (fun (r : Int32) (_ : Unit) => True) (fun (_ : Unit) t => ∃ f1 : Nat → va_E, Iv dC dI g A f1 t.heap ∧ Kp g [12, 32, 34] f f1 ∧ ∃ (w0 : Int32) (w1 : Int32) (w10 : Int32) (w12 : Int32) (w13 : Int32) (w14 : Int32) (w15 : Int32) (w16 : Int64) (w17 : Int32) (w18 : Int32) (w23 : Int32) (w24 : Int64) (w25 : Int64) (w26 : Int64) (q1 : Nat → Int64) (u1 : Nat → Int64) (im1 : Nat → Int64) (ik1 : Nat → Int32), (f1 h0 = .inr (12, [.int w0, .int w1, .ref (gr g h0 2), .ref (gr g h0 3), .ref (gr g h0 4), .ref (gr g h0 5), .ref (gr g h0 6), .ref (gr g h0 7), .ref (gr g h0 8), .ref (gr g h0 9), .int w10, .ref (gr g h0 11), .int w12, .int w13, .int w14, .int w15, .long w16, .int w17, .int w18, .ref (gr g h0 19), .ref (gr g h0 20), .ref (gr g h0 21), .ref (gr g h0 22), .int w23, .long w24, .long w25, .long w26])) ∧ (0 ≤ w10.toInt ∧ w10.toInt ≤ 10) ∧ (0 ≤ w12.toInt ∧ w12.toInt ≤ 200) ∧ (0 ≤ w23.toInt ∧ w23.toInt ≤ 8) ∧ (f1 (gr g h0 4) = .inl (gc g 1, 906, .inr (.inl q1))) ∧ (RowOK q1) ∧ (f1 (gr g h0 5) = .inl (gc g 1, 9060, .inr (.inl u1))) ∧ (f1 (gr g h0 7) = .inl (gc g 1, 1812, .inr (.inl im1))) ∧ (f1 (gr g h0 8) = .inl (gc g 3, 2, .inl ik1)) ∧ (UIq w10 u1 im1 ik1)) A) ([.ref h0, .int p1, .int p2, .int p3].toArray) s 0 0 A) (F0 m 85 ls [.int y_85]) := by
                  intro y_85 H locs ls hI hS  hl
                  refine lv_istore (lv' := [(4, .int y_85), (5, .int y_44), (0, .ref h0), (1, .int p1), (2, .int p2), (3, .int p3)]) hx hb dX12_least_85 hl (by decide) rfl (fun ls hl => ?_)
                  obtain ⟨v_86, ev_86⟩ : ∃ y : Int32, y = y_44 + Int32.ofInt (-1) := ⟨_, rfl⟩
                  refine lv_iinc (v := v_86) (lv' := [(5, .int v_86), (4, .int y_85), (0, .ref h0), (1, .int p1), (2, .int p2), (3, .int p3)]) hx hb dX12_least_87 hl (k := 1) rfl ev_86.symm (by decide) rfl (fun ls hl => ?_)
                  have tv_86 := k_dec y_44
                  rw [← ev_86] at tv_86
                  refine lv_goto (tgt := 61) hx hb dX12_least_90 (by decide) ?_
                  exact ih v_86 y_85 q1_72 pp1_73 w24_71 f_67 _ _ _ (by omega) hI hS k_75 z_76 k_79 k_74 k_80 k_81 k_82 kp_84 (by first | omega | decide | exact Or.inl (by decide)) (by first | omega | decide | exact Or.inl (by decide)) (by first | omega | decide | exact Or.inl (by decide)) (lv_sub hl [0, 1, 2, 3, 4, 5] rfl)
                refine lv_icmp_lt (tgt := 83) hx hb dX12_least_75 (by decide) (fun c_87 => ?_) (fun c_87 => ?_)
                · have c_87 := kc_lt rfl rfl c_87
                  refine lv_iload hx hb dX12_least_83 (lv_at hl 1 rfl) ?_
                  exact J_85 y_45 _ _ _ hI hS  (lv_sub hl [0, 1, 2, 3, 4, 5] rfl)
                · have c_87 := kn_lt rfl rfl c_87
                  refine lv_iload hx hb dX12_least_78 (lv_at hl 0 rfl) ?_
                  refine lv_goto (tgt := 85) hx hb dX12_least_80 (by decide) ?_
                  exact J_85 y_44 _ _ _ hI hS  (lv_sub hl [0, 1, 2, 3, 4, 5] rfl)
          exact K_61 _ 8 (-1) q pp z24 f_7 _ _ _ (Nat.lt_succ_self _) hI hS k_11 hc1_ok k_15 k_10 k_12 k_13 k_14 kp_9 (by first | omega | decide | exact Or.inl (by decide) | (simp only [show Int32.toInt 8 = 8 from by decide, show Int32.toInt (-1) = (-1) from by decide] <;> omega)) (by first | omega | decide | exact Or.inl (by decide) | (simp only [show Int32.toInt 8 = 8 from by decide, show Int32.toInt (-1) = (-1) from by decide] <;> omega)) (by first | omega | decide | exact Or.inl (by decide) | (simp only [show Int32.toInt 8 = 8 from by decide, show Int32.toInt (-1) = (-1) from by decide] <;> omega)) (lv_sub hl [0, 1, 2, 3, 4, 5] rfl)
        · have c_43 := ln_le rfl (by decide : Int64.toInt 9999 = 9999) (fun h9 => c_43 ((lg_cmp_le _ _).mpr h9))
          refine lv_iconst (v := (-1)) hx hb dX12_least_52 (by decide) ?_
          exact W.iret (v := (-1)) hx hb hr (fun t ht hW => ⟨⟨(-1), (), rfl, trivial, ⟨f_7, k_ret ht hI, kp_9, 0, z1, z10, z12, z13, z14, z15, z16, z17, z18, z23, z24, z25, z26, q, u, im, kt, k_10, (by first | omega | decide), (by first | omega | decide), (by first | omega | decide), k_11, hc1_ok, k_12, k_13, k_14, hU⟩⟩, hS.F ht⟩) hS.2.2 dX12_least_53
theorem tw_995 : q_g (.selects RX12 yX12_lookAtLags yX12_lookAtLags) := ⟨(List.mem_append_left _ (List.mem_of_getElem? (i := 65) (by decide +kernel))), good_of_word (by decide +kernel)⟩
theorem tw_996 : q_g (.instanceMethod yX12_lookAtLags) := ⟨(List.mem_append_right _ (List.mem_of_getElem? (i := 1535) (by decide +kernel))), good_of_word (by decide +kernel)⟩
theorem tw_997 : q_g (.methodLink RX12 331 yX12_lookAtLags) := ⟨(List.mem_append_right _ (List.mem_of_getElem? (i := 1533) (by decide +kernel))), good_of_word (by decide +kernel)⟩
theorem tw_998 : q_g (.constant RX12 330 (-2147483648)) := ⟨(List.mem_append_right _ (List.mem_of_getElem? (i := 1532) (by decide +kernel))), good_of_word (by decide +kernel)⟩
theorem tw_999 : q_g (.code yX12_would cX12_would 10 (some .int)) := ⟨(List.mem_append_right _ (List.mem_of_getElem? (i := 1531) (by decide +kernel))), good_of_word (by decide +kernel)⟩
def ow_c_X12_would : List Cond := [.fieldLink RX12 67 "DeadlineShareModel" "thrown" "I", .constantLong RX12 227 (4), .methodLink RX12 83 yX12_in, .static yX12_in, .initialized RX12, .constant RX12 330 (-2147483648), .constantLong RX12 172 (60), .constantLong RX12 124 (3), .fieldLink RX12 16 "DeadlineShareModel" "row" "[J", .constantLong RX12 286 (9999), .methodLink RX12 310 yX12_begin, .instanceMethod yX12_begin, .selects RX12 yX12_begin yX12_begin, .fieldLink RX12 13 "DeadlineShareModel" "term" "[I", .fieldLink RX12 249 "DeadlineShareModel" "state" "J", .fieldLink RX12 322 "DeadlineShareModel" "most1" "J", .fieldLink RX12 325 "DeadlineShareModel" "least1" "J", .methodLink RX12 313 yX12_over, .instanceMethod yX12_over, .selects RX12 yX12_over yX12_over, .methodLink RX12 288 yX12_tick, .instanceMethod yX12_tick, .selects RX12 yX12_tick yX12_tick, .methodLink RX12 331 yX12_lookAtLags, .instanceMethod yX12_lookAtLags, .selects RX12 yX12_lookAtLags yX12_lookAtLags]
def wq_c_X12_would : List Cond := .code yX12_would cX12_would 10 (some .int) :: (ow_c_X12_would ++ (u_ws RX12 TX12 27 ++ (wq_c_X12_in ++ (wq_c_X12_begin ++ (wq_c_X12_over ++ (wq_c_X12_tick ++ (wq_c_X12_lookAtLags ++ ([] : List Cond))))))))
theorem tb_c_X12_would : ∀ w ∈ wq_c_X12_would, q_g w := by
  unfold wq_c_X12_would ow_c_X12_would
  exact q_cons tw_999 (q_app (q_cons tw_927 (q_cons tw_820 (q_cons tw_730 (q_cons tw_729 (q_cons tw_728 (q_cons tw_998 (q_cons tw_986 (q_cons tw_854 (q_cons tw_731 (q_cons tw_985 (q_cons tw_925 (q_cons tw_924 (q_cons tw_923 (q_cons tw_762 (q_cons tw_788 (q_cons tw_907 (q_cons tw_906 (q_cons tw_922 (q_cons tw_921 (q_cons tw_920 (q_cons tw_919 (q_cons tw_918 (q_cons tw_917 (q_cons tw_997 (q_cons tw_996 (q_cons tw_995 q_nil)))))))))))))))))))))))))) (q_app tu_X12 (q_app tb_c_X12_in (q_app tb_c_X12_begin (q_app tb_c_X12_over (q_app tb_c_X12_tick (q_app tb_c_X12_lookAtLags q_nil)))))))
set_option maxHeartbeats 4000000 in
set_option maxRecDepth 100000 in
theorem c_X12_would (l : Launch) (dC : Nat → ClassId) (dI : Nat → Nat → Nat) (g : kG) (A : Nat → Prop) (hG : kWf g) (f : Nat → va_E) (h0 : Nat) (p1 : Int32) (p2 : Int32) (p3 : Int32) (z0 : Int32) (z1 : Int32) (z10 : Int32) (z12 : Int32) (z13 : Int32) (z14 : Int32) (z15 : Int32) (z16 : Int64) (z17 : Int32) (z18 : Int32) (z23 : Int32) (z24 : Int64) (z25 : Int64) (z26 : Int64) (q : Nat → Int64) (u : Nat → Int64) (im : Nat → Int64) (kt : Nat → Int32) (pp : Nat → Int64) (i_h0 : ik g 12 h0) (hc0 : f h0 = .inr (12, [.int z0, .int z1, .ref (gr g h0 2), .ref (gr g h0 3), .ref (gr g h0 4), .ref (gr g h0 5), .ref (gr g h0 6), .ref (gr g h0 7), .ref (gr g h0 8), .ref (gr g h0 9), .int z10, .ref (gr g h0 11), .int z12, .int z13, .int z14, .int z15, .long z16, .int z17, .int z18, .ref (gr g h0 19), .ref (gr g h0 20), .ref (gr g h0 21), .ref (gr g h0 22), .int z23, .long z24, .long z25, .long z26])) (hc0_10 : 0 ≤ z10.toInt ∧ z10.toInt ≤ 10) (hc0_12 : 0 ≤ z12.toInt ∧ z12.toInt ≤ 200) (hc0_23 : 0 ≤ z23.toInt ∧ z23.toInt ≤ 8) (hc1 : f (gr g h0 4) = .inl (gc g 1, 906, .inr (.inl q))) (hc1_ok : RowOK q) (hc2 : f (gr g h0 5) = .inl (gc g 1, 9060, .inr (.inl u))) (hc3 : f (gr g h0 7) = .inl (gc g 1, 1812, .inr (.inl im))) (hc4 : f (gr g h0 8) = .inl (gc g 3, 2, .inl kt)) (hc5 : f (gr g h0 6) = .inl (gc g 1, 906, .inr (.inl pp))) (hU : UIq z10 u im kt) : Met l yX12_would wq_c_X12_would ({ frames := 8, cells := 0, slots := 0, locals := 187 } : Room) (va_Pc [.ref h0, .int p1, .int p2, .int p3] (fun U => kIn dC dI g A f U)) (va_Qi (fun (r : Int32) (_ : Unit) => True) (fun (_ : Unit) t => ∃ f1 : Nat → va_E, Iv dC dI g A f1 t.heap ∧ Kp g [12, 32, 34] f f1 ∧ ∃ (w0 : Int32) (w1 : Int32) (w10 : Int32) (w12 : Int32) (w13 : Int32) (w14 : Int32) (w15 : Int32) (w16 : Int64) (w17 : Int32) (w18 : Int32) (w23 : Int32) (w24 : Int64) (w25 : Int64) (w26 : Int64) (q1 : Nat → Int64) (u1 : Nat → Int64) (im1 : Nat → Int64) (ik1 : Nat → Int32), (f1 h0 = .inr (12, [.int w0, .int w1, .ref (gr g h0 2), .ref (gr g h0 3), .ref (gr g h0 4), .ref (gr g h0 5), .ref (gr g h0 6), .ref (gr g h0 7), .ref (gr g h0 8), .ref (gr g h0 9), .int w10, .ref (gr g h0 11), .int w12, .int w13, .int w14, .int w15, .long w16, .int w17, .int w18, .ref (gr g h0 19), .ref (gr g h0 20), .ref (gr g h0 21), .ref (gr g h0 22), .int w23, .long w24, .long w25, .long w26])) ∧ (0 ≤ w10.toInt ∧ w10.toInt ≤ 10) ∧ (0 ≤ w12.toInt ∧ w12.toInt ≤ 200) ∧ (0 ≤ w23.toInt ∧ w23.toInt ≤ 8) ∧ (f1 (gr g h0 4) = .inl (gc g 1, 906, .inr (.inl q1))) ∧ (RowOK q1) ∧ (f1 (gr g h0 5) = .inl (gc g 1, 9060, .inr (.inl u1))) ∧ (f1 (gr g h0 7) = .inl (gc g 1, 1812, .inr (.inl im1))) ∧ (f1 (gr g h0 8) = .inl (gc g 3, 2, .inl ik1)) ∧ (UIq w10 u1 im1 ik1)) A) 0 0 A := by
  refine Met.ofW (cc := cX12_would) (maxL := 10) (ret := (some .int)) (by decide) rfl ?_
  intro p e s m args below meth c s₁ B hml hv
  obtain ⟨rfl, hI, hK, hE⟩ := hv
  have hx := B.exec
  have hb := B.bytes
  have hr := B.returns
  have hts := atoms_spec (ws := wq_c_X12_would) B.pre
  have hown : s.vm.findClass RX12 = some m.cls := findClass_of_methodNamed B.named
  have hlocks := B.notSynchronized
  have hS : va_S A s.heap s.heap [] := va_S.rf
  have hk0 : Kp g [12, 32, 34] f f := Kp.rf
  have hl := lv_entry ([.ref h0, .int p1, .int p2, .int p3]) (n := 10) (Nat.le_of_ble_eq_true rfl)
  rw [lg_entry_eq]
  generalize (lg_sl ([.ref h0, .int p1, .int p2, .int p3]) ++ List.replicate (10 - (lg_sl ([.ref h0, .int p1, .int p2, .int p3])).length) Slot.unset).toArray = ls at hl ⊢
  have hl : lv_has ls 10 [(0, .ref h0), (1, .int p1), (2, .int p2), (3, .int p3)] := hl
  have i_1 := kw_12_4 hG i_h0
  have d_2 := rk_hd hc1_ok
  have i_3 := kw_12_5 hG i_h0
  have i_4 := kw_12_7 hG i_h0
  have i_5 := kw_12_8 hG i_h0
  have i_6 := kw_12_6 hG i_h0
  refine lv_aload_n hx hb dX12_would_0 rfl (lv_at hl 0 rfl) ?_
  refine lv_iconst (v := 0) hx hb dX12_would_1 (by decide) ?_
  refine k_put (ci := 12) (v := .int 0) (ty := .int) (C := RX12) (T := TX12) (N := 27) hx hb hts (fun _ h0_ => List.mem_cons_of_mem _ (List.mem_append_right _ (List.mem_append_left _ h0_))) tyX12 tyX12_ok nmX12 hown hK hI hS i_h0.1 hc0 rfl 0 (by decide) (hts (.fieldLink RX12 67 "DeadlineShareModel" "thrown" "I") (List.mem_cons_of_mem _ (List.mem_append_left _ (List.mem_of_getElem? (i := 0) rfl)))) (fun _ h9 => h9) rfl (by decide +kernel) rfl rfl (Nat.le_of_ble_eq_true rfl) rfl (cl_12 i_h0 (by omega) (by omega) (by omega)) dX12_would_2 (fun f_7 H locs e_8 hI hS => ?_)
  have k_10 : f_7 h0 = .inr (12, [.int 0, .int z1, .ref (gr g h0 2), .ref (gr g h0 3), .ref (gr g h0 4), .ref (gr g h0 5), .ref (gr g h0 6), .ref (gr g h0 7), .ref (gr g h0 8), .ref (gr g h0 9), .int z10, .ref (gr g h0 11), .int z12, .int z13, .int z14, .int z15, .long z16, .int z17, .int z18, .ref (gr g h0 19), .ref (gr g h0 20), .ref (gr g h0 21), .ref (gr g h0 22), .int z23, .long z24, .long z25, .long z26]) := by rw [e_8]; exact va_up_self _ _ _
  have k_11 : f_7 (gr g h0 4) = .inl (gc g 1, 906, .inr (.inl q)) := by rw [e_8, va_up_ne _ _ (ik_ne i_1 i_h0 (by decide))]; exact hc1
  have k_12 : f_7 (gr g h0 5) = .inl (gc g 1, 9060, .inr (.inl u)) := by rw [e_8, va_up_ne _ _ (ik_ne i_3 i_h0 (by decide))]; exact hc2
  have k_13 : f_7 (gr g h0 7) = .inl (gc g 1, 1812, .inr (.inl im)) := by rw [e_8, va_up_ne _ _ (ik_ne i_4 i_h0 (by decide))]; exact hc3
  have k_14 : f_7 (gr g h0 8) = .inl (gc g 3, 2, .inl kt) := by rw [e_8, va_up_ne _ _ (ik_ne i_5 i_h0 (by decide))]; exact hc4
  have k_15 : f_7 (gr g h0 6) = .inl (gc g 1, 906, .inr (.inl pp)) := by rw [e_8, va_up_ne _ _ (ik_ne i_6 i_h0 (by decide))]; exact hc5
  have kp_9 := Kp.put hk0 i_h0 (by decide) e_8
  refine lv_iload_n hx hb dX12_would_5 rfl (lv_at hl 1 rfl) ?_
  refine lv_i2l (v := p1.toInt64) hx hb dX12_would_6 rfl ?_
  have t_16 := Int32.toInt_toInt64 p1
  have g_17 := Int32.toInt_lt p1
  have g_18 := Int32.le_toInt p1
  refine lv_lconst (v := 0) hx hb dX12_would_7 (by decide) ?_
  refine lv_ldc2 hx hb hown (hts (.constantLong RX12 227 (4)) (List.mem_cons_of_mem _ (List.mem_append_left _ (List.mem_of_getElem? (i := 1) rfl)))) dX12_would_8 ?_
  refine va_calli (va_runS (As := [.long p1.toInt64, .long 0, .long 4]) (rest := []) ⟨hx, hb, hml, hown, hts⟩ (c_X12_in l dC dI g A hG f_7 p1.toInt64 0 4) (va_cwS 3 hts (gi_S (fun w_ h0_ => ⟨List.mem_cons_of_mem _ (List.mem_append_right _ (List.mem_append_right _ (List.mem_append_left _ h0_))), (tb_c_X12_in w_ h0_).2⟩) (List.mem_cons_of_mem _ (List.mem_append_left _ (List.mem_of_getElem? (i := 2) rfl))) (List.mem_cons_of_mem _ (List.mem_append_left _ (List.mem_of_getElem? (i := 3) rfl))) (List.mem_cons_of_mem _ (List.mem_append_left _ (List.mem_of_getElem? (i := 4) rfl)))) rfl rfl rfl (by decide +kernel) ⟨Nat.le_of_ble_eq_true rfl, Nat.le_of_ble_eq_true rfl⟩) ⟨fun a U g mk q => ⟨q.1, q.2.calling rfl rfl⟩, fun U hU hW => ⟨rfl, kIn.of hI hK hE hS hU hW⟩⟩ rfl rfl hl.1 rfl (lv_room (Nat.le_of_ble_eq_true rfl)) dX12_would_11 ⟨Nat.le_of_ble_eq_true rfl, Nat.le_of_ble_eq_true rfl⟩) hS (fun q _ h => h) (fun q h => h) (fun r_20 u9 t H1 locs ht hvm w_19 hB hz1 hk1 hS => ?_)
  have hI : Iv dC dI g A f_7 t.heap := hB
  rw [ht] at hI
  generalize H1 = H at hI hS ⊢
  refine W.widen (k := 0) (n := 0) (Nat.le_of_ble_eq_true rfl) (Nat.le_of_ble_eq_true rfl) ?_
  have w_19 : (r_20.toInt = 0 ∧ (p1.toInt64.toInt < (0 : Int64).toInt ∨ (4 : Int64).toInt < p1.toInt64.toInt)) ∨ (r_20.toInt = 1 ∧ (0 : Int64).toInt ≤ p1.toInt64.toInt ∧ p1.toInt64.toInt ≤ (4 : Int64).toInt) := w_19
  have g_21 : Int64.toInt (0) = 0 := by decide
  have g_22 : Int64.toInt (4) = 4 := by decide
  refine lv_if_eq (tgt := 57) hx hb dX12_would_14 (by decide) (fun c_23 => ?_) (fun c_23 => ?_)
  · have c_23 := kc_eq rfl (by decide : Int32.toInt 0 = 0) c_23
    refine lv_ldcw hx hb hown (hts (.constant RX12 330 (-2147483648)) (List.mem_cons_of_mem _ (List.mem_append_left _ (List.mem_of_getElem? (i := 5) rfl)))) dX12_would_57 ?_
    exact W.iret (v := (-2147483648)) hx hb hr (fun t ht hW => ⟨⟨(-2147483648), (), rfl, trivial, ⟨f_7, k_ret ht hI, kp_9, 0, z1, z10, z12, z13, z14, z15, z16, z17, z18, z23, z24, z25, z26, q, u, im, kt, k_10, (by first | omega | decide), (by first | omega | decide), (by first | omega | decide), k_11, hc1_ok, k_12, k_13, k_14, hU⟩⟩, hS.F ht⟩) hS.2.2 dX12_would_60
  · have c_23 := kn_eq rfl (by decide : Int32.toInt 0 = 0) c_23
    refine lv_iload_n hx hb dX12_would_17 rfl (lv_at hl 2 rfl) ?_
    refine lv_i2l (v := p2.toInt64) hx hb dX12_would_18 rfl ?_
    have t_24 := Int32.toInt_toInt64 p2
    have g_25 := Int32.toInt_lt p2
    have g_26 := Int32.le_toInt p2
    refine lv_lconst (v := 1) hx hb dX12_would_19 (by decide) ?_
    refine lv_ldc2 hx hb hown (hts (.constantLong RX12 172 (60)) (List.mem_cons_of_mem _ (List.mem_append_left _ (List.mem_of_getElem? (i := 6) rfl)))) dX12_would_20 ?_
    refine va_calli (va_runS (As := [.long p2.toInt64, .long 1, .long 60]) (rest := []) ⟨hx, hb, hml, hown, hts⟩ (c_X12_in l dC dI g A hG f_7 p2.toInt64 1 60) (va_cwS 3 hts (gi_S (fun w_ h0_ => ⟨List.mem_cons_of_mem _ (List.mem_append_right _ (List.mem_append_right _ (List.mem_append_left _ h0_))), (tb_c_X12_in w_ h0_).2⟩) (List.mem_cons_of_mem _ (List.mem_append_left _ (List.mem_of_getElem? (i := 2) rfl))) (List.mem_cons_of_mem _ (List.mem_append_left _ (List.mem_of_getElem? (i := 3) rfl))) (List.mem_cons_of_mem _ (List.mem_append_left _ (List.mem_of_getElem? (i := 4) rfl)))) rfl rfl rfl (by decide +kernel) ⟨Nat.le_of_ble_eq_true rfl, Nat.le_of_ble_eq_true rfl⟩) ⟨fun a U g mk q => ⟨q.1, q.2.calling rfl rfl⟩, fun U hU hW => ⟨rfl, kIn.of hI hK hE hS hU hW⟩⟩ rfl rfl hl.1 rfl (lv_room (Nat.le_of_ble_eq_true rfl)) dX12_would_23 ⟨Nat.le_of_ble_eq_true rfl, Nat.le_of_ble_eq_true rfl⟩) hS (fun q _ h => h) (fun q h => h) (fun r_28 u9 t H1 locs ht hvm w_27 hB hz1 hk1 hS => ?_)
    have hI : Iv dC dI g A f_7 t.heap := hB
    rw [ht] at hI
    generalize H1 = H at hI hS ⊢
    refine W.widen (k := 0) (n := 0) (Nat.le_of_ble_eq_true rfl) (Nat.le_of_ble_eq_true rfl) ?_
    have w_27 : (r_28.toInt = 0 ∧ (p2.toInt64.toInt < (1 : Int64).toInt ∨ (60 : Int64).toInt < p2.toInt64.toInt)) ∨ (r_28.toInt = 1 ∧ (1 : Int64).toInt ≤ p2.toInt64.toInt ∧ p2.toInt64.toInt ≤ (60 : Int64).toInt) := w_27
    have g_29 : Int64.toInt (1) = 1 := by decide
    have g_30 : Int64.toInt (60) = 60 := by decide
    refine lv_if_eq (tgt := 57) hx hb dX12_would_26 (by decide) (fun c_31 => ?_) (fun c_31 => ?_)
    · have c_31 := kc_eq rfl (by decide : Int32.toInt 0 = 0) c_31
      refine lv_ldcw hx hb hown (hts (.constant RX12 330 (-2147483648)) (List.mem_cons_of_mem _ (List.mem_append_left _ (List.mem_of_getElem? (i := 5) rfl)))) dX12_would_57 ?_
      exact W.iret (v := (-2147483648)) hx hb hr (fun t ht hW => ⟨⟨(-2147483648), (), rfl, trivial, ⟨f_7, k_ret ht hI, kp_9, 0, z1, z10, z12, z13, z14, z15, z16, z17, z18, z23, z24, z25, z26, q, u, im, kt, k_10, (by first | omega | decide), (by first | omega | decide), (by first | omega | decide), k_11, hc1_ok, k_12, k_13, k_14, hU⟩⟩, hS.F ht⟩) hS.2.2 dX12_would_60
    · have c_31 := kn_eq rfl (by decide : Int32.toInt 0 = 0) c_31
      refine lv_iload_n hx hb dX12_would_29 rfl (lv_at hl 3 rfl) ?_
      refine lv_i2l (v := p3.toInt64) hx hb dX12_would_30 rfl ?_
      have t_32 := Int32.toInt_toInt64 p3
      have g_33 := Int32.toInt_lt p3
      have g_34 := Int32.le_toInt p3
      refine lv_lconst (v := 0) hx hb dX12_would_31 (by decide) ?_
      refine lv_ldc2 hx hb hown (hts (.constantLong RX12 124 (3)) (List.mem_cons_of_mem _ (List.mem_append_left _ (List.mem_of_getElem? (i := 7) rfl)))) dX12_would_32 ?_
      refine va_calli (va_runS (As := [.long p3.toInt64, .long 0, .long 3]) (rest := []) ⟨hx, hb, hml, hown, hts⟩ (c_X12_in l dC dI g A hG f_7 p3.toInt64 0 3) (va_cwS 3 hts (gi_S (fun w_ h0_ => ⟨List.mem_cons_of_mem _ (List.mem_append_right _ (List.mem_append_right _ (List.mem_append_left _ h0_))), (tb_c_X12_in w_ h0_).2⟩) (List.mem_cons_of_mem _ (List.mem_append_left _ (List.mem_of_getElem? (i := 2) rfl))) (List.mem_cons_of_mem _ (List.mem_append_left _ (List.mem_of_getElem? (i := 3) rfl))) (List.mem_cons_of_mem _ (List.mem_append_left _ (List.mem_of_getElem? (i := 4) rfl)))) rfl rfl rfl (by decide +kernel) ⟨Nat.le_of_ble_eq_true rfl, Nat.le_of_ble_eq_true rfl⟩) ⟨fun a U g mk q => ⟨q.1, q.2.calling rfl rfl⟩, fun U hU hW => ⟨rfl, kIn.of hI hK hE hS hU hW⟩⟩ rfl rfl hl.1 rfl (lv_room (Nat.le_of_ble_eq_true rfl)) dX12_would_35 ⟨Nat.le_of_ble_eq_true rfl, Nat.le_of_ble_eq_true rfl⟩) hS (fun q _ h => h) (fun q h => h) (fun r_36 u9 t H1 locs ht hvm w_35 hB hz1 hk1 hS => ?_)
      have hI : Iv dC dI g A f_7 t.heap := hB
      rw [ht] at hI
      generalize H1 = H at hI hS ⊢
      refine W.widen (k := 0) (n := 0) (Nat.le_of_ble_eq_true rfl) (Nat.le_of_ble_eq_true rfl) ?_
      have w_35 : (r_36.toInt = 0 ∧ (p3.toInt64.toInt < (0 : Int64).toInt ∨ (3 : Int64).toInt < p3.toInt64.toInt)) ∨ (r_36.toInt = 1 ∧ (0 : Int64).toInt ≤ p3.toInt64.toInt ∧ p3.toInt64.toInt ≤ (3 : Int64).toInt) := w_35
      have g_37 : Int64.toInt (0) = 0 := by decide
      have g_38 : Int64.toInt (3) = 3 := by decide
      refine lv_if_eq (tgt := 57) hx hb dX12_would_38 (by decide) (fun c_39 => ?_) (fun c_39 => ?_)
      · have c_39 := kc_eq rfl (by decide : Int32.toInt 0 = 0) c_39
        refine lv_ldcw hx hb hown (hts (.constant RX12 330 (-2147483648)) (List.mem_cons_of_mem _ (List.mem_append_left _ (List.mem_of_getElem? (i := 5) rfl)))) dX12_would_57 ?_
        exact W.iret (v := (-2147483648)) hx hb hr (fun t ht hW => ⟨⟨(-2147483648), (), rfl, trivial, ⟨f_7, k_ret ht hI, kp_9, 0, z1, z10, z12, z13, z14, z15, z16, z17, z18, z23, z24, z25, z26, q, u, im, kt, k_10, (by first | omega | decide), (by first | omega | decide), (by first | omega | decide), k_11, hc1_ok, k_12, k_13, k_14, hU⟩⟩, hS.F ht⟩) hS.2.2 dX12_would_60
      · have c_39 := kn_eq rfl (by decide : Int32.toInt 0 = 0) c_39
        refine lv_aload_n hx hb dX12_would_41 rfl (lv_at hl 0 rfl) ?_
        refine k_get (ci := 12) (v := .ref (gr g h0 4)) (C := RX12) (T := TX12) (N := 27) hx hb hts (fun _ h0_ => List.mem_cons_of_mem _ (List.mem_append_right _ (List.mem_append_left _ h0_))) hown hK hI i_h0.1 k_10 rfl 4 (by decide) (hts (.fieldLink RX12 16 "DeadlineShareModel" "row" "[J") (List.mem_cons_of_mem _ (List.mem_append_left _ (List.mem_of_getElem? (i := 8) rfl)))) (fun _ h9 => h9) rfl dX12_would_42 ?_
        refine lv_iconst (v := 1) hx hb dX12_would_45 (by decide) ?_
        refine k_lald hx hb hK hI i_1.1 1 k_11 rfl (by unfold vp_in; decide) dX12_would_46 ?_
        refine k_topl (y := q 1) (congrArg q (show Int32.toNatClampNeg 1 = 1 by decide)) ?_
        refine lv_iload_n hx hb dX12_would_47 rfl (lv_at hl 2 rfl) ?_
        refine lv_i2l (v := p2.toInt64) hx hb dX12_would_48 rfl ?_
        have t_42 := Int32.toInt_toInt64 p2
        have g_43 := Int32.toInt_lt p2
        have g_44 := Int32.le_toInt p2
        refine lv_ladd hx hb dX12_would_49 ?_
        refine lv_topl (fun v_45 ev_45 => ?_)
        have tv_45 := l_ad (q 1) p2.toInt64
        rw [← ev_45] at tv_45
        refine lv_ldc2 hx hb hown (hts (.constantLong RX12 286 (9999)) (List.mem_cons_of_mem _ (List.mem_append_left _ (List.mem_of_getElem? (i := 9) rfl)))) dX12_would_50 ?_
        refine W.lcmp hx hb dX12_would_53 ?_
        refine lv_if_le (tgt := 61) hx hb dX12_would_54 (by decide) (fun c_46 => ?_) (fun c_46 => ?_)
        · have c_46 := lc_le rfl (by decide : Int64.toInt 9999 = 9999) ((lg_cmp_le _ _).mp c_46)
          refine lv_aload_n hx hb dX12_would_61 rfl (lv_at hl 0 rfl) ?_
          refine va_callv (va_runV (As := []) (rest := []) ⟨hx, hb, hml, hown, hts⟩ (c_X12_begin l dC dI g A hG f_7 h0 q pp i_h0 k_11 hc1_ok k_15) (cwV 0 hts (gi_V (fun w_ h0_ => ⟨List.mem_cons_of_mem _ (List.mem_append_right _ (List.mem_append_right _ (List.mem_append_right _ (List.mem_append_left _ h0_)))), (tb_c_X12_begin w_ h0_).2⟩) (List.mem_cons_of_mem _ (List.mem_append_left _ (List.mem_of_getElem? (i := 10) rfl))) (List.mem_cons_of_mem _ (List.mem_append_left _ (List.mem_of_getElem? (i := 11) rfl))) (List.mem_cons_of_mem _ (List.mem_append_left _ (List.mem_of_getElem? (i := 12) rfl))) (List.mem_cons_of_mem _ (List.mem_append_left _ (List.mem_of_getElem? (i := 4) rfl)))) rfl rfl rfl (by decide +kernel) ⟨Nat.le_of_ble_eq_true rfl, Nat.le_of_ble_eq_true rfl⟩) ⟨fun a U g mk q => ⟨q.1, q.2.calling rfl rfl⟩, k_recv hK hI i_h0.1 k_10 (ci := 12) rfl, fun U hU hW => ⟨rfl, kIn.of hI hK hE hS hU hW⟩⟩ rfl rfl hl.1 rfl (lv_room (Nat.le_of_ble_eq_true rfl)) dX12_would_62 ⟨Nat.le_of_ble_eq_true rfl, Nat.le_of_ble_eq_true rfl⟩) hS (fun q _ h => h) (fun q h => h) (fun u9 t H1 locs ht hvm _ hB hz1 hk1 hS => ?_)
          obtain ⟨f_47, hI, kc_49, pp1_50, k_51, z_52, z_53, z_54⟩ := hB
          rw [ht] at hI
          have k_55 : f_47 h0 = .inr (12, [.int 0, .int z1, .ref (gr g h0 2), .ref (gr g h0 3), .ref (gr g h0 4), .ref (gr g h0 5), .ref (gr g h0 6), .ref (gr g h0 7), .ref (gr g h0 8), .ref (gr g h0 9), .int z10, .ref (gr g h0 11), .int z12, .int z13, .int z14, .int z15, .long z16, .int z17, .int z18, .ref (gr g h0 19), .ref (gr g h0 20), .ref (gr g h0 21), .ref (gr g h0 22), .int z23, .long z24, .long z25, .long z26]) := Kp.at kc_49 i_h0 (by decide) k_10
          have k_56 : f_47 (gr g h0 4) = .inl (gc g 1, 906, .inr (.inl q)) := Kp.at kc_49 i_1 (by decide) k_11
          have k_57 : f_47 (gr g h0 5) = .inl (gc g 1, 9060, .inr (.inl u)) := Kp.at kc_49 i_3 (by decide) k_12
          have k_58 : f_47 (gr g h0 7) = .inl (gc g 1, 1812, .inr (.inl im)) := Kp.at kc_49 i_4 (by decide) k_13
          have k_59 : f_47 (gr g h0 8) = .inl (gc g 3, 2, .inl kt) := Kp.at kc_49 i_5 (by decide) k_14
          have z_52 : RowOK pp1_50 := z_52
          have d_60 := rk_hd z_52
          have z_53 : (pp1_50 0).toInt = (q 0).toInt := z_53
          have z_54 : (pp1_50 1).toInt = (q 1).toInt := z_54
          have kp_61 := Kp.call kp_9 kc_49 (by decide)
          generalize H1 = H at hI hS ⊢
          refine W.widen (k := 0) (n := 0) (Nat.le_of_ble_eq_true rfl) (Nat.le_of_ble_eq_true rfl) ?_
          refine lv_aload_n hx hb dX12_would_65 rfl (lv_at hl 0 rfl) ?_
          refine lv_aload_n hx hb dX12_would_66 rfl (lv_at hl 0 rfl) ?_
          refine k_get (ci := 12) (v := .ref (gr g h0 3)) (C := RX12) (T := TX12) (N := 27) hx hb hts (fun _ h0_ => List.mem_cons_of_mem _ (List.mem_append_right _ (List.mem_append_left _ h0_))) hown hK hI i_h0.1 k_55 rfl 3 (by decide) (hts (.fieldLink RX12 13 "DeadlineShareModel" "term" "[I") (List.mem_cons_of_mem _ (List.mem_append_left _ (List.mem_of_getElem? (i := 13) rfl)))) (fun _ h9 => h9) rfl dX12_would_67 ?_
          have i_63 := kw_12_3 hG i_h0
          refine lv_iconst (v := 2) hx hb dX12_would_70 (by decide) ?_
          obtain ⟨q_65, k_64⟩ := op_31 hI i_63
          refine k_iald hx hb hK hI i_63.1 0 k_64 rfl (by unfold vp_in; decide) dX12_would_71 ?_
          refine k_topi (y := q_65 2) (congrArg q_65 (show Int32.toNatClampNeg 2 = 2 by decide)) ?_
          refine lv_i2l (v := (q_65 2).toInt64) hx hb dX12_would_72 rfl ?_
          have t_66 := Int32.toInt_toInt64 (q_65 2)
          have g_67 := Int32.toInt_lt (q_65 2)
          have g_68 := Int32.le_toInt (q_65 2)
          refine k_put (ci := 12) (v := .long ((q_65 2).toInt64)) (ty := .long) (C := RX12) (T := TX12) (N := 27) hx hb hts (fun _ h0_ => List.mem_cons_of_mem _ (List.mem_append_right _ (List.mem_append_left _ h0_))) tyX12 tyX12_ok nmX12 hown hK hI hS i_h0.1 k_55 rfl 24 (by decide) (hts (.fieldLink RX12 249 "DeadlineShareModel" "state" "J") (List.mem_cons_of_mem _ (List.mem_append_left _ (List.mem_of_getElem? (i := 14) rfl)))) (fun _ h9 => h9) rfl (by decide +kernel) rfl rfl (Nat.le_of_ble_eq_true rfl) rfl (cl_12 i_h0 (by omega) (by omega) (by omega)) dX12_would_73 (fun f_69 H locs e_70 hI hS => ?_)
          have k_72 : f_69 h0 = .inr (12, [.int 0, .int z1, .ref (gr g h0 2), .ref (gr g h0 3), .ref (gr g h0 4), .ref (gr g h0 5), .ref (gr g h0 6), .ref (gr g h0 7), .ref (gr g h0 8), .ref (gr g h0 9), .int z10, .ref (gr g h0 11), .int z12, .int z13, .int z14, .int z15, .long z16, .int z17, .int z18, .ref (gr g h0 19), .ref (gr g h0 20), .ref (gr g h0 21), .ref (gr g h0 22), .int z23, .long ((q_65 2).toInt64), .long z25, .long z26]) := by rw [e_70]; exact va_up_self _ _ _
          have k_73 : f_69 (gr g h0 4) = .inl (gc g 1, 906, .inr (.inl q)) := by rw [e_70, va_up_ne _ _ (ik_ne i_1 i_h0 (by decide))]; exact k_56
          have k_74 : f_69 (gr g h0 5) = .inl (gc g 1, 9060, .inr (.inl u)) := by rw [e_70, va_up_ne _ _ (ik_ne i_3 i_h0 (by decide))]; exact k_57
          have k_75 : f_69 (gr g h0 7) = .inl (gc g 1, 1812, .inr (.inl im)) := by rw [e_70, va_up_ne _ _ (ik_ne i_4 i_h0 (by decide))]; exact k_58
          have k_76 : f_69 (gr g h0 8) = .inl (gc g 3, 2, .inl kt) := by rw [e_70, va_up_ne _ _ (ik_ne i_5 i_h0 (by decide))]; exact k_59
          have k_77 : f_69 (gr g h0 6) = .inl (gc g 1, 906, .inr (.inl pp1_50)) := by rw [e_70, va_up_ne _ _ (ik_ne i_6 i_h0 (by decide))]; exact k_51
          have k_78 : f_69 (gr g h0 3) = .inl (gc g 0, 3, .inl q_65) := by rw [e_70, va_up_ne _ _ (ik_ne i_63 i_h0 (by decide))]; exact k_64
          have kp_71 := Kp.put kp_61 i_h0 (by decide) e_70
          refine lv_aload_n hx hb dX12_would_76 rfl (lv_at hl 0 rfl) ?_
          refine lv_lconst (v := 0) hx hb dX12_would_77 (by decide) ?_
          refine k_put (ci := 12) (v := .long 0) (ty := .long) (C := RX12) (T := TX12) (N := 27) hx hb hts (fun _ h0_ => List.mem_cons_of_mem _ (List.mem_append_right _ (List.mem_append_left _ h0_))) tyX12 tyX12_ok nmX12 hown hK hI hS i_h0.1 k_72 rfl 25 (by decide) (hts (.fieldLink RX12 322 "DeadlineShareModel" "most1" "J") (List.mem_cons_of_mem _ (List.mem_append_left _ (List.mem_of_getElem? (i := 15) rfl)))) (fun _ h9 => h9) rfl (by decide +kernel) rfl rfl (Nat.le_of_ble_eq_true rfl) rfl (cl_12 i_h0 (by omega) (by omega) (by omega)) dX12_would_78 (fun f_79 H locs e_80 hI hS => ?_)
          have k_82 : f_79 h0 = .inr (12, [.int 0, .int z1, .ref (gr g h0 2), .ref (gr g h0 3), .ref (gr g h0 4), .ref (gr g h0 5), .ref (gr g h0 6), .ref (gr g h0 7), .ref (gr g h0 8), .ref (gr g h0 9), .int z10, .ref (gr g h0 11), .int z12, .int z13, .int z14, .int z15, .long z16, .int z17, .int z18, .ref (gr g h0 19), .ref (gr g h0 20), .ref (gr g h0 21), .ref (gr g h0 22), .int z23, .long ((q_65 2).toInt64), .long 0, .long z26]) := by rw [e_80]; exact va_up_self _ _ _
          have k_83 : f_79 (gr g h0 4) = .inl (gc g 1, 906, .inr (.inl q)) := by rw [e_80, va_up_ne _ _ (ik_ne i_1 i_h0 (by decide))]; exact k_73
          have k_84 : f_79 (gr g h0 5) = .inl (gc g 1, 9060, .inr (.inl u)) := by rw [e_80, va_up_ne _ _ (ik_ne i_3 i_h0 (by decide))]; exact k_74
          have k_85 : f_79 (gr g h0 7) = .inl (gc g 1, 1812, .inr (.inl im)) := by rw [e_80, va_up_ne _ _ (ik_ne i_4 i_h0 (by decide))]; exact k_75
          have k_86 : f_79 (gr g h0 8) = .inl (gc g 3, 2, .inl kt) := by rw [e_80, va_up_ne _ _ (ik_ne i_5 i_h0 (by decide))]; exact k_76
          have k_87 : f_79 (gr g h0 6) = .inl (gc g 1, 906, .inr (.inl pp1_50)) := by rw [e_80, va_up_ne _ _ (ik_ne i_6 i_h0 (by decide))]; exact k_77
          have k_88 : f_79 (gr g h0 3) = .inl (gc g 0, 3, .inl q_65) := by rw [e_80, va_up_ne _ _ (ik_ne i_63 i_h0 (by decide))]; exact k_78
          have kp_81 := Kp.put kp_71 i_h0 (by decide) e_80
          refine lv_aload_n hx hb dX12_would_81 rfl (lv_at hl 0 rfl) ?_
          refine lv_lconst (v := 0) hx hb dX12_would_82 (by decide) ?_
          refine k_put (ci := 12) (v := .long 0) (ty := .long) (C := RX12) (T := TX12) (N := 27) hx hb hts (fun _ h0_ => List.mem_cons_of_mem _ (List.mem_append_right _ (List.mem_append_left _ h0_))) tyX12 tyX12_ok nmX12 hown hK hI hS i_h0.1 k_82 rfl 26 (by decide) (hts (.fieldLink RX12 325 "DeadlineShareModel" "least1" "J") (List.mem_cons_of_mem _ (List.mem_append_left _ (List.mem_of_getElem? (i := 16) rfl)))) (fun _ h9 => h9) rfl (by decide +kernel) rfl rfl (Nat.le_of_ble_eq_true rfl) rfl (cl_12 i_h0 (by omega) (by omega) (by omega)) dX12_would_83 (fun f_89 H locs e_90 hI hS => ?_)
          have k_92 : f_89 h0 = .inr (12, [.int 0, .int z1, .ref (gr g h0 2), .ref (gr g h0 3), .ref (gr g h0 4), .ref (gr g h0 5), .ref (gr g h0 6), .ref (gr g h0 7), .ref (gr g h0 8), .ref (gr g h0 9), .int z10, .ref (gr g h0 11), .int z12, .int z13, .int z14, .int z15, .long z16, .int z17, .int z18, .ref (gr g h0 19), .ref (gr g h0 20), .ref (gr g h0 21), .ref (gr g h0 22), .int z23, .long ((q_65 2).toInt64), .long 0, .long 0]) := by rw [e_90]; exact va_up_self _ _ _
          have k_93 : f_89 (gr g h0 4) = .inl (gc g 1, 906, .inr (.inl q)) := by rw [e_90, va_up_ne _ _ (ik_ne i_1 i_h0 (by decide))]; exact k_83
          have k_94 : f_89 (gr g h0 5) = .inl (gc g 1, 9060, .inr (.inl u)) := by rw [e_90, va_up_ne _ _ (ik_ne i_3 i_h0 (by decide))]; exact k_84
          have k_95 : f_89 (gr g h0 7) = .inl (gc g 1, 1812, .inr (.inl im)) := by rw [e_90, va_up_ne _ _ (ik_ne i_4 i_h0 (by decide))]; exact k_85
          have k_96 : f_89 (gr g h0 8) = .inl (gc g 3, 2, .inl kt) := by rw [e_90, va_up_ne _ _ (ik_ne i_5 i_h0 (by decide))]; exact k_86
          have k_97 : f_89 (gr g h0 6) = .inl (gc g 1, 906, .inr (.inl pp1_50)) := by rw [e_90, va_up_ne _ _ (ik_ne i_6 i_h0 (by decide))]; exact k_87
          have k_98 : f_89 (gr g h0 3) = .inl (gc g 0, 3, .inl q_65) := by rw [e_90, va_up_ne _ _ (ik_ne i_63 i_h0 (by decide))]; exact k_88
          have kp_91 := Kp.put kp_81 i_h0 (by decide) e_90
          refine lv_iconst (v := 0) hx hb dX12_would_86 (by decide) ?_
          refine lv_istore (lv' := [(4, .int 0), (0, .ref h0), (1, .int p1), (2, .int p2), (3, .int p3)]) hx hb dX12_would_87 hl (by decide) rfl (fun ls hl => ?_)
          refine lv_iconst (v := 0) hx hb dX12_would_89 (by decide) ?_
          refine lv_istore (lv' := [(5, .int 0), (4, .int 0), (0, .ref h0), (1, .int p1), (2, .int p2), (3, .int p3)]) hx hb dX12_would_90 hl (by decide) rfl (fun ls hl => ?_)
          refine lv_iconst (v := 0) hx hb dX12_would_92 (by decide) ?_
          refine lv_istore (lv' := [(6, .int 0), (5, .int 0), (4, .int 0), (0, .ref h0), (1, .int p1), (2, .int p2), (3, .int p3)]) hx hb dX12_would_93 hl (by decide) rfl (fun ls hl => ?_)
          have K_95 : ∀ (nn : Nat) (y_99 : Int32) (y_100 : Int32) (y_101 : Int32) (q_103 : Nat → Int64) (y_106 : Int64) (y_107 : Int64) (y_108 : Int64) (f_102 : Nat → va_E) (H : Heap) (locs : List Loc) (ls : Array Slot), (p2.toInt - y_99.toInt).toNat < nn → Iv dC dI g A f_102 H → va_S A s.heap H locs → f_102 (gr g h0 4) = .inl (gc g 1, 906, .inr (.inl q_103)) → RowOK q_103 → f_102 h0 = .inr (12, [.int 0, .int z1, .ref (gr g h0 2), .ref (gr g h0 3), .ref (gr g h0 4), .ref (gr g h0 5), .ref (gr g h0 6), .ref (gr g h0 7), .ref (gr g h0 8), .ref (gr g h0 9), .int z10, .ref (gr g h0 11), .int z12, .int z13, .int z14, .int z15, .long z16, .int z17, .int z18, .ref (gr g h0 19), .ref (gr g h0 20), .ref (gr g h0 21), .ref (gr g h0 22), .int z23, .long y_106, .long y_107, .long y_108]) → f_102 (gr g h0 5) = .inl (gc g 1, 9060, .inr (.inl u)) → f_102 (gr g h0 7) = .inl (gc g 1, 1812, .inr (.inl im)) → f_102 (gr g h0 8) = .inl (gc g 3, 2, .inl kt) → f_102 (gr g h0 6) = .inl (gc g 1, 906, .inr (.inl pp1_50)) → f_102 (gr g h0 3) = .inl (gc g 0, 3, .inl q_65) → Kp g [12, 32, 34] f f_102 → ((q_103 0).toInt = (q 0).toInt) → ((q_103 1).toInt = (q 1).toInt + y_99.toInt) → (0 ≤ y_99.toInt) → lv_has ls 10 [(6, .int y_99), (5, .int y_100), (4, .int y_101), (0, .ref h0), (1, .int p1), (2, .int p2), (3, .int p3)] → W p l e (headSpec wq_c_X12_would ({ frames := 8, cells := 0, slots := 0, locals := 187 } : Room)).room s m ([.ref h0, .int p1, .int p2, .int p3].toArray) below meth c H locs 0 0 (MQ below (va_Qi (fun (r : Int32) (_ : Unit) => True) (fun (_ : Unit) t => ∃ f1 : Nat → va_E, Iv dC dI g A f1 t.heap ∧ Kp g [12, 32, 34] f f1 ∧ ∃ (w0 : Int32) (w1 : Int32) (w10 : Int32) (w12 : Int32) (w13 : Int32) (w14 : Int32) (w15 : Int32) (w16 : Int64) (w17 : Int32) (w18 : Int32) (w23 : Int32) (w24 : Int64) (w25 : Int64) (w26 : Int64) (q1 : Nat → Int64) (u1 : Nat → Int64) (im1 : Nat → Int64) (ik1 : Nat → Int32), (f1 h0 = .inr (12, [.int w0, .int w1, .ref (gr g h0 2), .ref (gr g h0 3), .ref (gr g h0 4), .ref (gr g h0 5), .ref (gr g h0 6), .ref (gr g h0 7), .ref (gr g h0 8), .ref (gr g h0 9), .int w10, .ref (gr g h0 11), .int w12, .int w13, .int w14, .int w15, .long w16, .int w17, .int w18, .ref (gr g h0 19), .ref (gr g h0 20), .ref (gr g h0 21), .ref (gr g h0 22), .int w23, .long w24, .long w25, .long w26])) ∧ (0 ≤ w10.toInt ∧ w10.toInt ≤ 10) ∧ (0 ≤ w12.toInt ∧ w12.toInt ≤ 200) ∧ (0 ≤ w23.toInt ∧ w23.toInt ≤ 8) ∧ (f1 (gr g h0 4) = .inl (gc g 1, 906, .inr (.inl q1))) ∧ (RowOK q1) ∧ (f1 (gr g h0 5) = .inl (gc g 1, 9060, .inr (.inl u1))) ∧ (f1 (gr g h0 7) = .inl (gc g 1, 1812, .inr (.inl im1))) ∧ (f1 (gr g h0 8) = .inl (gc g 3, 2, .inl ik1)) ∧ (UIq w10 u1 im1 ik1)) A) ([.ref h0, .int p1, .int p2, .int p3].toArray) s 0 0 A) (F0 m 95 ls []) := by
            intro nn
            induction nn with
            | zero => intro y_99 y_100 y_101 q_103 y_106 y_107 y_108 f_102 H locs ls m_119; exact absurd m_119 (Nat.not_lt_zero _)
            | succ nn ih =>
              intro y_99 y_100 y_101 q_103 y_106 y_107 y_108 f_102 H locs ls m_119 hI hS k_104 ok_105 k_109 k_110 k_111 k_112 k_113 k_114 kp_115 t_116 t_117 t_118 hl
              have g_120 := Int32.toInt_lt p2
              have g_121 := Int32.le_toInt p2
              have g_122 := Int32.toInt_lt y_99
              have g_123 := Int32.le_toInt y_99
              have d_124 := rk_hd ok_105
              refine lv_iload hx hb dX12_would_95 (lv_at hl 0 rfl) ?_
              refine lv_iload_n hx hb dX12_would_97 rfl (lv_at hl 5 rfl) ?_
              refine lv_icmp_ge (tgt := 167) hx hb dX12_would_98 (by decide) (fun c_125 => ?_) (fun c_125 => ?_)
              · have c_125 := kc_le rfl rfl c_125
                refine lv_aload_n hx hb dX12_would_167 rfl (lv_at hl 3 rfl) ?_
                refine va_callv (va_runV (As := []) (rest := []) ⟨hx, hb, hml, hown, hts⟩ (c_X12_over l dC dI g A hG f_102 h0 q_103 pp1_50 i_h0 k_104 k_113 z_52) (cwV 0 hts (gi_V (fun w_ h0_ => ⟨List.mem_cons_of_mem _ (List.mem_append_right _ (List.mem_append_right _ (List.mem_append_right _ (List.mem_append_right _ (List.mem_append_left _ h0_))))), (tb_c_X12_over w_ h0_).2⟩) (List.mem_cons_of_mem _ (List.mem_append_left _ (List.mem_of_getElem? (i := 17) rfl))) (List.mem_cons_of_mem _ (List.mem_append_left _ (List.mem_of_getElem? (i := 18) rfl))) (List.mem_cons_of_mem _ (List.mem_append_left _ (List.mem_of_getElem? (i := 19) rfl))) (List.mem_cons_of_mem _ (List.mem_append_left _ (List.mem_of_getElem? (i := 4) rfl)))) rfl rfl rfl (by decide +kernel) ⟨Nat.le_of_ble_eq_true rfl, Nat.le_of_ble_eq_true rfl⟩) ⟨fun a U g mk q => ⟨q.1, q.2.calling rfl rfl⟩, k_recv hK hI i_h0.1 k_109 (ci := 12) rfl, fun U hU hW => ⟨rfl, kIn.of hI hK hE hS hU hW⟩⟩ rfl rfl hl.1 rfl (lv_room (Nat.le_of_ble_eq_true rfl)) dX12_would_168 ⟨Nat.le_of_ble_eq_true rfl, Nat.le_of_ble_eq_true rfl⟩) hS (fun q _ h => h) (fun q h => h) (fun u9 t H1 locs ht hvm _ hB hz1 hk1 hS => ?_)
                obtain ⟨f_126, hI, kc_128, q1_129, k_130, z_131, z_132, z_133⟩ := hB
                rw [ht] at hI
                have k_134 : f_126 h0 = .inr (12, [.int 0, .int z1, .ref (gr g h0 2), .ref (gr g h0 3), .ref (gr g h0 4), .ref (gr g h0 5), .ref (gr g h0 6), .ref (gr g h0 7), .ref (gr g h0 8), .ref (gr g h0 9), .int z10, .ref (gr g h0 11), .int z12, .int z13, .int z14, .int z15, .long z16, .int z17, .int z18, .ref (gr g h0 19), .ref (gr g h0 20), .ref (gr g h0 21), .ref (gr g h0 22), .int z23, .long y_106, .long y_107, .long y_108]) := Kp.at kc_128 i_h0 (by decide) k_109
                have k_135 : f_126 (gr g h0 5) = .inl (gc g 1, 9060, .inr (.inl u)) := Kp.at kc_128 i_3 (by decide) k_110
                have k_136 : f_126 (gr g h0 7) = .inl (gc g 1, 1812, .inr (.inl im)) := Kp.at kc_128 i_4 (by decide) k_111
                have k_137 : f_126 (gr g h0 8) = .inl (gc g 3, 2, .inl kt) := Kp.at kc_128 i_5 (by decide) k_112
                have k_138 : f_126 (gr g h0 6) = .inl (gc g 1, 906, .inr (.inl pp1_50)) := Kp.at kc_128 i_6 (by decide) k_113
                have k_139 : f_126 (gr g h0 3) = .inl (gc g 0, 3, .inl q_65) := Kp.at kc_128 i_63 (by decide) k_114
                have z_131 : RowOK q1_129 := z_131
                have d_140 := rk_hd z_131
                have z_132 : (q1_129 0).toInt = (pp1_50 0).toInt := z_132
                have z_133 : (q1_129 1).toInt = (pp1_50 1).toInt := z_133
                have kp_141 := Kp.call kp_115 kc_128 (by decide)
                generalize H1 = H at hI hS ⊢
                refine W.widen (k := 0) (n := 0) (Nat.le_of_ble_eq_true rfl) (Nat.le_of_ble_eq_true rfl) ?_
                refine lv_iload_n hx hb dX12_would_171 rfl (lv_at hl 6 rfl) ?_
                refine lv_if_ne (tgt := 183) hx hb dX12_would_172 (by decide) (fun c_142 => ?_) (fun c_142 => ?_)
                · have c_142 := kn_eq rfl (by decide : Int32.toInt 0 = 0) c_142
                  refine lv_iload_n hx hb dX12_would_183 rfl (lv_at hl 6 rfl) ?_
                  refine lv_iconst (v := 1) hx hb dX12_would_184 (by decide) ?_
                  refine lv_icmp_ne (tgt := 196) hx hb dX12_would_185 (by decide) (fun c_143 => ?_) (fun c_143 => ?_)
                  · have c_143 := kn_eq rfl (by decide : Int32.toInt 1 = 1) c_143
                    refine lv_iload_n hx hb dX12_would_196 rfl (lv_at hl 6 rfl) ?_
                    refine lv_iconst (v := 2) hx hb dX12_would_197 (by decide) ?_
                    refine lv_icmp_ne (tgt := 206) hx hb dX12_would_198 (by decide) (fun c_144 => ?_) (fun c_144 => ?_)
                    · have c_144 := kn_eq rfl (by decide : Int32.toInt 2 = 2) c_144
                      refine lv_iload hx hb dX12_would_206 (lv_at hl 1 rfl) ?_
                      exact W.iret (v := y_100) hx hb hr (fun t ht hW => ⟨⟨y_100, (), rfl, trivial, ⟨f_126, k_ret ht hI, kp_141, 0, z1, z10, z12, z13, z14, z15, z16, z17, z18, z23, y_106, y_107, y_108, q1_129, u, im, kt, k_134, (by first | omega | decide), (by first | omega | decide), (by first | omega | decide), k_130, z_131, k_135, k_136, k_137, hU⟩⟩, hS.F ht⟩) hS.2.2 dX12_would_208
                    · have c_144 := kc_eq rfl (by decide : Int32.toInt 2 = 2) c_144
                      refine lv_iload hx hb dX12_would_201 (lv_at hl 2 rfl) ?_
                      refine lv_goto (tgt := 208) hx hb dX12_would_203 (by decide) ?_
                      exact W.iret (v := y_101) hx hb hr (fun t ht hW => ⟨⟨y_101, (), rfl, trivial, ⟨f_126, k_ret ht hI, kp_141, 0, z1, z10, z12, z13, z14, z15, z16, z17, z18, z23, y_106, y_107, y_108, q1_129, u, im, kt, k_134, (by first | omega | decide), (by first | omega | decide), (by first | omega | decide), k_130, z_131, k_135, k_136, k_137, hU⟩⟩, hS.F ht⟩) hS.2.2 dX12_would_208
                  · have c_143 := kc_eq rfl (by decide : Int32.toInt 1 = 1) c_143
                    refine lv_aload_n hx hb dX12_would_188 rfl (lv_at hl 3 rfl) ?_
                    refine k_get (ci := 12) (v := .long y_108) (C := RX12) (T := TX12) (N := 27) hx hb hts (fun _ h0_ => List.mem_cons_of_mem _ (List.mem_append_right _ (List.mem_append_left _ h0_))) hown hK hI i_h0.1 k_134 rfl 26 (by decide) (hts (.fieldLink RX12 325 "DeadlineShareModel" "least1" "J") (List.mem_cons_of_mem _ (List.mem_append_left _ (List.mem_of_getElem? (i := 16) rfl)))) (fun _ h9 => h9) rfl dX12_would_189 ?_
                    refine lv_l2i (v := y_108.toInt32) hx hb dX12_would_192 rfl ?_
                    refine lv_topi (fun v_145 ev_145 => ?_)
                    have tv_145 := k_l2i y_108
                    rw [← ev_145] at tv_145
                    refine lv_goto (tgt := 208) hx hb dX12_would_193 (by decide) ?_
                    exact W.iret (v := v_145) hx hb hr (fun t ht hW => ⟨⟨v_145, (), rfl, trivial, ⟨f_126, k_ret ht hI, kp_141, 0, z1, z10, z12, z13, z14, z15, z16, z17, z18, z23, y_106, y_107, y_108, q1_129, u, im, kt, k_134, (by first | omega | decide), (by first | omega | decide), (by first | omega | decide), k_130, z_131, k_135, k_136, k_137, hU⟩⟩, hS.F ht⟩) hS.2.2 dX12_would_208
                · have c_142 := kc_eq rfl (by decide : Int32.toInt 0 = 0) c_142
                  refine lv_aload_n hx hb dX12_would_175 rfl (lv_at hl 3 rfl) ?_
                  refine k_get (ci := 12) (v := .long y_107) (C := RX12) (T := TX12) (N := 27) hx hb hts (fun _ h0_ => List.mem_cons_of_mem _ (List.mem_append_right _ (List.mem_append_left _ h0_))) hown hK hI i_h0.1 k_134 rfl 25 (by decide) (hts (.fieldLink RX12 322 "DeadlineShareModel" "most1" "J") (List.mem_cons_of_mem _ (List.mem_append_left _ (List.mem_of_getElem? (i := 15) rfl)))) (fun _ h9 => h9) rfl dX12_would_176 ?_
                  refine lv_l2i (v := y_107.toInt32) hx hb dX12_would_179 rfl ?_
                  refine lv_topi (fun v_146 ev_146 => ?_)
                  have tv_146 := k_l2i y_107
                  rw [← ev_146] at tv_146
                  refine lv_goto (tgt := 208) hx hb dX12_would_180 (by decide) ?_
                  exact W.iret (v := v_146) hx hb hr (fun t ht hW => ⟨⟨v_146, (), rfl, trivial, ⟨f_126, k_ret ht hI, kp_141, 0, z1, z10, z12, z13, z14, z15, z16, z17, z18, z23, y_106, y_107, y_108, q1_129, u, im, kt, k_134, (by first | omega | decide), (by first | omega | decide), (by first | omega | decide), k_130, z_131, k_135, k_136, k_137, hU⟩⟩, hS.F ht⟩) hS.2.2 dX12_would_208
              · have c_125 := kn_le rfl rfl c_125
                refine lv_aload_n hx hb dX12_would_101 rfl (lv_at hl 3 rfl) ?_
                refine k_get (ci := 12) (v := .ref (gr g h0 4)) (C := RX12) (T := TX12) (N := 27) hx hb hts (fun _ h0_ => List.mem_cons_of_mem _ (List.mem_append_right _ (List.mem_append_left _ h0_))) hown hK hI i_h0.1 k_109 rfl 4 (by decide) (hts (.fieldLink RX12 16 "DeadlineShareModel" "row" "[J") (List.mem_cons_of_mem _ (List.mem_append_left _ (List.mem_of_getElem? (i := 8) rfl)))) (fun _ h9 => h9) rfl dX12_would_102 ?_
                refine lv_iconst (v := 3) hx hb dX12_would_105 (by decide) ?_
                refine k_lald hx hb hK hI i_1.1 1 k_104 rfl (by unfold vp_in; decide) dX12_would_106 ?_
                refine k_topl (y := q_103 3) (congrArg q_103 (show Int32.toNatClampNeg 3 = 3 by decide)) ?_
                refine lv_lstore (lv' := [(7, .long (q_103 3)), (6, .int y_99), (5, .int y_100), (4, .int y_101), (0, .ref h0), (1, .int p1), (2, .int p2), (3, .int p3)]) hx hb dX12_would_107 hl (by decide) rfl (fun ls hl => ?_)
                refine lv_aload_n hx hb dX12_would_109 rfl (lv_at hl 4 rfl) ?_
                refine lv_iload_n hx hb dX12_would_110 rfl (lv_at hl 5 rfl) ?_
                refine va_calli (va_runV (As := [.int p1]) (rest := []) ⟨hx, hb, hml, hown, hts⟩ (c_X12_tick l dC dI g A hG f_102 h0 p1 0 z1 z10 z12 z13 z14 z15 z16 z17 z18 z23 y_106 y_107 y_108 q_103 i_h0 k_109 (by first | omega | (simp only [k_c0]; omega)) (by first | omega | (simp only [k_c0]; omega)) (by first | omega | (simp only [k_c0]; omega)) k_104 ok_105 (by first | omega | decide | (simp only [k_c0, k_c1, k_cm1] <;> omega))) (cwV 1 hts (gi_V (fun w_ h0_ => ⟨List.mem_cons_of_mem _ (List.mem_append_right _ (List.mem_append_right _ (List.mem_append_right _ (List.mem_append_right _ (List.mem_append_right _ (List.mem_append_left _ h0_)))))), (tb_c_X12_tick w_ h0_).2⟩) (List.mem_cons_of_mem _ (List.mem_append_left _ (List.mem_of_getElem? (i := 20) rfl))) (List.mem_cons_of_mem _ (List.mem_append_left _ (List.mem_of_getElem? (i := 21) rfl))) (List.mem_cons_of_mem _ (List.mem_append_left _ (List.mem_of_getElem? (i := 22) rfl))) (List.mem_cons_of_mem _ (List.mem_append_left _ (List.mem_of_getElem? (i := 4) rfl)))) rfl rfl rfl (by decide +kernel) ⟨Nat.le_of_ble_eq_true rfl, Nat.le_of_ble_eq_true rfl⟩) ⟨fun a U g mk q => ⟨q.1, q.2.calling rfl rfl⟩, k_recv hK hI i_h0.1 k_109 (ci := 12) rfl, fun U hU hW => ⟨rfl, kIn.of hI hK hE hS hU hW⟩⟩ rfl rfl hl.1 rfl (lv_room (Nat.le_of_ble_eq_true rfl)) dX12_would_111 ⟨Nat.le_of_ble_eq_true rfl, Nat.le_of_ble_eq_true rfl⟩) hS (fun q _ h => h) (fun q h => h) (fun r_151 u9 t H1 locs ht hvm w_150 hB hz1 hk1 hS => ?_)
                obtain ⟨f_149, hI, kc_152, w24_153, q1_154, k_155, k_156, z_157, z_158, z_159⟩ := hB
                rw [ht] at hI
                have k_160 : f_149 (gr g h0 5) = .inl (gc g 1, 9060, .inr (.inl u)) := Kp.at kc_152 i_3 (by decide) k_110
                have k_161 : f_149 (gr g h0 7) = .inl (gc g 1, 1812, .inr (.inl im)) := Kp.at kc_152 i_4 (by decide) k_111
                have k_162 : f_149 (gr g h0 8) = .inl (gc g 3, 2, .inl kt) := Kp.at kc_152 i_5 (by decide) k_112
                have k_163 : f_149 (gr g h0 6) = .inl (gc g 1, 906, .inr (.inl pp1_50)) := Kp.at kc_152 i_6 (by decide) k_113
                have k_164 : f_149 (gr g h0 3) = .inl (gc g 0, 3, .inl q_65) := Kp.at kc_152 i_63 (by decide) k_114
                have k_155 : f_149 h0 = .inr (12, [.int (0 : Int32), .int z1, .ref (gr g h0 2), .ref (gr g h0 3), .ref (gr g h0 4), .ref (gr g h0 5), .ref (gr g h0 6), .ref (gr g h0 7), .ref (gr g h0 8), .ref (gr g h0 9), .int z10, .ref (gr g h0 11), .int z12, .int z13, .int z14, .int z15, .long z16, .int z17, .int z18, .ref (gr g h0 19), .ref (gr g h0 20), .ref (gr g h0 21), .ref (gr g h0 22), .int z23, .long w24_153, .long y_107, .long y_108]) := k_155
                have z_157 : RowOK q1_154 := z_157
                have d_165 := rk_hd z_157
                have z_158 : (q1_154 0).toInt = (q_103 0).toInt := z_158
                have z_159 : (q1_154 1).toInt = (q_103 1).toInt + 1 := z_159
                have kp_166 := Kp.call kp_115 kc_152 (by decide)
                generalize H1 = H at hI hS ⊢
                refine W.widen (k := 0) (n := 0) (Nat.le_of_ble_eq_true rfl) (Nat.le_of_ble_eq_true rfl) ?_
                have w_150 : -1 ≤ r_151.toInt ∧ r_151.toInt < (q_103 0).toInt := w_150
                refine lv_istore (lv' := [(9, .int r_151), (7, .long (q_103 3)), (6, .int y_99), (5, .int y_100), (4, .int y_101), (0, .ref h0), (1, .int p1), (2, .int p2), (3, .int p3)]) hx hb dX12_would_114 hl (by decide) rfl (fun ls hl => ?_)
                refine lv_iload hx hb dX12_would_116 (lv_at hl 3 rfl) ?_
                refine lv_iload hx hb dX12_would_118 (lv_at hl 0 rfl) ?_
                refine lv_iconst (v := (-1)) hx hb dX12_would_120 (by decide) ?_
                have J_129 : ∀ (y_167 : Int32) (H : Heap) (locs : List Loc) (ls : Array Slot), Iv dC dI g A f_149 H → va_S A s.heap H locs → lv_has ls 10 [(9, .int r_151), (7, .long (q_103 3)), (6, .int y_99), (5, .int y_100), (4, .int y_101), (0, .ref h0), (1, .int p1), (2, .int p2), (3, .int p3)] → W p l e (headSpec wq_c_X12_would ({ frames := 8, cells := 0, slots := 0, locals := 187 } : Room)).room s m ([.ref h0, .int p1, .int p2, .int p3].toArray) below meth c H locs 0 0 (MQ below (va_Qi (fun (r : Int32) (_ : Unit) => True) (fun (_ : Unit) t => ∃ f1 : Nat → va_E, Iv dC dI g A f1 t.heap ∧ Kp g [12, 32, 34] f f1 ∧ ∃ (w0 : Int32) (w1 : Int32) (w10 : Int32) (w12 : Int32) (w13 : Int32) (w14 : Int32) (w15 : Int32) (w16 : Int64) (w17 : Int32) (w18 : Int32) (w23 : Int32) (w24 : Int64) (w25 : Int64) (w26 : Int64) (q1 : Nat → Int64) (u1 : Nat → Int64) (im1 : Nat → Int64) (ik1 : Nat → Int32), (f1 h0 = .inr (12, [.int w0, .int w1, .ref (gr g h0 2), .ref (gr g h0 3), .ref (gr g h0 4), .ref (gr g h0 5), .ref (gr g h0 6), .ref (gr g h0 7), .ref (gr g h0 8), .ref (gr g h0 9), .int w10, .ref (gr g h0 11), .int w12, .int w13, .int w14, .int w15, .long w16, .int w17, .int w18, .ref (gr g h0 19), .ref (gr g h0 20), .ref (gr g h0 21), .ref (gr g h0 22), .int w23, .long w24, .long w25, .long w26])) ∧ (0 ≤ w10.toInt ∧ w10.toInt ≤ 10) ∧ (0 ≤ w12.toInt ∧ w12.toInt ≤ 200) ∧ (0 ≤ w23.toInt ∧ w23.toInt ≤ 8) ∧ (f1 (gr g h0 4) = .inl (gc g 1, 906, .inr (.inl q1))) ∧ (RowOK q1) ∧ (f1 (gr g h0 5) = .inl (gc g 1, 9060, .inr (.inl u1))) ∧ (f1 (gr g h0 7) = .inl (gc g 1, 1812, .inr (.inl im1))) ∧ (f1 (gr g h0 8) = .inl (gc g 3, 2, .inl ik1)) ∧ (UIq w10 u1 im1 ik1)) A) ([.ref h0, .int p1, .int p2, .int p3].toArray) s 0 0 A) (F0 m 129 ls [.int y_167, .int y_100]) := by
                  intro y_167 H locs ls hI hS  hl
                  refine lv_iadd hx hb dX12_would_129 ?_
                  refine lv_topi (fun v_168 ev_168 => ?_)
                  have tv_168 := k_ad y_100 y_167
                  rw [← ev_168] at tv_168
                  refine lv_istore (lv' := [(5, .int v_168), (9, .int r_151), (7, .long (q_103 3)), (6, .int y_99), (4, .int y_101), (0, .ref h0), (1, .int p1), (2, .int p2), (3, .int p3)]) hx hb dX12_would_130 hl (by decide) rfl (fun ls hl => ?_)
                  refine lv_iload hx hb dX12_would_132 (lv_at hl 4 rfl) ?_
                  refine lv_iload hx hb dX12_would_134 (lv_at hl 1 rfl) ?_
                  refine lv_iconst (v := (-1)) hx hb dX12_would_136 (by decide) ?_
                  have J_154 : ∀ (y_169 : Int32) (H : Heap) (locs : List Loc) (ls : Array Slot), Iv dC dI g A f_149 H → va_S A s.heap H locs → lv_has ls 10 [(5, .int v_168), (9, .int r_151), (7, .long (q_103 3)), (6, .int y_99), (4, .int y_101), (0, .ref h0), (1, .int p1), (2, .int p2), (3, .int p3)] → W p l e (headSpec wq_c_X12_would ({ frames := 8, cells := 0, slots := 0, locals := 187 } : Room)).room s m ([.ref h0, .int p1, .int p2, .int p3].toArray) below meth c H locs 0 0 (MQ below (va_Qi (fun (r : Int32) (_ : Unit) => True) (fun (_ : Unit) t => ∃ f1 : Nat → va_E, Iv dC dI g A f1 t.heap ∧ Kp g [12, 32, 34] f f1 ∧ ∃ (w0 : Int32) (w1 : Int32) (w10 : Int32) (w12 : Int32) (w13 : Int32) (w14 : Int32) (w15 : Int32) (w16 : Int64) (w17 : Int32) (w18 : Int32) (w23 : Int32) (w24 : Int64) (w25 : Int64) (w26 : Int64) (q1 : Nat → Int64) (u1 : Nat → Int64) (im1 : Nat → Int64) (ik1 : Nat → Int32), (f1 h0 = .inr (12, [.int w0, .int w1, .ref (gr g h0 2), .ref (gr g h0 3), .ref (gr g h0 4), .ref (gr g h0 5), .ref (gr g h0 6), .ref (gr g h0 7), .ref (gr g h0 8), .ref (gr g h0 9), .int w10, .ref (gr g h0 11), .int w12, .int w13, .int w14, .int w15, .long w16, .int w17, .int w18, .ref (gr g h0 19), .ref (gr g h0 20), .ref (gr g h0 21), .ref (gr g h0 22), .int w23, .long w24, .long w25, .long w26])) ∧ (0 ≤ w10.toInt ∧ w10.toInt ≤ 10) ∧ (0 ≤ w12.toInt ∧ w12.toInt ≤ 200) ∧ (0 ≤ w23.toInt ∧ w23.toInt ≤ 8) ∧ (f1 (gr g h0 4) = .inl (gc g 1, 906, .inr (.inl q1))) ∧ (RowOK q1) ∧ (f1 (gr g h0 5) = .inl (gc g 1, 9060, .inr (.inl u1))) ∧ (f1 (gr g h0 7) = .inl (gc g 1, 1812, .inr (.inl im1))) ∧ (f1 (gr g h0 8) = .inl (gc g 3, 2, .inl ik1)) ∧ (UIq w10 u1 im1 ik1)) A) ([.ref h0, .int p1, .int p2, .int p3].toArray) s 0 0 A) (F0 m 154 ls [.int y_169, .int y_101]) := by
                    intro y_169 H locs ls hI hS  hl
                    refine lv_iadd hx hb dX12_would_154 ?_
                    refine lv_topi (fun v_170 ev_170 => ?_)
                    have tv_170 := k_ad y_101 y_169
                    rw [← ev_170] at tv_170
                    refine lv_istore (lv' := [(4, .int v_170), (5, .int v_168), (9, .int r_151), (7, .long (q_103 3)), (6, .int y_99), (0, .ref h0), (1, .int p1), (2, .int p2), (3, .int p3)]) hx hb dX12_would_155 hl (by decide) rfl (fun ls hl => ?_)
                    refine lv_aload_n hx hb dX12_would_157 rfl (lv_at hl 5 rfl) ?_
                    refine va_callv (va_runV (As := []) (rest := []) ⟨hx, hb, hml, hown, hts⟩ (c_X12_lookAtLags l dC dI g A hG f_149 h0 (0 : Int32) z1 z10 z12 z13 z14 z15 z16 z17 z18 z23 w24_153 y_107 y_108 q1_154 i_h0 k_155 (by first | omega | (simp only [k_c0]; omega)) (by first | omega | (simp only [k_c0]; omega)) (by first | omega | (simp only [k_c0]; omega)) k_156 z_157) (cwV 0 hts (gi_V (fun w_ h0_ => ⟨List.mem_cons_of_mem _ (List.mem_append_right _ (List.mem_append_right _ (List.mem_append_right _ (List.mem_append_right _ (List.mem_append_right _ (List.mem_append_right _ (List.mem_append_left _ h0_))))))), (tb_c_X12_lookAtLags w_ h0_).2⟩) (List.mem_cons_of_mem _ (List.mem_append_left _ (List.mem_of_getElem? (i := 23) rfl))) (List.mem_cons_of_mem _ (List.mem_append_left _ (List.mem_of_getElem? (i := 24) rfl))) (List.mem_cons_of_mem _ (List.mem_append_left _ (List.mem_of_getElem? (i := 25) rfl))) (List.mem_cons_of_mem _ (List.mem_append_left _ (List.mem_of_getElem? (i := 4) rfl)))) rfl rfl rfl (by decide +kernel) ⟨Nat.le_of_ble_eq_true rfl, Nat.le_of_ble_eq_true rfl⟩) ⟨fun a U g mk q => ⟨q.1, q.2.calling rfl rfl⟩, k_recv hK hI i_h0.1 k_155 (ci := 12) rfl, fun U hU hW => ⟨rfl, kIn.of hI hK hE hS hU hW⟩⟩ rfl rfl hl.1 rfl (lv_room (Nat.le_of_ble_eq_true rfl)) dX12_would_158 ⟨Nat.le_of_ble_eq_true rfl, Nat.le_of_ble_eq_true rfl⟩) hS (fun q _ h => h) (fun q h => h) (fun u9 t H1 locs ht hvm _ hB hz1 hk1 hS => ?_)
                    obtain ⟨f_171, hI, kc_173, w25_174, w26_175, k_176⟩ := hB
                    rw [ht] at hI
                    have k_177 : f_171 (gr g h0 5) = .inl (gc g 1, 9060, .inr (.inl u)) := Kp.at kc_173 i_3 (by decide) k_160
                    have k_178 : f_171 (gr g h0 7) = .inl (gc g 1, 1812, .inr (.inl im)) := Kp.at kc_173 i_4 (by decide) k_161
                    have k_179 : f_171 (gr g h0 8) = .inl (gc g 3, 2, .inl kt) := Kp.at kc_173 i_5 (by decide) k_162
                    have k_180 : f_171 (gr g h0 6) = .inl (gc g 1, 906, .inr (.inl pp1_50)) := Kp.at kc_173 i_6 (by decide) k_163
                    have k_181 : f_171 (gr g h0 3) = .inl (gc g 0, 3, .inl q_65) := Kp.at kc_173 i_63 (by decide) k_164
                    have k_182 : f_171 (gr g h0 4) = .inl (gc g 1, 906, .inr (.inl q1_154)) := Kp.at kc_173 i_1 (by decide) k_156
                    have k_176 : f_171 h0 = .inr (12, [.int (0 : Int32), .int z1, .ref (gr g h0 2), .ref (gr g h0 3), .ref (gr g h0 4), .ref (gr g h0 5), .ref (gr g h0 6), .ref (gr g h0 7), .ref (gr g h0 8), .ref (gr g h0 9), .int z10, .ref (gr g h0 11), .int z12, .int z13, .int z14, .int z15, .long z16, .int z17, .int z18, .ref (gr g h0 19), .ref (gr g h0 20), .ref (gr g h0 21), .ref (gr g h0 22), .int z23, .long w24_153, .long w25_174, .long w26_175]) := k_176
                    have kp_183 := Kp.call kp_166 kc_173 (by decide)
                    generalize H1 = H at hI hS ⊢
                    refine W.widen (k := 0) (n := 0) (Nat.le_of_ble_eq_true rfl) (Nat.le_of_ble_eq_true rfl) ?_
                    obtain ⟨v_184, ev_184⟩ : ∃ y : Int32, y = y_99 + Int32.ofInt 1 := ⟨_, rfl⟩
                    refine lv_iinc (v := v_184) (lv' := [(6, .int v_184), (4, .int v_170), (5, .int v_168), (9, .int r_151), (7, .long (q_103 3)), (0, .ref h0), (1, .int p1), (2, .int p2), (3, .int p3)]) hx hb dX12_would_161 hl (k := 4) rfl ev_184.symm (by decide) rfl (fun ls hl => ?_)
                    have tv_184 := k_inc y_99
                    rw [← ev_184] at tv_184
                    refine lv_goto (tgt := 95) hx hb dX12_would_164 (by decide) ?_
                    exact ih v_184 v_168 v_170 q1_154 w24_153 w25_174 w26_175 f_171 _ _ _ (by omega) hI hS k_182 z_157 k_176 k_177 k_178 k_179 k_180 k_181 kp_183 (by first | omega | decide | exact Or.inl (by decide)) (by first | omega | decide | exact Or.inl (by decide)) (by first | omega | decide | exact Or.inl (by decide)) (lv_sub hl [0, 2, 1, 5, 6, 7, 8] rfl)
                  have J_153 : ∀ (H : Heap) (locs : List Loc) (ls : Array Slot), Iv dC dI g A f_149 H → va_S A s.heap H locs → lv_has ls 10 [(5, .int v_168), (9, .int r_151), (7, .long (q_103 3)), (6, .int y_99), (4, .int y_101), (0, .ref h0), (1, .int p1), (2, .int p2), (3, .int p3)] → W p l e (headSpec wq_c_X12_would ({ frames := 8, cells := 0, slots := 0, locals := 187 } : Room)).room s m ([.ref h0, .int p1, .int p2, .int p3].toArray) below meth c H locs 0 0 (MQ below (va_Qi (fun (r : Int32) (_ : Unit) => True) (fun (_ : Unit) t => ∃ f1 : Nat → va_E, Iv dC dI g A f1 t.heap ∧ Kp g [12, 32, 34] f f1 ∧ ∃ (w0 : Int32) (w1 : Int32) (w10 : Int32) (w12 : Int32) (w13 : Int32) (w14 : Int32) (w15 : Int32) (w16 : Int64) (w17 : Int32) (w18 : Int32) (w23 : Int32) (w24 : Int64) (w25 : Int64) (w26 : Int64) (q1 : Nat → Int64) (u1 : Nat → Int64) (im1 : Nat → Int64) (ik1 : Nat → Int32), (f1 h0 = .inr (12, [.int w0, .int w1, .ref (gr g h0 2), .ref (gr g h0 3), .ref (gr g h0 4), .ref (gr g h0 5), .ref (gr g h0 6), .ref (gr g h0 7), .ref (gr g h0 8), .ref (gr g h0 9), .int w10, .ref (gr g h0 11), .int w12, .int w13, .int w14, .int w15, .long w16, .int w17, .int w18, .ref (gr g h0 19), .ref (gr g h0 20), .ref (gr g h0 21), .ref (gr g h0 22), .int w23, .long w24, .long w25, .long w26])) ∧ (0 ≤ w10.toInt ∧ w10.toInt ≤ 10) ∧ (0 ≤ w12.toInt ∧ w12.toInt ≤ 200) ∧ (0 ≤ w23.toInt ∧ w23.toInt ≤ 8) ∧ (f1 (gr g h0 4) = .inl (gc g 1, 906, .inr (.inl q1))) ∧ (RowOK q1) ∧ (f1 (gr g h0 5) = .inl (gc g 1, 9060, .inr (.inl u1))) ∧ (f1 (gr g h0 7) = .inl (gc g 1, 1812, .inr (.inl im1))) ∧ (f1 (gr g h0 8) = .inl (gc g 3, 2, .inl ik1)) ∧ (UIq w10 u1 im1 ik1)) A) ([.ref h0, .int p1, .int p2, .int p3].toArray) s 0 0 A) (F0 m 153 ls [.int y_101]) := by
                    intro H locs ls hI hS  hl
                    refine lv_iconst (v := 0) hx hb dX12_would_153 (by decide) ?_
                    exact J_154 0 _ _ _ hI hS  (lv_sub hl [0, 1, 2, 3, 4, 5, 6, 7, 8] rfl)
                  refine lv_icmp_eq (tgt := 153) hx hb dX12_would_137 (by decide) (fun c_185 => ?_) (fun c_185 => ?_)
                  · have c_185 := kc_eq rfl (by decide : Int32.toInt (-1) = (-1)) c_185
                    exact J_153  _ _ _ hI hS  (lv_sub hl [0, 1, 2, 3, 4, 5, 6, 7, 8] rfl)
                  · have c_185 := kn_eq rfl (by decide : Int32.toInt (-1) = (-1)) c_185
                    refine lv_lload hx hb dX12_would_140 (lv_at hl 2 rfl) ?_
                    refine lv_iload hx hb dX12_would_142 (lv_at hl 1 rfl) ?_
                    refine lv_i2l (v := r_151.toInt64) hx hb dX12_would_144 rfl ?_
                    have t_186 := Int32.toInt_toInt64 r_151
                    have g_187 := Int32.toInt_lt r_151
                    have g_188 := Int32.le_toInt r_151
                    refine W.lcmp hx hb dX12_would_145 ?_
                    refine lv_if_eq (tgt := 153) hx hb dX12_would_146 (by decide) (fun c_189 => ?_) (fun c_189 => ?_)
                    · have c_189 := lc_eq rfl rfl ((lg_cmp_eq _ _).mp c_189)
                      exact J_153  _ _ _ hI hS  (lv_sub hl [0, 1, 2, 3, 4, 5, 6, 7, 8] rfl)
                    · have c_189 := ln_eq rfl rfl (fun h9 => c_189 ((lg_cmp_eq _ _).mpr h9))
                      refine lv_iconst (v := 1) hx hb dX12_would_149 (by decide) ?_
                      refine lv_goto (tgt := 154) hx hb dX12_would_150 (by decide) ?_
                      exact J_154 1 _ _ _ hI hS  (lv_sub hl [0, 1, 2, 3, 4, 5, 6, 7, 8] rfl)
                refine lv_icmp_ne (tgt := 128) hx hb dX12_would_121 (by decide) (fun c_190 => ?_) (fun c_190 => ?_)
                · have c_190 := kn_eq rfl (by decide : Int32.toInt (-1) = (-1)) c_190
                  refine lv_iconst (v := 0) hx hb dX12_would_128 (by decide) ?_
                  exact J_129 0 _ _ _ hI hS  (lv_sub hl [0, 1, 2, 3, 4, 5, 6, 7, 8] rfl)
                · have c_190 := kc_eq rfl (by decide : Int32.toInt (-1) = (-1)) c_190
                  refine lv_iconst (v := 1) hx hb dX12_would_124 (by decide) ?_
                  refine lv_goto (tgt := 129) hx hb dX12_would_125 (by decide) ?_
                  exact J_129 1 _ _ _ hI hS  (lv_sub hl [0, 1, 2, 3, 4, 5, 6, 7, 8] rfl)
          exact K_95 _ 0 0 0 q ((q_65 2).toInt64) 0 0 f_89 _ _ _ (Nat.lt_succ_self _) hI hS k_93 hc1_ok k_92 k_94 k_95 k_96 k_97 k_98 kp_91 (by first | omega | decide | exact Or.inl (by decide) | (simp only [show Int32.toInt 0 = 0 from by decide, show Int32.toInt 0 = 0 from by decide, show Int32.toInt 0 = 0 from by decide, show Int64.toInt 0 = 0 from by decide, show Int64.toInt 0 = 0 from by decide] <;> omega)) (by first | omega | decide | exact Or.inl (by decide) | (simp only [show Int32.toInt 0 = 0 from by decide, show Int32.toInt 0 = 0 from by decide, show Int32.toInt 0 = 0 from by decide, show Int64.toInt 0 = 0 from by decide, show Int64.toInt 0 = 0 from by decide] <;> omega)) (by first | omega | decide | exact Or.inl (by decide) | (simp only [show Int32.toInt 0 = 0 from by decide, show Int32.toInt 0 = 0 from by decide, show Int32.toInt 0 = 0 from by decide, show Int64.toInt 0 = 0 from by decide, show Int64.toInt 0 = 0 from by decide] <;> omega)) (lv_sub hl [0, 1, 2, 3, 4, 5, 6] rfl)
        · have c_46 := ln_le rfl (by decide : Int64.toInt 9999 = 9999) (fun h9 => c_46 ((lg_cmp_le _ _).mpr h9))
          refine lv_ldcw hx hb hown (hts (.constant RX12 330 (-2147483648)) (List.mem_cons_of_mem _ (List.mem_append_left _ (List.mem_of_getElem? (i := 5) rfl)))) dX12_would_57 ?_
          exact W.iret (v := (-2147483648)) hx hb hr (fun t ht hW => ⟨⟨(-2147483648), (), rfl, trivial, ⟨f_7, k_ret ht hI, kp_9, 0, z1, z10, z12, z13, z14, z15, z16, z17, z18, z23, z24, z25, z26, q, u, im, kt, k_10, (by first | omega | decide), (by first | omega | decide), (by first | omega | decide), k_11, hc1_ok, k_12, k_13, k_14, hU⟩⟩, hS.F ht⟩) hS.2.2 dX12_would_60
