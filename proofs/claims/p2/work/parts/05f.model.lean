theorem tw_949 : q_g (.selects RX12 yX12_isTask yX12_isTask) := ⟨(List.mem_append_left _ (List.mem_of_getElem? (i := 25) (by decide +kernel))), good_of_word (by decide +kernel)⟩
theorem tw_950 : q_g (.instanceMethod yX12_isTask) := ⟨(List.mem_append_right _ (List.mem_of_getElem? (i := 1236) (by decide +kernel))), good_of_word (by decide +kernel)⟩
theorem tw_951 : q_g (.methodLink RX12 142 yX12_isTask) := ⟨(List.mem_append_right _ (List.mem_of_getElem? (i := 1234) (by decide +kernel))), good_of_word (by decide +kernel)⟩
theorem tw_952 : q_g (.code yX12_rank cX12_rank 4 (some .int)) := ⟨(List.mem_append_right _ (List.mem_of_getElem? (i := 1470) (by decide +kernel))), good_of_word (by decide +kernel)⟩
def ow_c_X12_rank : List Cond := [.fieldLink RX12 67 "DeadlineShareModel" "thrown" "I", .methodLink RX12 142 yX12_isTask, .instanceMethod yX12_isTask, .selects RX12 yX12_isTask yX12_isTask, .initialized RX12, .methodLink RX12 90 yX12_isOn, .instanceMethod yX12_isOn, .selects RX12 yX12_isOn yX12_isOn, .fieldLink RX12 16 "DeadlineShareModel" "row" "[J", .methodLink RX12 98 yX12_virtual, .instanceMethod yX12_virtual, .selects RX12 yX12_virtual yX12_virtual]
def wq_c_X12_rank : List Cond := .code yX12_rank cX12_rank 4 (some .int) :: (ow_c_X12_rank ++ (u_ws RX12 TX12 27 ++ (wq_c_X12_isTask ++ (wq_c_X12_isOn ++ (wq_c_X12_virtual ++ ([] : List Cond))))))
theorem tb_c_X12_rank : ∀ w ∈ wq_c_X12_rank, q_g w := by
  unfold wq_c_X12_rank ow_c_X12_rank
  exact q_cons tw_952 (q_app (q_cons tw_927 (q_cons tw_951 (q_cons tw_950 (q_cons tw_949 (q_cons tw_728 (q_cons tw_744 (q_cons tw_743 (q_cons tw_742 (q_cons tw_731 (q_cons tw_748 (q_cons tw_747 (q_cons tw_746 q_nil)))))))))))) (q_app tu_X12 (q_app tb_c_X12_isTask (q_app tb_c_X12_isOn (q_app tb_c_X12_virtual q_nil)))))
set_option maxHeartbeats 4000000 in
set_option maxRecDepth 100000 in
theorem c_X12_rank (l : Launch) (dC : Nat → ClassId) (dI : Nat → Nat → Nat) (g : kG) (A : Nat → Prop) (hG : kWf g) (f : Nat → va_E) (h0 : Nat) (p1 : Int32) (z0 : Int32) (z1 : Int32) (z10 : Int32) (z12 : Int32) (z13 : Int32) (z14 : Int32) (z15 : Int32) (z16 : Int64) (z17 : Int32) (z18 : Int32) (z23 : Int32) (z24 : Int64) (z25 : Int64) (z26 : Int64) (q : Nat → Int64) (u : Nat → Int64) (im : Nat → Int64) (kt : Nat → Int32) (i_h0 : ik g 12 h0) (hc0 : f h0 = .inr (12, [.int z0, .int z1, .ref (gr g h0 2), .ref (gr g h0 3), .ref (gr g h0 4), .ref (gr g h0 5), .ref (gr g h0 6), .ref (gr g h0 7), .ref (gr g h0 8), .ref (gr g h0 9), .int z10, .ref (gr g h0 11), .int z12, .int z13, .int z14, .int z15, .long z16, .int z17, .int z18, .ref (gr g h0 19), .ref (gr g h0 20), .ref (gr g h0 21), .ref (gr g h0 22), .int z23, .long z24, .long z25, .long z26])) (hc0_10 : 0 ≤ z10.toInt ∧ z10.toInt ≤ 10) (hc0_12 : 0 ≤ z12.toInt ∧ z12.toInt ≤ 200) (hc0_23 : 0 ≤ z23.toInt ∧ z23.toInt ≤ 8) (hc1 : f (gr g h0 4) = .inl (gc g 1, 906, .inr (.inl q))) (hc1_ok : RowOK q) (hc2 : f (gr g h0 5) = .inl (gc g 1, 9060, .inr (.inl u))) (hc3 : f (gr g h0 7) = .inl (gc g 1, 1812, .inr (.inl im))) (hc4 : f (gr g h0 8) = .inl (gc g 3, 2, .inl kt)) (hU : UIq z10 u im kt) : Met l yX12_rank wq_c_X12_rank ({ frames := 2, cells := 0, slots := 0, locals := 46 } : Room) (va_Pc [.ref h0, .int p1] (fun U => kIn dC dI g A f U)) (va_Qi (fun (r : Int32) (_ : Unit) => True) (fun (_ : Unit) t => ∃ f1 : Nat → va_E, Iv dC dI g A f1 t.heap ∧ Kp g [12] f f1 ∧ ∃ (w0 : Int32) (w1 : Int32) (w10 : Int32) (w12 : Int32) (w13 : Int32) (w14 : Int32) (w15 : Int32) (w16 : Int64) (w17 : Int32) (w18 : Int32) (w23 : Int32) (w24 : Int64) (w25 : Int64) (w26 : Int64) (q1 : Nat → Int64) (u1 : Nat → Int64) (im1 : Nat → Int64) (ik1 : Nat → Int32), (f1 h0 = .inr (12, [.int w0, .int w1, .ref (gr g h0 2), .ref (gr g h0 3), .ref (gr g h0 4), .ref (gr g h0 5), .ref (gr g h0 6), .ref (gr g h0 7), .ref (gr g h0 8), .ref (gr g h0 9), .int w10, .ref (gr g h0 11), .int w12, .int w13, .int w14, .int w15, .long w16, .int w17, .int w18, .ref (gr g h0 19), .ref (gr g h0 20), .ref (gr g h0 21), .ref (gr g h0 22), .int w23, .long w24, .long w25, .long w26])) ∧ (0 ≤ w10.toInt ∧ w10.toInt ≤ 10) ∧ (0 ≤ w12.toInt ∧ w12.toInt ≤ 200) ∧ (0 ≤ w23.toInt ∧ w23.toInt ≤ 8) ∧ (f1 (gr g h0 4) = .inl (gc g 1, 906, .inr (.inl q1))) ∧ (RowOK q1) ∧ (f1 (gr g h0 5) = .inl (gc g 1, 9060, .inr (.inl u1))) ∧ (f1 (gr g h0 7) = .inl (gc g 1, 1812, .inr (.inl im1))) ∧ (f1 (gr g h0 8) = .inl (gc g 3, 2, .inl ik1)) ∧ (UIq w10 u1 im1 ik1)) A) 0 0 A := by
  refine Met.ofW (cc := cX12_rank) (maxL := 4) (ret := (some .int)) (by decide) rfl ?_
  intro p e s m args below meth c s₁ B hml hv
  obtain ⟨rfl, hI, hK, hE⟩ := hv
  have hx := B.exec
  have hb := B.bytes
  have hr := B.returns
  have hts := atoms_spec (ws := wq_c_X12_rank) B.pre
  have hown : s.vm.findClass RX12 = some m.cls := findClass_of_methodNamed B.named
  have hlocks := B.notSynchronized
  have hS : va_S A s.heap s.heap [] := va_S.rf
  have hk0 : Kp g [12] f f := Kp.rf
  have hl := lv_entry ([.ref h0, .int p1]) (n := 4) (Nat.le_of_ble_eq_true rfl)
  rw [lg_entry_eq]
  generalize (lg_sl ([.ref h0, .int p1]) ++ List.replicate (4 - (lg_sl ([.ref h0, .int p1])).length) Slot.unset).toArray = ls at hl ⊢
  have hl : lv_has ls 4 [(0, .ref h0), (1, .int p1)] := hl
  have i_1 := kw_12_4 hG i_h0
  have d_2 := rk_hd hc1_ok
  have i_3 := kw_12_5 hG i_h0
  have i_4 := kw_12_7 hG i_h0
  have i_5 := kw_12_8 hG i_h0
  refine lv_aload_n hx hb dX12_rank_0 rfl (lv_at hl 0 rfl) ?_
  refine lv_iconst (v := 0) hx hb dX12_rank_1 (by decide) ?_
  refine k_put (ci := 12) (v := .int 0) (ty := .int) (C := RX12) (T := TX12) (N := 27) hx hb hts (fun _ h0_ => List.mem_cons_of_mem _ (List.mem_append_right _ (List.mem_append_left _ h0_))) tyX12 tyX12_ok nmX12 hown hK hI hS i_h0.1 hc0 rfl 0 (by decide) (hts (.fieldLink RX12 67 "DeadlineShareModel" "thrown" "I") (List.mem_cons_of_mem _ (List.mem_append_left _ (List.mem_of_getElem? (i := 0) rfl)))) (fun _ h9 => h9) rfl (by decide +kernel) rfl rfl (Nat.le_of_ble_eq_true rfl) rfl (cl_12 i_h0 (by omega) (by omega) (by omega)) dX12_rank_2 (fun f_6 H locs e_7 hI hS => ?_)
  have k_9 : f_6 h0 = .inr (12, [.int 0, .int z1, .ref (gr g h0 2), .ref (gr g h0 3), .ref (gr g h0 4), .ref (gr g h0 5), .ref (gr g h0 6), .ref (gr g h0 7), .ref (gr g h0 8), .ref (gr g h0 9), .int z10, .ref (gr g h0 11), .int z12, .int z13, .int z14, .int z15, .long z16, .int z17, .int z18, .ref (gr g h0 19), .ref (gr g h0 20), .ref (gr g h0 21), .ref (gr g h0 22), .int z23, .long z24, .long z25, .long z26]) := by rw [e_7]; exact va_up_self _ _ _
  have k_10 : f_6 (gr g h0 4) = .inl (gc g 1, 906, .inr (.inl q)) := by rw [e_7, va_up_ne _ _ (ik_ne i_1 i_h0 (by decide))]; exact hc1
  have k_11 : f_6 (gr g h0 5) = .inl (gc g 1, 9060, .inr (.inl u)) := by rw [e_7, va_up_ne _ _ (ik_ne i_3 i_h0 (by decide))]; exact hc2
  have k_12 : f_6 (gr g h0 7) = .inl (gc g 1, 1812, .inr (.inl im)) := by rw [e_7, va_up_ne _ _ (ik_ne i_4 i_h0 (by decide))]; exact hc3
  have k_13 : f_6 (gr g h0 8) = .inl (gc g 3, 2, .inl kt) := by rw [e_7, va_up_ne _ _ (ik_ne i_5 i_h0 (by decide))]; exact hc4
  have kp_8 := Kp.put hk0 i_h0 (by decide) e_7
  refine lv_aload_n hx hb dX12_rank_5 rfl (lv_at hl 0 rfl) ?_
  refine lv_iload_n hx hb dX12_rank_6 rfl (lv_at hl 1 rfl) ?_
  refine va_calli (va_runV (As := [.int p1]) (rest := []) ⟨hx, hb, hml, hown, hts⟩ (c_X12_isTask l dC dI g A hG f_6 h0 p1 q i_h0 k_10 hc1_ok) (cwV 1 hts (gi_V (fun w_ h0_ => ⟨List.mem_cons_of_mem _ (List.mem_append_right _ (List.mem_append_right _ (List.mem_append_left _ h0_))), (tb_c_X12_isTask w_ h0_).2⟩) (List.mem_cons_of_mem _ (List.mem_append_left _ (List.mem_of_getElem? (i := 1) rfl))) (List.mem_cons_of_mem _ (List.mem_append_left _ (List.mem_of_getElem? (i := 2) rfl))) (List.mem_cons_of_mem _ (List.mem_append_left _ (List.mem_of_getElem? (i := 3) rfl))) (List.mem_cons_of_mem _ (List.mem_append_left _ (List.mem_of_getElem? (i := 4) rfl)))) rfl rfl rfl (by decide +kernel) ⟨Nat.le_of_ble_eq_true rfl, Nat.le_of_ble_eq_true rfl⟩) ⟨fun a U g mk q => ⟨q.1, q.2.calling rfl rfl⟩, k_recv hK hI i_h0.1 k_9 (ci := 12) rfl, fun U hU hW => ⟨rfl, kIn.of hI hK hE hS hU hW⟩⟩ rfl rfl hl.1 rfl (lv_room (Nat.le_of_ble_eq_true rfl)) dX12_rank_7 ⟨Nat.le_of_ble_eq_true rfl, Nat.le_of_ble_eq_true rfl⟩) hS (fun q _ h => h) (fun q h => h) (fun r_15 u t H1 locs ht hvm w_14 hB hz1 hk1 hS => ?_)
  have hI : Iv dC dI g A f_6 t.heap := hB
  rw [ht] at hI
  generalize H1 = H at hI hS ⊢
  refine W.widen (k := 0) (n := 0) (Nat.le_of_ble_eq_true rfl) (Nat.le_of_ble_eq_true rfl) ?_
  have w_14 : (r_15.toInt = 0 ∨ r_15.toInt = 1) ∧ (r_15.toInt = 0 ∨ (0 ≤ p1.toInt ∧ p1.toInt < (q 0).toInt)) := w_14
  refine lv_if_eq (tgt := 21) hx hb dX12_rank_10 (by decide) (fun c_16 => ?_) (fun c_16 => ?_)
  · have c_16 := kc_eq rfl (by decide : Int32.toInt 0 = 0) c_16
    refine lv_iconst (v := (-1)) hx hb dX12_rank_21 (by decide) ?_
    exact W.iret (v := (-1)) hx hb hr (fun t ht hW => ⟨⟨(-1), (), rfl, trivial, ⟨f_6, k_ret ht hI, kp_8, 0, z1, z10, z12, z13, z14, z15, z16, z17, z18, z23, z24, z25, z26, q, u, im, kt, k_9, (by first | omega | decide), (by first | omega | decide), (by first | omega | decide), k_10, hc1_ok, k_11, k_12, k_13, hU⟩⟩, hS.F ht⟩) hS.2.2 dX12_rank_22
  · have c_16 := kn_eq rfl (by decide : Int32.toInt 0 = 0) c_16
    refine lv_aload_n hx hb dX12_rank_13 rfl (lv_at hl 0 rfl) ?_
    obtain ⟨m_17, em_17, tm_17⟩ := k_nat (x := p1) (by omega)
    refine lv_iload_n hx hb dX12_rank_14 rfl (lv_at hl 1 rfl) ?_
    refine k_topi (y := nI m_17) em_17 ?_
    refine va_calli (va_runV (As := [.int (nI m_17)]) (rest := []) ⟨hx, hb, hml, hown, hts⟩ (c_X12_isOn l dC dI g A hG f_6 h0 m_17 q i_h0 k_10 hc1_ok (by first | omega | decide | (simp only [k_c0, k_c1, k_cm1]; omega))) (cwV 1 hts (gi_V (fun w_ h0_ => ⟨List.mem_cons_of_mem _ (List.mem_append_right _ (List.mem_append_right _ (List.mem_append_right _ (List.mem_append_left _ h0_)))), (tb_c_X12_isOn w_ h0_).2⟩) (List.mem_cons_of_mem _ (List.mem_append_left _ (List.mem_of_getElem? (i := 5) rfl))) (List.mem_cons_of_mem _ (List.mem_append_left _ (List.mem_of_getElem? (i := 6) rfl))) (List.mem_cons_of_mem _ (List.mem_append_left _ (List.mem_of_getElem? (i := 7) rfl))) (List.mem_cons_of_mem _ (List.mem_append_left _ (List.mem_of_getElem? (i := 4) rfl)))) rfl rfl rfl (by decide +kernel) ⟨Nat.le_of_ble_eq_true rfl, Nat.le_of_ble_eq_true rfl⟩) ⟨fun a U g mk q => ⟨q.1, q.2.calling rfl rfl⟩, k_recv hK hI i_h0.1 k_9 (ci := 12) rfl, fun U hU hW => ⟨rfl, kIn.of hI hK hE hS hU hW⟩⟩ rfl rfl hl.1 rfl (lv_room (Nat.le_of_ble_eq_true rfl)) dX12_rank_15 ⟨Nat.le_of_ble_eq_true rfl, Nat.le_of_ble_eq_true rfl⟩) hS (fun q _ h => h) (fun q h => h) (fun r_19 u t H1 locs ht hvm w_18 hB hz1 hk1 hS => ?_)
    have hI : Iv dC dI g A f_6 t.heap := hB
    rw [ht] at hI
    generalize H1 = H at hI hS ⊢
    refine W.widen (k := 0) (n := 0) (Nat.le_of_ble_eq_true rfl) (Nat.le_of_ble_eq_true rfl) ?_
    have w_18 : (r_19.toInt = 0 ∧ (q (6 + 43 * m_17 + 2)).toInt ≠ 1) ∨ (r_19.toInt = 1 ∧ (q (6 + 43 * m_17 + 2)).toInt = 1) := w_18
    refine lv_if_ne (tgt := 23) hx hb dX12_rank_18 (by decide) (fun c_20 => ?_) (fun c_20 => ?_)
    · have c_20 := kn_eq rfl (by decide : Int32.toInt 0 = 0) c_20
      refine lv_iconst (v := 0) hx hb dX12_rank_23 (by decide) ?_
      refine lv_istore_n (lv' := [(2, .int 0), (0, .ref h0), (1, .int p1)]) hx hb dX12_rank_24 rfl hl (by decide) rfl (fun ls hl => ?_)
      refine lv_iconst (v := 0) hx hb dX12_rank_25 (by decide) ?_
      refine lv_istore_n (lv' := [(3, .int 0), (2, .int 0), (0, .ref h0), (1, .int p1)]) hx hb dX12_rank_26 rfl hl (by decide) rfl (fun ls hl => ?_)
      have K_27 : ∀ (nn : Nat) (y_21 : Nat) (y_22 : Int32) (H : Heap) (locs : List Loc) (ls : Array Slot), 12 - y_21 < nn → Iv dC dI g A f_6 H → va_S A s.heap H locs → (y_21 ≤ 12) → lv_has ls 4 [(3, .int (nI y_21)), (2, .int y_22), (0, .ref h0), (1, .int p1)] → W p l e (headSpec wq_c_X12_rank ({ frames := 2, cells := 0, slots := 0, locals := 46 } : Room)).room s m ([.ref h0, .int p1].toArray) below meth c H locs 0 0 (MQ below (va_Qi (fun (r : Int32) (_ : Unit) => True) (fun (_ : Unit) t => ∃ f1 : Nat → va_E, Iv dC dI g A f1 t.heap ∧ Kp g [12] f f1 ∧ ∃ (w0 : Int32) (w1 : Int32) (w10 : Int32) (w12 : Int32) (w13 : Int32) (w14 : Int32) (w15 : Int32) (w16 : Int64) (w17 : Int32) (w18 : Int32) (w23 : Int32) (w24 : Int64) (w25 : Int64) (w26 : Int64) (q1 : Nat → Int64) (u1 : Nat → Int64) (im1 : Nat → Int64) (ik1 : Nat → Int32), (f1 h0 = .inr (12, [.int w0, .int w1, .ref (gr g h0 2), .ref (gr g h0 3), .ref (gr g h0 4), .ref (gr g h0 5), .ref (gr g h0 6), .ref (gr g h0 7), .ref (gr g h0 8), .ref (gr g h0 9), .int w10, .ref (gr g h0 11), .int w12, .int w13, .int w14, .int w15, .long w16, .int w17, .int w18, .ref (gr g h0 19), .ref (gr g h0 20), .ref (gr g h0 21), .ref (gr g h0 22), .int w23, .long w24, .long w25, .long w26])) ∧ (0 ≤ w10.toInt ∧ w10.toInt ≤ 10) ∧ (0 ≤ w12.toInt ∧ w12.toInt ≤ 200) ∧ (0 ≤ w23.toInt ∧ w23.toInt ≤ 8) ∧ (f1 (gr g h0 4) = .inl (gc g 1, 906, .inr (.inl q1))) ∧ (RowOK q1) ∧ (f1 (gr g h0 5) = .inl (gc g 1, 9060, .inr (.inl u1))) ∧ (f1 (gr g h0 7) = .inl (gc g 1, 1812, .inr (.inl im1))) ∧ (f1 (gr g h0 8) = .inl (gc g 3, 2, .inl ik1)) ∧ (UIq w10 u1 im1 ik1)) A) ([.ref h0, .int p1].toArray) s 0 0 A) (F0 m 27 ls []) := by
        intro nn
        induction nn with
        | zero => intro y_21 y_22 H locs ls m_24; exact absurd m_24 (Nat.not_lt_zero _)
        | succ nn ih =>
          intro y_21 y_22 H locs ls m_24 hI hS t_23 hl
          refine lv_iload_n hx hb dX12_rank_27 rfl (lv_at hl 0 rfl) ?_
          refine lv_i2l (v := lN (y_21)) hx hb dX12_rank_28 (nI_l (by omega)) ?_
          refine lv_aload_n hx hb dX12_rank_29 rfl (lv_at hl 2 rfl) ?_
          refine k_get (ci := 12) (v := .ref (gr g h0 4)) (C := RX12) (T := TX12) (N := 27) hx hb hts (fun _ h0_ => List.mem_cons_of_mem _ (List.mem_append_right _ (List.mem_append_left _ h0_))) hown hK hI i_h0.1 k_9 rfl 4 (by decide) (hts (.fieldLink RX12 16 "DeadlineShareModel" "row" "[J") (List.mem_cons_of_mem _ (List.mem_append_left _ (List.mem_of_getElem? (i := 8) rfl)))) (fun _ h9 => h9) rfl dX12_rank_30 ?_
          refine lv_iconst (v := 0) hx hb dX12_rank_33 (by decide) ?_
          refine k_lald hx hb hK hI i_1.1 1 k_10 rfl (by unfold vp_in; decide) dX12_rank_34 ?_
          refine k_topl (y := q 0) (congrArg q (show Int32.toNatClampNeg 0 = 0 by decide)) ?_
          refine W.lcmp hx hb dX12_rank_35 ?_
          refine lv_if_ge (tgt := 94) hx hb dX12_rank_36 (by decide) (fun c_27 => ?_) (fun c_27 => ?_)
          · have c_27 := lc_le rfl (lN_toInt (n := y_21) (by omega)) ((lg_cmp_ge _ _).mp c_27)
            refine lv_iload_n hx hb dX12_rank_94 rfl (lv_at hl 1 rfl) ?_
            exact W.iret (v := y_22) hx hb hr (fun t ht hW => ⟨⟨y_22, (), rfl, trivial, ⟨f_6, k_ret ht hI, kp_8, 0, z1, z10, z12, z13, z14, z15, z16, z17, z18, z23, z24, z25, z26, q, u, im, kt, k_9, (by first | omega | decide), (by first | omega | decide), (by first | omega | decide), k_10, hc1_ok, k_11, k_12, k_13, hU⟩⟩, hS.F ht⟩) hS.2.2 dX12_rank_95
          · have c_27 := ln_le rfl (lN_toInt (n := y_21) (by omega)) (fun h9 => c_27 ((lg_cmp_ge _ _).mpr h9))
            refine lv_iload_n hx hb dX12_rank_39 rfl (lv_at hl 1 rfl) ?_
            refine lv_aload_n hx hb dX12_rank_40 rfl (lv_at hl 2 rfl) ?_
            refine lv_iload_n hx hb dX12_rank_41 rfl (lv_at hl 0 rfl) ?_
            refine va_calli (va_runV (As := [.int (nI y_21)]) (rest := [.int y_22]) ⟨hx, hb, hml, hown, hts⟩ (c_X12_isOn l dC dI g A hG f_6 h0 y_21 q i_h0 k_10 hc1_ok (by first | omega | decide | (simp only [k_c0, k_c1, k_cm1]; omega))) (cwV 1 hts (gi_V (fun w_ h0_ => ⟨List.mem_cons_of_mem _ (List.mem_append_right _ (List.mem_append_right _ (List.mem_append_right _ (List.mem_append_left _ h0_)))), (tb_c_X12_isOn w_ h0_).2⟩) (List.mem_cons_of_mem _ (List.mem_append_left _ (List.mem_of_getElem? (i := 5) rfl))) (List.mem_cons_of_mem _ (List.mem_append_left _ (List.mem_of_getElem? (i := 6) rfl))) (List.mem_cons_of_mem _ (List.mem_append_left _ (List.mem_of_getElem? (i := 7) rfl))) (List.mem_cons_of_mem _ (List.mem_append_left _ (List.mem_of_getElem? (i := 4) rfl)))) rfl rfl rfl (by decide +kernel) ⟨Nat.le_of_ble_eq_true rfl, Nat.le_of_ble_eq_true rfl⟩) ⟨fun a U g mk q => ⟨q.1, q.2.calling rfl rfl⟩, k_recv hK hI i_h0.1 k_9 (ci := 12) rfl, fun U hU hW => ⟨rfl, kIn.of hI hK hE hS hU hW⟩⟩ rfl rfl hl.1 rfl (lv_room (Nat.le_of_ble_eq_true rfl)) dX12_rank_42 ⟨Nat.le_of_ble_eq_true rfl, Nat.le_of_ble_eq_true rfl⟩) hS (fun q _ h => h) (fun q h => h) (fun r_29 u t H1 locs ht hvm w_28 hB hz1 hk1 hS => ?_)
            have hI : Iv dC dI g A f_6 t.heap := hB
            rw [ht] at hI
            generalize H1 = H at hI hS ⊢
            refine W.widen (k := 0) (n := 0) (Nat.le_of_ble_eq_true rfl) (Nat.le_of_ble_eq_true rfl) ?_
            have w_28 : (r_29.toInt = 0 ∧ (q (6 + 43 * y_21 + 2)).toInt ≠ 1) ∨ (r_29.toInt = 1 ∧ (q (6 + 43 * y_21 + 2)).toInt = 1) := w_28
            have J_86 : ∀ (y_30 : Int32) (H : Heap) (locs : List Loc) (ls : Array Slot), Iv dC dI g A f_6 H → va_S A s.heap H locs → lv_has ls 4 [(3, .int (nI y_21)), (2, .int y_22), (0, .ref h0), (1, .int p1)] → W p l e (headSpec wq_c_X12_rank ({ frames := 2, cells := 0, slots := 0, locals := 46 } : Room)).room s m ([.ref h0, .int p1].toArray) below meth c H locs 0 0 (MQ below (va_Qi (fun (r : Int32) (_ : Unit) => True) (fun (_ : Unit) t => ∃ f1 : Nat → va_E, Iv dC dI g A f1 t.heap ∧ Kp g [12] f f1 ∧ ∃ (w0 : Int32) (w1 : Int32) (w10 : Int32) (w12 : Int32) (w13 : Int32) (w14 : Int32) (w15 : Int32) (w16 : Int64) (w17 : Int32) (w18 : Int32) (w23 : Int32) (w24 : Int64) (w25 : Int64) (w26 : Int64) (q1 : Nat → Int64) (u1 : Nat → Int64) (im1 : Nat → Int64) (ik1 : Nat → Int32), (f1 h0 = .inr (12, [.int w0, .int w1, .ref (gr g h0 2), .ref (gr g h0 3), .ref (gr g h0 4), .ref (gr g h0 5), .ref (gr g h0 6), .ref (gr g h0 7), .ref (gr g h0 8), .ref (gr g h0 9), .int w10, .ref (gr g h0 11), .int w12, .int w13, .int w14, .int w15, .long w16, .int w17, .int w18, .ref (gr g h0 19), .ref (gr g h0 20), .ref (gr g h0 21), .ref (gr g h0 22), .int w23, .long w24, .long w25, .long w26])) ∧ (0 ≤ w10.toInt ∧ w10.toInt ≤ 10) ∧ (0 ≤ w12.toInt ∧ w12.toInt ≤ 200) ∧ (0 ≤ w23.toInt ∧ w23.toInt ≤ 8) ∧ (f1 (gr g h0 4) = .inl (gc g 1, 906, .inr (.inl q1))) ∧ (RowOK q1) ∧ (f1 (gr g h0 5) = .inl (gc g 1, 9060, .inr (.inl u1))) ∧ (f1 (gr g h0 7) = .inl (gc g 1, 1812, .inr (.inl im1))) ∧ (f1 (gr g h0 8) = .inl (gc g 3, 2, .inl ik1)) ∧ (UIq w10 u1 im1 ik1)) A) ([.ref h0, .int p1].toArray) s 0 0 A) (F0 m 86 ls [.int y_30, .int y_22]) := by
              intro y_30 H locs ls hI hS  hl
              refine lv_iadd hx hb dX12_rank_86 ?_
              refine lv_topi (fun v_31 ev_31 => ?_)
              have tv_31 := k_ad y_22 y_30
              rw [← ev_31] at tv_31
              refine lv_istore_n (lv' := [(2, .int v_31), (3, .int (nI y_21)), (0, .ref h0), (1, .int p1)]) hx hb dX12_rank_87 rfl hl (by decide) rfl (fun ls hl => ?_)
              refine lv_iinc (v := nI (y_21 + 1)) (lv' := [(3, .int (nI (y_21 + 1))), (2, .int v_31), (0, .ref h0), (1, .int p1)]) hx hb dX12_rank_88 hl (k := 1) rfl (nI_1 _) (by decide) rfl (fun ls hl => ?_)
              refine lv_goto (tgt := 27) hx hb dX12_rank_91 (by decide) ?_
              exact ih (y_21 + 1) v_31 _ _ _ (by omega) hI hS (by first | omega | decide) (lv_sub hl [0, 1, 2, 3] rfl)
            have J_85 : ∀ (H : Heap) (locs : List Loc) (ls : Array Slot), Iv dC dI g A f_6 H → va_S A s.heap H locs → lv_has ls 4 [(3, .int (nI y_21)), (2, .int y_22), (0, .ref h0), (1, .int p1)] → W p l e (headSpec wq_c_X12_rank ({ frames := 2, cells := 0, slots := 0, locals := 46 } : Room)).room s m ([.ref h0, .int p1].toArray) below meth c H locs 0 0 (MQ below (va_Qi (fun (r : Int32) (_ : Unit) => True) (fun (_ : Unit) t => ∃ f1 : Nat → va_E, Iv dC dI g A f1 t.heap ∧ Kp g [12] f f1 ∧ ∃ (w0 : Int32) (w1 : Int32) (w10 : Int32) (w12 : Int32) (w13 : Int32) (w14 : Int32) (w15 : Int32) (w16 : Int64) (w17 : Int32) (w18 : Int32) (w23 : Int32) (w24 : Int64) (w25 : Int64) (w26 : Int64) (q1 : Nat → Int64) (u1 : Nat → Int64) (im1 : Nat → Int64) (ik1 : Nat → Int32), (f1 h0 = .inr (12, [.int w0, .int w1, .ref (gr g h0 2), .ref (gr g h0 3), .ref (gr g h0 4), .ref (gr g h0 5), .ref (gr g h0 6), .ref (gr g h0 7), .ref (gr g h0 8), .ref (gr g h0 9), .int w10, .ref (gr g h0 11), .int w12, .int w13, .int w14, .int w15, .long w16, .int w17, .int w18, .ref (gr g h0 19), .ref (gr g h0 20), .ref (gr g h0 21), .ref (gr g h0 22), .int w23, .long w24, .long w25, .long w26])) ∧ (0 ≤ w10.toInt ∧ w10.toInt ≤ 10) ∧ (0 ≤ w12.toInt ∧ w12.toInt ≤ 200) ∧ (0 ≤ w23.toInt ∧ w23.toInt ≤ 8) ∧ (f1 (gr g h0 4) = .inl (gc g 1, 906, .inr (.inl q1))) ∧ (RowOK q1) ∧ (f1 (gr g h0 5) = .inl (gc g 1, 9060, .inr (.inl u1))) ∧ (f1 (gr g h0 7) = .inl (gc g 1, 1812, .inr (.inl im1))) ∧ (f1 (gr g h0 8) = .inl (gc g 3, 2, .inl ik1)) ∧ (UIq w10 u1 im1 ik1)) A) ([.ref h0, .int p1].toArray) s 0 0 A) (F0 m 85 ls [.int y_22]) := by
              intro H locs ls hI hS  hl
              refine lv_iconst (v := 0) hx hb dX12_rank_85 (by decide) ?_
              exact J_86 0 _ _ _ hI hS  (lv_sub hl [0, 1, 2, 3] rfl)
            refine lv_if_eq (tgt := 85) hx hb dX12_rank_45 (by decide) (fun c_32 => ?_) (fun c_32 => ?_)
            · have c_32 := kc_eq rfl (by decide : Int32.toInt 0 = 0) c_32
              exact J_85  _ _ _ hI hS  (lv_sub hl [0, 1, 2, 3] rfl)
            · have c_32 := kn_eq rfl (by decide : Int32.toInt 0 = 0) c_32
              refine lv_aload_n hx hb dX12_rank_48 rfl (lv_at hl 2 rfl) ?_
              refine lv_iload_n hx hb dX12_rank_49 rfl (lv_at hl 0 rfl) ?_
              refine va_calll (va_runV (As := [.int (nI y_21)]) (rest := [.int y_22]) ⟨hx, hb, hml, hown, hts⟩ (c_X12_virtual l dC dI g A hG f_6 h0 y_21 q i_h0 k_10 hc1_ok (by first | omega | decide | (simp only [k_c0, k_c1, k_cm1]; omega))) (cwV 1 hts (gi_V (fun w_ h0_ => ⟨List.mem_cons_of_mem _ (List.mem_append_right _ (List.mem_append_right _ (List.mem_append_right _ (List.mem_append_right _ (List.mem_append_left _ h0_))))), (tb_c_X12_virtual w_ h0_).2⟩) (List.mem_cons_of_mem _ (List.mem_append_left _ (List.mem_of_getElem? (i := 9) rfl))) (List.mem_cons_of_mem _ (List.mem_append_left _ (List.mem_of_getElem? (i := 10) rfl))) (List.mem_cons_of_mem _ (List.mem_append_left _ (List.mem_of_getElem? (i := 11) rfl))) (List.mem_cons_of_mem _ (List.mem_append_left _ (List.mem_of_getElem? (i := 4) rfl)))) rfl rfl rfl (by decide +kernel) ⟨Nat.le_of_ble_eq_true rfl, Nat.le_of_ble_eq_true rfl⟩) ⟨fun a U g mk q => ⟨q.1, q.2.calling rfl rfl⟩, k_recv hK hI i_h0.1 k_9 (ci := 12) rfl, fun U hU hW => ⟨rfl, kIn.of hI hK hE hS hU hW⟩⟩ rfl rfl hl.1 rfl (lv_room (Nat.le_of_ble_eq_true rfl)) dX12_rank_50 ⟨Nat.le_of_ble_eq_true rfl, Nat.le_of_ble_eq_true rfl⟩) hS (fun q _ h => h) (fun q h => h) (fun r_34 u t H1 locs ht hvm w_33 hB hz1 hk1 hS => ?_)
              have hI : Iv dC dI g A f_6 t.heap := hB
              rw [ht] at hI
              generalize H1 = H at hI hS ⊢
              refine W.widen (k := 0) (n := 0) (Nat.le_of_ble_eq_true rfl) (Nat.le_of_ble_eq_true rfl) ?_
              refine lv_aload_n hx hb dX12_rank_53 rfl (lv_at hl 2 rfl) ?_
              refine lv_iload_n hx hb dX12_rank_54 rfl (lv_at hl 3 rfl) ?_
              refine k_topi (y := nI m_17) em_17 ?_
              refine va_calll (va_runV (As := [.int (nI m_17)]) (rest := [.long r_34, .int y_22]) ⟨hx, hb, hml, hown, hts⟩ (c_X12_virtual l dC dI g A hG f_6 h0 m_17 q i_h0 k_10 hc1_ok (by first | omega | decide | (simp only [k_c0, k_c1, k_cm1]; omega))) (cwV 1 hts (gi_V (fun w_ h0_ => ⟨List.mem_cons_of_mem _ (List.mem_append_right _ (List.mem_append_right _ (List.mem_append_right _ (List.mem_append_right _ (List.mem_append_left _ h0_))))), (tb_c_X12_virtual w_ h0_).2⟩) (List.mem_cons_of_mem _ (List.mem_append_left _ (List.mem_of_getElem? (i := 9) rfl))) (List.mem_cons_of_mem _ (List.mem_append_left _ (List.mem_of_getElem? (i := 10) rfl))) (List.mem_cons_of_mem _ (List.mem_append_left _ (List.mem_of_getElem? (i := 11) rfl))) (List.mem_cons_of_mem _ (List.mem_append_left _ (List.mem_of_getElem? (i := 4) rfl)))) rfl rfl rfl (by decide +kernel) ⟨Nat.le_of_ble_eq_true rfl, Nat.le_of_ble_eq_true rfl⟩) ⟨fun a U g mk q => ⟨q.1, q.2.calling rfl rfl⟩, k_recv hK hI i_h0.1 k_9 (ci := 12) rfl, fun U hU hW => ⟨rfl, kIn.of hI hK hE hS hU hW⟩⟩ rfl rfl hl.1 rfl (lv_room (Nat.le_of_ble_eq_true rfl)) dX12_rank_55 ⟨Nat.le_of_ble_eq_true rfl, Nat.le_of_ble_eq_true rfl⟩) hS (fun q _ h => h) (fun q h => h) (fun r_36 u t H1 locs ht hvm w_35 hB hz1 hk1 hS => ?_)
              have hI : Iv dC dI g A f_6 t.heap := hB
              rw [ht] at hI
              generalize H1 = H at hI hS ⊢
              refine W.widen (k := 0) (n := 0) (Nat.le_of_ble_eq_true rfl) (Nat.le_of_ble_eq_true rfl) ?_
              refine W.lcmp hx hb dX12_rank_58 ?_
              have J_81 : ∀ (H : Heap) (locs : List Loc) (ls : Array Slot), Iv dC dI g A f_6 H → va_S A s.heap H locs → lv_has ls 4 [(3, .int (nI y_21)), (2, .int y_22), (0, .ref h0), (1, .int p1)] → W p l e (headSpec wq_c_X12_rank ({ frames := 2, cells := 0, slots := 0, locals := 46 } : Room)).room s m ([.ref h0, .int p1].toArray) below meth c H locs 0 0 (MQ below (va_Qi (fun (r : Int32) (_ : Unit) => True) (fun (_ : Unit) t => ∃ f1 : Nat → va_E, Iv dC dI g A f1 t.heap ∧ Kp g [12] f f1 ∧ ∃ (w0 : Int32) (w1 : Int32) (w10 : Int32) (w12 : Int32) (w13 : Int32) (w14 : Int32) (w15 : Int32) (w16 : Int64) (w17 : Int32) (w18 : Int32) (w23 : Int32) (w24 : Int64) (w25 : Int64) (w26 : Int64) (q1 : Nat → Int64) (u1 : Nat → Int64) (im1 : Nat → Int64) (ik1 : Nat → Int32), (f1 h0 = .inr (12, [.int w0, .int w1, .ref (gr g h0 2), .ref (gr g h0 3), .ref (gr g h0 4), .ref (gr g h0 5), .ref (gr g h0 6), .ref (gr g h0 7), .ref (gr g h0 8), .ref (gr g h0 9), .int w10, .ref (gr g h0 11), .int w12, .int w13, .int w14, .int w15, .long w16, .int w17, .int w18, .ref (gr g h0 19), .ref (gr g h0 20), .ref (gr g h0 21), .ref (gr g h0 22), .int w23, .long w24, .long w25, .long w26])) ∧ (0 ≤ w10.toInt ∧ w10.toInt ≤ 10) ∧ (0 ≤ w12.toInt ∧ w12.toInt ≤ 200) ∧ (0 ≤ w23.toInt ∧ w23.toInt ≤ 8) ∧ (f1 (gr g h0 4) = .inl (gc g 1, 906, .inr (.inl q1))) ∧ (RowOK q1) ∧ (f1 (gr g h0 5) = .inl (gc g 1, 9060, .inr (.inl u1))) ∧ (f1 (gr g h0 7) = .inl (gc g 1, 1812, .inr (.inl im1))) ∧ (f1 (gr g h0 8) = .inl (gc g 3, 2, .inl ik1)) ∧ (UIq w10 u1 im1 ik1)) A) ([.ref h0, .int p1].toArray) s 0 0 A) (F0 m 81 ls [.int y_22]) := by
                intro H locs ls hI hS  hl
                refine lv_iconst (v := 1) hx hb dX12_rank_81 (by decide) ?_
                refine lv_goto (tgt := 86) hx hb dX12_rank_82 (by decide) ?_
                exact J_86 1 _ _ _ hI hS  (lv_sub hl [0, 1, 2, 3] rfl)
              refine lv_if_lt (tgt := 81) hx hb dX12_rank_59 (by decide) (fun c_37 => ?_) (fun c_37 => ?_)
              · have c_37 := lc_lt rfl rfl ((lg_cmp_lt _ _).mp c_37)
                exact J_81  _ _ _ hI hS  (lv_sub hl [0, 1, 2, 3] rfl)
              · have c_37 := ln_lt rfl rfl (fun h9 => c_37 ((lg_cmp_lt _ _).mpr h9))
                refine lv_aload_n hx hb dX12_rank_62 rfl (lv_at hl 2 rfl) ?_
                refine lv_iload_n hx hb dX12_rank_63 rfl (lv_at hl 0 rfl) ?_
                refine va_calll (va_runV (As := [.int (nI y_21)]) (rest := [.int y_22]) ⟨hx, hb, hml, hown, hts⟩ (c_X12_virtual l dC dI g A hG f_6 h0 y_21 q i_h0 k_10 hc1_ok (by first | omega | decide | (simp only [k_c0, k_c1, k_cm1]; omega))) (cwV 1 hts (gi_V (fun w_ h0_ => ⟨List.mem_cons_of_mem _ (List.mem_append_right _ (List.mem_append_right _ (List.mem_append_right _ (List.mem_append_right _ (List.mem_append_left _ h0_))))), (tb_c_X12_virtual w_ h0_).2⟩) (List.mem_cons_of_mem _ (List.mem_append_left _ (List.mem_of_getElem? (i := 9) rfl))) (List.mem_cons_of_mem _ (List.mem_append_left _ (List.mem_of_getElem? (i := 10) rfl))) (List.mem_cons_of_mem _ (List.mem_append_left _ (List.mem_of_getElem? (i := 11) rfl))) (List.mem_cons_of_mem _ (List.mem_append_left _ (List.mem_of_getElem? (i := 4) rfl)))) rfl rfl rfl (by decide +kernel) ⟨Nat.le_of_ble_eq_true rfl, Nat.le_of_ble_eq_true rfl⟩) ⟨fun a U g mk q => ⟨q.1, q.2.calling rfl rfl⟩, k_recv hK hI i_h0.1 k_9 (ci := 12) rfl, fun U hU hW => ⟨rfl, kIn.of hI hK hE hS hU hW⟩⟩ rfl rfl hl.1 rfl (lv_room (Nat.le_of_ble_eq_true rfl)) dX12_rank_64 ⟨Nat.le_of_ble_eq_true rfl, Nat.le_of_ble_eq_true rfl⟩) hS (fun q _ h => h) (fun q h => h) (fun r_39 u t H1 locs ht hvm w_38 hB hz1 hk1 hS => ?_)
                have hI : Iv dC dI g A f_6 t.heap := hB
                rw [ht] at hI
                generalize H1 = H at hI hS ⊢
                refine W.widen (k := 0) (n := 0) (Nat.le_of_ble_eq_true rfl) (Nat.le_of_ble_eq_true rfl) ?_
                refine lv_aload_n hx hb dX12_rank_67 rfl (lv_at hl 2 rfl) ?_
                refine lv_iload_n hx hb dX12_rank_68 rfl (lv_at hl 3 rfl) ?_
                refine k_topi (y := nI m_17) em_17 ?_
                refine va_calll (va_runV (As := [.int (nI m_17)]) (rest := [.long r_39, .int y_22]) ⟨hx, hb, hml, hown, hts⟩ (c_X12_virtual l dC dI g A hG f_6 h0 m_17 q i_h0 k_10 hc1_ok (by first | omega | decide | (simp only [k_c0, k_c1, k_cm1]; omega))) (cwV 1 hts (gi_V (fun w_ h0_ => ⟨List.mem_cons_of_mem _ (List.mem_append_right _ (List.mem_append_right _ (List.mem_append_right _ (List.mem_append_right _ (List.mem_append_left _ h0_))))), (tb_c_X12_virtual w_ h0_).2⟩) (List.mem_cons_of_mem _ (List.mem_append_left _ (List.mem_of_getElem? (i := 9) rfl))) (List.mem_cons_of_mem _ (List.mem_append_left _ (List.mem_of_getElem? (i := 10) rfl))) (List.mem_cons_of_mem _ (List.mem_append_left _ (List.mem_of_getElem? (i := 11) rfl))) (List.mem_cons_of_mem _ (List.mem_append_left _ (List.mem_of_getElem? (i := 4) rfl)))) rfl rfl rfl (by decide +kernel) ⟨Nat.le_of_ble_eq_true rfl, Nat.le_of_ble_eq_true rfl⟩) ⟨fun a U g mk q => ⟨q.1, q.2.calling rfl rfl⟩, k_recv hK hI i_h0.1 k_9 (ci := 12) rfl, fun U hU hW => ⟨rfl, kIn.of hI hK hE hS hU hW⟩⟩ rfl rfl hl.1 rfl (lv_room (Nat.le_of_ble_eq_true rfl)) dX12_rank_69 ⟨Nat.le_of_ble_eq_true rfl, Nat.le_of_ble_eq_true rfl⟩) hS (fun q _ h => h) (fun q h => h) (fun r_41 u t H1 locs ht hvm w_40 hB hz1 hk1 hS => ?_)
                have hI : Iv dC dI g A f_6 t.heap := hB
                rw [ht] at hI
                generalize H1 = H at hI hS ⊢
                refine W.widen (k := 0) (n := 0) (Nat.le_of_ble_eq_true rfl) (Nat.le_of_ble_eq_true rfl) ?_
                refine W.lcmp hx hb dX12_rank_72 ?_
                refine lv_if_ne (tgt := 85) hx hb dX12_rank_73 (by decide) (fun c_42 => ?_) (fun c_42 => ?_)
                · have c_42 := ln_eq rfl rfl (fun h9 => c_42 ((lg_cmp_eq _ _).mpr h9))
                  exact J_85  _ _ _ hI hS  (lv_sub hl [0, 1, 2, 3] rfl)
                · have c_42 := lc_eq rfl rfl ((lg_cmp_eq _ _).mp c_42)
                  refine lv_iload_n hx hb dX12_rank_76 rfl (lv_at hl 0 rfl) ?_
                  refine lv_iload_n hx hb dX12_rank_77 rfl (lv_at hl 3 rfl) ?_
                  refine k_topi (y := nI m_17) em_17 ?_
                  refine lv_icmp_ge (tgt := 85) hx hb dX12_rank_78 (by decide) (fun c_43 => ?_) (fun c_43 => ?_)
                  · have c_43 := kc_le (nI_toInt (n := m_17) (by omega)) (nI_toInt (n := y_21) (by omega)) c_43
                    exact J_85  _ _ _ hI hS  (lv_sub hl [0, 1, 2, 3] rfl)
                  · have c_43 := kn_le (nI_toInt (n := m_17) (by omega)) (nI_toInt (n := y_21) (by omega)) c_43
                    exact J_81  _ _ _ hI hS  (lv_sub hl [0, 1, 2, 3] rfl)
      exact K_27 _ 0 0 _ _ _ (Nat.lt_succ_self _) hI hS (by first | omega | decide | (simp only [show Int32.toInt 0 = 0 from by decide]; omega)) (lv_sub hl [0, 1, 2, 3] rfl)
    · have c_20 := kc_eq rfl (by decide : Int32.toInt 0 = 0) c_20
      refine lv_iconst (v := (-1)) hx hb dX12_rank_21 (by decide) ?_
      exact W.iret (v := (-1)) hx hb hr (fun t ht hW => ⟨⟨(-1), (), rfl, trivial, ⟨f_6, k_ret ht hI, kp_8, 0, z1, z10, z12, z13, z14, z15, z16, z17, z18, z23, z24, z25, z26, q, u, im, kt, k_9, (by first | omega | decide), (by first | omega | decide), (by first | omega | decide), k_10, hc1_ok, k_11, k_12, k_13, hU⟩⟩, hS.F ht⟩) hS.2.2 dX12_rank_22
theorem tw_953 : q_g (.constantLong RX12 291 (-9223372036854775808)) := ⟨(List.mem_append_right _ (List.mem_of_getElem? (i := 1450) (by decide +kernel))), good_of_word (by decide +kernel)⟩
theorem tw_954 : q_g (.code yX12_exact cX12_exact 3 (some .long)) := ⟨(List.mem_append_right _ (List.mem_of_getElem? (i := 1449) (by decide +kernel))), good_of_word (by decide +kernel)⟩
def ow_c_X12_exact : List Cond := [.fieldLink RX12 67 "DeadlineShareModel" "thrown" "I", .methodLink RX12 142 yX12_isTask, .instanceMethod yX12_isTask, .selects RX12 yX12_isTask yX12_isTask, .initialized RX12, .methodLink RX12 90 yX12_isOn, .instanceMethod yX12_isOn, .selects RX12 yX12_isOn yX12_isOn, .constantLong RX12 291 (-9223372036854775808), .methodLink RX12 119 yX12_lag, .instanceMethod yX12_lag, .selects RX12 yX12_lag yX12_lag, .methodLink RX12 167 yX12_deadline, .instanceMethod yX12_deadline, .selects RX12 yX12_deadline yX12_deadline, .methodLink RX12 98 yX12_virtual, .instanceMethod yX12_virtual, .selects RX12 yX12_virtual yX12_virtual, .fieldLink RX12 16 "DeadlineShareModel" "row" "[J", .methodLink RX12 87 yX12_at, .static yX12_at]
def wq_c_X12_exact : List Cond := .code yX12_exact cX12_exact 3 (some .long) :: (ow_c_X12_exact ++ (u_ws RX12 TX12 27 ++ (wq_c_X12_isTask ++ (wq_c_X12_isOn ++ (wq_c_X12_lag ++ (wq_c_X12_deadline ++ (wq_c_X12_virtual ++ (wq_c_X12_at ++ ([] : List Cond)))))))))
theorem tb_c_X12_exact : ∀ w ∈ wq_c_X12_exact, q_g w := by
  unfold wq_c_X12_exact ow_c_X12_exact
  exact q_cons tw_954 (q_app (q_cons tw_927 (q_cons tw_951 (q_cons tw_950 (q_cons tw_949 (q_cons tw_728 (q_cons tw_744 (q_cons tw_743 (q_cons tw_742 (q_cons tw_953 (q_cons tw_772 (q_cons tw_771 (q_cons tw_770 (q_cons tw_782 (q_cons tw_781 (q_cons tw_780 (q_cons tw_748 (q_cons tw_747 (q_cons tw_746 (q_cons tw_731 (q_cons tw_734 (q_cons tw_733 q_nil))))))))))))))))))))) (q_app tu_X12 (q_app tb_c_X12_isTask (q_app tb_c_X12_isOn (q_app tb_c_X12_lag (q_app tb_c_X12_deadline (q_app tb_c_X12_virtual (q_app tb_c_X12_at q_nil))))))))
set_option maxHeartbeats 4000000 in
set_option maxRecDepth 100000 in
theorem c_X12_exact (l : Launch) (dC : Nat → ClassId) (dI : Nat → Nat → Nat) (g : kG) (A : Nat → Prop) (hG : kWf g) (f : Nat → va_E) (h0 : Nat) (p1 : Int32) (p2 : Int32) (z0 : Int32) (z1 : Int32) (z10 : Int32) (z12 : Int32) (z13 : Int32) (z14 : Int32) (z15 : Int32) (z16 : Int64) (z17 : Int32) (z18 : Int32) (z23 : Int32) (z24 : Int64) (z25 : Int64) (z26 : Int64) (q : Nat → Int64) (u : Nat → Int64) (im : Nat → Int64) (kt : Nat → Int32) (i_h0 : ik g 12 h0) (hc0 : f h0 = .inr (12, [.int z0, .int z1, .ref (gr g h0 2), .ref (gr g h0 3), .ref (gr g h0 4), .ref (gr g h0 5), .ref (gr g h0 6), .ref (gr g h0 7), .ref (gr g h0 8), .ref (gr g h0 9), .int z10, .ref (gr g h0 11), .int z12, .int z13, .int z14, .int z15, .long z16, .int z17, .int z18, .ref (gr g h0 19), .ref (gr g h0 20), .ref (gr g h0 21), .ref (gr g h0 22), .int z23, .long z24, .long z25, .long z26])) (hc0_10 : 0 ≤ z10.toInt ∧ z10.toInt ≤ 10) (hc0_12 : 0 ≤ z12.toInt ∧ z12.toInt ≤ 200) (hc0_23 : 0 ≤ z23.toInt ∧ z23.toInt ≤ 8) (hc1 : f (gr g h0 4) = .inl (gc g 1, 906, .inr (.inl q))) (hc1_ok : RowOK q) (hc2 : f (gr g h0 5) = .inl (gc g 1, 9060, .inr (.inl u))) (hc3 : f (gr g h0 7) = .inl (gc g 1, 1812, .inr (.inl im))) (hc4 : f (gr g h0 8) = .inl (gc g 3, 2, .inl kt)) (hU : UIq z10 u im kt) : Met l yX12_exact wq_c_X12_exact ({ frames := 4, cells := 0, slots := 0, locals := 85 } : Room) (va_Pc [.ref h0, .int p1, .int p2] (fun U => kIn dC dI g A f U)) (va_Ql (fun (r : Int64) (_ : Unit) => True) (fun (_ : Unit) t => ∃ f1 : Nat → va_E, Iv dC dI g A f1 t.heap ∧ Kp g [12] f f1 ∧ ∃ (w0 : Int32) (w1 : Int32) (w10 : Int32) (w12 : Int32) (w13 : Int32) (w14 : Int32) (w15 : Int32) (w16 : Int64) (w17 : Int32) (w18 : Int32) (w23 : Int32) (w24 : Int64) (w25 : Int64) (w26 : Int64) (q1 : Nat → Int64) (u1 : Nat → Int64) (im1 : Nat → Int64) (ik1 : Nat → Int32), (f1 h0 = .inr (12, [.int w0, .int w1, .ref (gr g h0 2), .ref (gr g h0 3), .ref (gr g h0 4), .ref (gr g h0 5), .ref (gr g h0 6), .ref (gr g h0 7), .ref (gr g h0 8), .ref (gr g h0 9), .int w10, .ref (gr g h0 11), .int w12, .int w13, .int w14, .int w15, .long w16, .int w17, .int w18, .ref (gr g h0 19), .ref (gr g h0 20), .ref (gr g h0 21), .ref (gr g h0 22), .int w23, .long w24, .long w25, .long w26])) ∧ (0 ≤ w10.toInt ∧ w10.toInt ≤ 10) ∧ (0 ≤ w12.toInt ∧ w12.toInt ≤ 200) ∧ (0 ≤ w23.toInt ∧ w23.toInt ≤ 8) ∧ (f1 (gr g h0 4) = .inl (gc g 1, 906, .inr (.inl q1))) ∧ (RowOK q1) ∧ (f1 (gr g h0 5) = .inl (gc g 1, 9060, .inr (.inl u1))) ∧ (f1 (gr g h0 7) = .inl (gc g 1, 1812, .inr (.inl im1))) ∧ (f1 (gr g h0 8) = .inl (gc g 3, 2, .inl ik1)) ∧ (UIq w10 u1 im1 ik1)) A) 0 0 A := by
  refine Met.ofW (cc := cX12_exact) (maxL := 3) (ret := (some .long)) (by decide) rfl ?_
  intro p e s m args below meth c s₁ B hml hv
  obtain ⟨rfl, hI, hK, hE⟩ := hv
  have hx := B.exec
  have hb := B.bytes
  have hr := B.returns
  have hts := atoms_spec (ws := wq_c_X12_exact) B.pre
  have hown : s.vm.findClass RX12 = some m.cls := findClass_of_methodNamed B.named
  have hlocks := B.notSynchronized
  have hS : va_S A s.heap s.heap [] := va_S.rf
  have hk0 : Kp g [12] f f := Kp.rf
  have hl := lv_entry ([.ref h0, .int p1, .int p2]) (n := 3) (Nat.le_of_ble_eq_true rfl)
  rw [lg_entry_eq]
  generalize (lg_sl ([.ref h0, .int p1, .int p2]) ++ List.replicate (3 - (lg_sl ([.ref h0, .int p1, .int p2])).length) Slot.unset).toArray = ls at hl ⊢
  have hl : lv_has ls 3 [(0, .ref h0), (1, .int p1), (2, .int p2)] := hl
  have i_1 := kw_12_4 hG i_h0
  have d_2 := rk_hd hc1_ok
  have i_3 := kw_12_5 hG i_h0
  have i_4 := kw_12_7 hG i_h0
  have i_5 := kw_12_8 hG i_h0
  refine lv_aload_n hx hb dX12_exact_0 rfl (lv_at hl 0 rfl) ?_
  refine lv_iconst (v := 0) hx hb dX12_exact_1 (by decide) ?_
  refine k_put (ci := 12) (v := .int 0) (ty := .int) (C := RX12) (T := TX12) (N := 27) hx hb hts (fun _ h0_ => List.mem_cons_of_mem _ (List.mem_append_right _ (List.mem_append_left _ h0_))) tyX12 tyX12_ok nmX12 hown hK hI hS i_h0.1 hc0 rfl 0 (by decide) (hts (.fieldLink RX12 67 "DeadlineShareModel" "thrown" "I") (List.mem_cons_of_mem _ (List.mem_append_left _ (List.mem_of_getElem? (i := 0) rfl)))) (fun _ h9 => h9) rfl (by decide +kernel) rfl rfl (Nat.le_of_ble_eq_true rfl) rfl (cl_12 i_h0 (by omega) (by omega) (by omega)) dX12_exact_2 (fun f_6 H locs e_7 hI hS => ?_)
  have k_9 : f_6 h0 = .inr (12, [.int 0, .int z1, .ref (gr g h0 2), .ref (gr g h0 3), .ref (gr g h0 4), .ref (gr g h0 5), .ref (gr g h0 6), .ref (gr g h0 7), .ref (gr g h0 8), .ref (gr g h0 9), .int z10, .ref (gr g h0 11), .int z12, .int z13, .int z14, .int z15, .long z16, .int z17, .int z18, .ref (gr g h0 19), .ref (gr g h0 20), .ref (gr g h0 21), .ref (gr g h0 22), .int z23, .long z24, .long z25, .long z26]) := by rw [e_7]; exact va_up_self _ _ _
  have k_10 : f_6 (gr g h0 4) = .inl (gc g 1, 906, .inr (.inl q)) := by rw [e_7, va_up_ne _ _ (ik_ne i_1 i_h0 (by decide))]; exact hc1
  have k_11 : f_6 (gr g h0 5) = .inl (gc g 1, 9060, .inr (.inl u)) := by rw [e_7, va_up_ne _ _ (ik_ne i_3 i_h0 (by decide))]; exact hc2
  have k_12 : f_6 (gr g h0 7) = .inl (gc g 1, 1812, .inr (.inl im)) := by rw [e_7, va_up_ne _ _ (ik_ne i_4 i_h0 (by decide))]; exact hc3
  have k_13 : f_6 (gr g h0 8) = .inl (gc g 3, 2, .inl kt) := by rw [e_7, va_up_ne _ _ (ik_ne i_5 i_h0 (by decide))]; exact hc4
  have kp_8 := Kp.put hk0 i_h0 (by decide) e_7
  refine lv_aload_n hx hb dX12_exact_5 rfl (lv_at hl 0 rfl) ?_
  refine lv_iload_n hx hb dX12_exact_6 rfl (lv_at hl 1 rfl) ?_
  refine va_calli (va_runV (As := [.int p1]) (rest := []) ⟨hx, hb, hml, hown, hts⟩ (c_X12_isTask l dC dI g A hG f_6 h0 p1 q i_h0 k_10 hc1_ok) (cwV 1 hts (gi_V (fun w_ h0_ => ⟨List.mem_cons_of_mem _ (List.mem_append_right _ (List.mem_append_right _ (List.mem_append_left _ h0_))), (tb_c_X12_isTask w_ h0_).2⟩) (List.mem_cons_of_mem _ (List.mem_append_left _ (List.mem_of_getElem? (i := 1) rfl))) (List.mem_cons_of_mem _ (List.mem_append_left _ (List.mem_of_getElem? (i := 2) rfl))) (List.mem_cons_of_mem _ (List.mem_append_left _ (List.mem_of_getElem? (i := 3) rfl))) (List.mem_cons_of_mem _ (List.mem_append_left _ (List.mem_of_getElem? (i := 4) rfl)))) rfl rfl rfl (by decide +kernel) ⟨Nat.le_of_ble_eq_true rfl, Nat.le_of_ble_eq_true rfl⟩) ⟨fun a U g mk q => ⟨q.1, q.2.calling rfl rfl⟩, k_recv hK hI i_h0.1 k_9 (ci := 12) rfl, fun U hU hW => ⟨rfl, kIn.of hI hK hE hS hU hW⟩⟩ rfl rfl hl.1 rfl (lv_room (Nat.le_of_ble_eq_true rfl)) dX12_exact_7 ⟨Nat.le_of_ble_eq_true rfl, Nat.le_of_ble_eq_true rfl⟩) hS (fun q _ h => h) (fun q h => h) (fun r_15 u t H1 locs ht hvm w_14 hB hz1 hk1 hS => ?_)
  have hI : Iv dC dI g A f_6 t.heap := hB
  rw [ht] at hI
  generalize H1 = H at hI hS ⊢
  refine W.widen (k := 0) (n := 0) (Nat.le_of_ble_eq_true rfl) (Nat.le_of_ble_eq_true rfl) ?_
  have w_14 : (r_15.toInt = 0 ∨ r_15.toInt = 1) ∧ (r_15.toInt = 0 ∨ (0 ≤ p1.toInt ∧ p1.toInt < (q 0).toInt)) := w_14
  refine lv_if_ne (tgt := 17) hx hb dX12_exact_10 (by decide) (fun c_16 => ?_) (fun c_16 => ?_)
  · have c_16 := kn_eq rfl (by decide : Int32.toInt 0 = 0) c_16
    refine lv_aload_n hx hb dX12_exact_17 rfl (lv_at hl 0 rfl) ?_
    obtain ⟨m_17, em_17, tm_17⟩ := k_nat (x := p1) (by omega)
    refine lv_iload_n hx hb dX12_exact_18 rfl (lv_at hl 1 rfl) ?_
    refine k_topi (y := nI m_17) em_17 ?_
    refine va_calli (va_runV (As := [.int (nI m_17)]) (rest := []) ⟨hx, hb, hml, hown, hts⟩ (c_X12_isOn l dC dI g A hG f_6 h0 m_17 q i_h0 k_10 hc1_ok (by first | omega | decide | (simp only [k_c0, k_c1, k_cm1]; omega))) (cwV 1 hts (gi_V (fun w_ h0_ => ⟨List.mem_cons_of_mem _ (List.mem_append_right _ (List.mem_append_right _ (List.mem_append_right _ (List.mem_append_left _ h0_)))), (tb_c_X12_isOn w_ h0_).2⟩) (List.mem_cons_of_mem _ (List.mem_append_left _ (List.mem_of_getElem? (i := 5) rfl))) (List.mem_cons_of_mem _ (List.mem_append_left _ (List.mem_of_getElem? (i := 6) rfl))) (List.mem_cons_of_mem _ (List.mem_append_left _ (List.mem_of_getElem? (i := 7) rfl))) (List.mem_cons_of_mem _ (List.mem_append_left _ (List.mem_of_getElem? (i := 4) rfl)))) rfl rfl rfl (by decide +kernel) ⟨Nat.le_of_ble_eq_true rfl, Nat.le_of_ble_eq_true rfl⟩) ⟨fun a U g mk q => ⟨q.1, q.2.calling rfl rfl⟩, k_recv hK hI i_h0.1 k_9 (ci := 12) rfl, fun U hU hW => ⟨rfl, kIn.of hI hK hE hS hU hW⟩⟩ rfl rfl hl.1 rfl (lv_room (Nat.le_of_ble_eq_true rfl)) dX12_exact_19 ⟨Nat.le_of_ble_eq_true rfl, Nat.le_of_ble_eq_true rfl⟩) hS (fun q _ h => h) (fun q h => h) (fun r_19 u t H1 locs ht hvm w_18 hB hz1 hk1 hS => ?_)
    have hI : Iv dC dI g A f_6 t.heap := hB
    rw [ht] at hI
    generalize H1 = H at hI hS ⊢
    refine W.widen (k := 0) (n := 0) (Nat.le_of_ble_eq_true rfl) (Nat.le_of_ble_eq_true rfl) ?_
    have w_18 : (r_19.toInt = 0 ∧ (q (6 + 43 * m_17 + 2)).toInt ≠ 1) ∨ (r_19.toInt = 1 ∧ (q (6 + 43 * m_17 + 2)).toInt = 1) := w_18
    refine lv_if_ne (tgt := 49) hx hb dX12_exact_22 (by decide) (fun c_20 => ?_) (fun c_20 => ?_)
    · have c_20 := kn_eq rfl (by decide : Int32.toInt 0 = 0) c_20
      refine lv_iload_n hx hb dX12_exact_49 rfl (lv_at hl 2 rfl) ?_
      refine lv_if_ne (tgt := 61) hx hb dX12_exact_50 (by decide) (fun c_21 => ?_) (fun c_21 => ?_)
      · have c_21 := kn_eq rfl (by decide : Int32.toInt 0 = 0) c_21
        refine lv_iload_n hx hb dX12_exact_61 rfl (lv_at hl 2 rfl) ?_
        refine lv_iconst (v := 1) hx hb dX12_exact_62 (by decide) ?_
        refine lv_icmp_ne (tgt := 74) hx hb dX12_exact_63 (by decide) (fun c_22 => ?_) (fun c_22 => ?_)
        · have c_22 := kn_eq rfl (by decide : Int32.toInt 1 = 1) c_22
          refine lv_iload_n hx hb dX12_exact_74 rfl (lv_at hl 2 rfl) ?_
          refine lv_iconst (v := 2) hx hb dX12_exact_75 (by decide) ?_
          refine lv_icmp_ne (tgt := 87) hx hb dX12_exact_76 (by decide) (fun c_23 => ?_) (fun c_23 => ?_)
          · have c_23 := kn_eq rfl (by decide : Int32.toInt 2 = 2) c_23
            refine lv_ldc2 hx hb hown (hts (.constantLong RX12 291 (-9223372036854775808)) (List.mem_cons_of_mem _ (List.mem_append_left _ (List.mem_of_getElem? (i := 8) rfl)))) dX12_exact_87 ?_
            exact W.lret (v := (-9223372036854775808)) hx hb hr (fun t ht hW => ⟨⟨(-9223372036854775808), (), rfl, trivial, ⟨f_6, k_ret ht hI, kp_8, 0, z1, z10, z12, z13, z14, z15, z16, z17, z18, z23, z24, z25, z26, q, u, im, kt, k_9, (by first | omega | decide), (by first | omega | decide), (by first | omega | decide), k_10, hc1_ok, k_11, k_12, k_13, hU⟩⟩, hS.F ht⟩) hS.2.2 dX12_exact_90
          · have c_23 := kc_eq rfl (by decide : Int32.toInt 2 = 2) c_23
            refine lv_aload_n hx hb dX12_exact_79 rfl (lv_at hl 0 rfl) ?_
            refine lv_iload_n hx hb dX12_exact_80 rfl (lv_at hl 1 rfl) ?_
            refine k_topi (y := nI m_17) em_17 ?_
            refine va_calll (va_runV (As := [.int (nI m_17)]) (rest := []) ⟨hx, hb, hml, hown, hts⟩ (c_X12_lag l dC dI g A hG f_6 h0 m_17 q i_h0 k_10 hc1_ok (by first | omega | decide | (simp only [k_c0, k_c1, k_cm1]; omega))) (cwV 1 hts (gi_V (fun w_ h0_ => ⟨List.mem_cons_of_mem _ (List.mem_append_right _ (List.mem_append_right _ (List.mem_append_right _ (List.mem_append_right _ (List.mem_append_left _ h0_))))), (tb_c_X12_lag w_ h0_).2⟩) (List.mem_cons_of_mem _ (List.mem_append_left _ (List.mem_of_getElem? (i := 9) rfl))) (List.mem_cons_of_mem _ (List.mem_append_left _ (List.mem_of_getElem? (i := 10) rfl))) (List.mem_cons_of_mem _ (List.mem_append_left _ (List.mem_of_getElem? (i := 11) rfl))) (List.mem_cons_of_mem _ (List.mem_append_left _ (List.mem_of_getElem? (i := 4) rfl)))) rfl rfl rfl (by decide +kernel) ⟨Nat.le_of_ble_eq_true rfl, Nat.le_of_ble_eq_true rfl⟩) ⟨fun a U g mk q => ⟨q.1, q.2.calling rfl rfl⟩, k_recv hK hI i_h0.1 k_9 (ci := 12) rfl, fun U hU hW => ⟨rfl, kIn.of hI hK hE hS hU hW⟩⟩ rfl rfl hl.1 rfl (lv_room (Nat.le_of_ble_eq_true rfl)) dX12_exact_81 ⟨Nat.le_of_ble_eq_true rfl, Nat.le_of_ble_eq_true rfl⟩) hS (fun q _ h => h) (fun q h => h) (fun r_25 u t H1 locs ht hvm w_24 hB hz1 hk1 hS => ?_)
            have hI : Iv dC dI g A f_6 t.heap := hB
            rw [ht] at hI
            generalize H1 = H at hI hS ⊢
            refine W.widen (k := 0) (n := 0) (Nat.le_of_ble_eq_true rfl) (Nat.le_of_ble_eq_true rfl) ?_
            refine lv_goto (tgt := 90) hx hb dX12_exact_84 (by decide) ?_
            exact W.lret (v := r_25) hx hb hr (fun t ht hW => ⟨⟨r_25, (), rfl, trivial, ⟨f_6, k_ret ht hI, kp_8, 0, z1, z10, z12, z13, z14, z15, z16, z17, z18, z23, z24, z25, z26, q, u, im, kt, k_9, (by first | omega | decide), (by first | omega | decide), (by first | omega | decide), k_10, hc1_ok, k_11, k_12, k_13, hU⟩⟩, hS.F ht⟩) hS.2.2 dX12_exact_90
        · have c_22 := kc_eq rfl (by decide : Int32.toInt 1 = 1) c_22
          refine lv_aload_n hx hb dX12_exact_66 rfl (lv_at hl 0 rfl) ?_
          refine lv_iload_n hx hb dX12_exact_67 rfl (lv_at hl 1 rfl) ?_
          refine k_topi (y := nI m_17) em_17 ?_
          refine va_calll (va_runV (As := [.int (nI m_17)]) (rest := []) ⟨hx, hb, hml, hown, hts⟩ (c_X12_deadline l dC dI g A hG f_6 h0 m_17 q i_h0 k_10 hc1_ok (by first | omega | decide | (simp only [k_c0, k_c1, k_cm1]; omega))) (cwV 1 hts (gi_V (fun w_ h0_ => ⟨List.mem_cons_of_mem _ (List.mem_append_right _ (List.mem_append_right _ (List.mem_append_right _ (List.mem_append_right _ (List.mem_append_right _ (List.mem_append_left _ h0_)))))), (tb_c_X12_deadline w_ h0_).2⟩) (List.mem_cons_of_mem _ (List.mem_append_left _ (List.mem_of_getElem? (i := 12) rfl))) (List.mem_cons_of_mem _ (List.mem_append_left _ (List.mem_of_getElem? (i := 13) rfl))) (List.mem_cons_of_mem _ (List.mem_append_left _ (List.mem_of_getElem? (i := 14) rfl))) (List.mem_cons_of_mem _ (List.mem_append_left _ (List.mem_of_getElem? (i := 4) rfl)))) rfl rfl rfl (by decide +kernel) ⟨Nat.le_of_ble_eq_true rfl, Nat.le_of_ble_eq_true rfl⟩) ⟨fun a U g mk q => ⟨q.1, q.2.calling rfl rfl⟩, k_recv hK hI i_h0.1 k_9 (ci := 12) rfl, fun U hU hW => ⟨rfl, kIn.of hI hK hE hS hU hW⟩⟩ rfl rfl hl.1 rfl (lv_room (Nat.le_of_ble_eq_true rfl)) dX12_exact_68 ⟨Nat.le_of_ble_eq_true rfl, Nat.le_of_ble_eq_true rfl⟩) hS (fun q _ h => h) (fun q h => h) (fun r_27 u t H1 locs ht hvm w_26 hB hz1 hk1 hS => ?_)
          have hI : Iv dC dI g A f_6 t.heap := hB
          rw [ht] at hI
          generalize H1 = H at hI hS ⊢
          refine W.widen (k := 0) (n := 0) (Nat.le_of_ble_eq_true rfl) (Nat.le_of_ble_eq_true rfl) ?_
          refine lv_goto (tgt := 90) hx hb dX12_exact_71 (by decide) ?_
          exact W.lret (v := r_27) hx hb hr (fun t ht hW => ⟨⟨r_27, (), rfl, trivial, ⟨f_6, k_ret ht hI, kp_8, 0, z1, z10, z12, z13, z14, z15, z16, z17, z18, z23, z24, z25, z26, q, u, im, kt, k_9, (by first | omega | decide), (by first | omega | decide), (by first | omega | decide), k_10, hc1_ok, k_11, k_12, k_13, hU⟩⟩, hS.F ht⟩) hS.2.2 dX12_exact_90
      · have c_21 := kc_eq rfl (by decide : Int32.toInt 0 = 0) c_21
        refine lv_aload_n hx hb dX12_exact_53 rfl (lv_at hl 0 rfl) ?_
        refine lv_iload_n hx hb dX12_exact_54 rfl (lv_at hl 1 rfl) ?_
        refine k_topi (y := nI m_17) em_17 ?_
        refine va_calll (va_runV (As := [.int (nI m_17)]) (rest := []) ⟨hx, hb, hml, hown, hts⟩ (c_X12_virtual l dC dI g A hG f_6 h0 m_17 q i_h0 k_10 hc1_ok (by first | omega | decide | (simp only [k_c0, k_c1, k_cm1]; omega))) (cwV 1 hts (gi_V (fun w_ h0_ => ⟨List.mem_cons_of_mem _ (List.mem_append_right _ (List.mem_append_right _ (List.mem_append_right _ (List.mem_append_right _ (List.mem_append_right _ (List.mem_append_right _ (List.mem_append_left _ h0_))))))), (tb_c_X12_virtual w_ h0_).2⟩) (List.mem_cons_of_mem _ (List.mem_append_left _ (List.mem_of_getElem? (i := 15) rfl))) (List.mem_cons_of_mem _ (List.mem_append_left _ (List.mem_of_getElem? (i := 16) rfl))) (List.mem_cons_of_mem _ (List.mem_append_left _ (List.mem_of_getElem? (i := 17) rfl))) (List.mem_cons_of_mem _ (List.mem_append_left _ (List.mem_of_getElem? (i := 4) rfl)))) rfl rfl rfl (by decide +kernel) ⟨Nat.le_of_ble_eq_true rfl, Nat.le_of_ble_eq_true rfl⟩) ⟨fun a U g mk q => ⟨q.1, q.2.calling rfl rfl⟩, k_recv hK hI i_h0.1 k_9 (ci := 12) rfl, fun U hU hW => ⟨rfl, kIn.of hI hK hE hS hU hW⟩⟩ rfl rfl hl.1 rfl (lv_room (Nat.le_of_ble_eq_true rfl)) dX12_exact_55 ⟨Nat.le_of_ble_eq_true rfl, Nat.le_of_ble_eq_true rfl⟩) hS (fun q _ h => h) (fun q h => h) (fun r_29 u t H1 locs ht hvm w_28 hB hz1 hk1 hS => ?_)
        have hI : Iv dC dI g A f_6 t.heap := hB
        rw [ht] at hI
        generalize H1 = H at hI hS ⊢
        refine W.widen (k := 0) (n := 0) (Nat.le_of_ble_eq_true rfl) (Nat.le_of_ble_eq_true rfl) ?_
        refine lv_goto (tgt := 90) hx hb dX12_exact_58 (by decide) ?_
        exact W.lret (v := r_29) hx hb hr (fun t ht hW => ⟨⟨r_29, (), rfl, trivial, ⟨f_6, k_ret ht hI, kp_8, 0, z1, z10, z12, z13, z14, z15, z16, z17, z18, z23, z24, z25, z26, q, u, im, kt, k_9, (by first | omega | decide), (by first | omega | decide), (by first | omega | decide), k_10, hc1_ok, k_11, k_12, k_13, hU⟩⟩, hS.F ht⟩) hS.2.2 dX12_exact_90
    · have c_20 := kc_eq rfl (by decide : Int32.toInt 0 = 0) c_20
      refine lv_iload_n hx hb dX12_exact_25 rfl (lv_at hl 2 rfl) ?_
      refine lv_iconst (v := 3) hx hb dX12_exact_26 (by decide) ?_
      refine lv_icmp_ne (tgt := 45) hx hb dX12_exact_27 (by decide) (fun c_30 => ?_) (fun c_30 => ?_)
      · have c_30 := kn_eq rfl (by decide : Int32.toInt 3 = 3) c_30
        refine lv_ldc2 hx hb hown (hts (.constantLong RX12 291 (-9223372036854775808)) (List.mem_cons_of_mem _ (List.mem_append_left _ (List.mem_of_getElem? (i := 8) rfl)))) dX12_exact_45 ?_
        exact W.lret (v := (-9223372036854775808)) hx hb hr (fun t ht hW => ⟨⟨(-9223372036854775808), (), rfl, trivial, ⟨f_6, k_ret ht hI, kp_8, 0, z1, z10, z12, z13, z14, z15, z16, z17, z18, z23, z24, z25, z26, q, u, im, kt, k_9, (by first | omega | decide), (by first | omega | decide), (by first | omega | decide), k_10, hc1_ok, k_11, k_12, k_13, hU⟩⟩, hS.F ht⟩) hS.2.2 dX12_exact_48
      · have c_30 := kc_eq rfl (by decide : Int32.toInt 3 = 3) c_30
        refine lv_aload_n hx hb dX12_exact_30 rfl (lv_at hl 0 rfl) ?_
        refine k_get (ci := 12) (v := .ref (gr g h0 4)) (C := RX12) (T := TX12) (N := 27) hx hb hts (fun _ h0_ => List.mem_cons_of_mem _ (List.mem_append_right _ (List.mem_append_left _ h0_))) hown hK hI i_h0.1 k_9 rfl 4 (by decide) (hts (.fieldLink RX12 16 "DeadlineShareModel" "row" "[J") (List.mem_cons_of_mem _ (List.mem_append_left _ (List.mem_of_getElem? (i := 18) rfl)))) (fun _ h9 => h9) rfl dX12_exact_31 ?_
        refine lv_iload_n hx hb dX12_exact_34 rfl (lv_at hl 1 rfl) ?_
        refine k_topi (y := nI m_17) em_17 ?_
        refine va_calli (va_runS (As := [.int (nI m_17)]) (rest := [.ref (gr g h0 4)]) ⟨hx, hb, hml, hown, hts⟩ (c_X12_at l dC dI g A hG f_6 m_17) (va_cwS 1 hts (gi_S (fun w_ h0_ => ⟨List.mem_cons_of_mem _ (List.mem_append_right _ (List.mem_append_right _ (List.mem_append_right _ (List.mem_append_right _ (List.mem_append_right _ (List.mem_append_right _ (List.mem_append_right _ (List.mem_append_left _ h0_)))))))), (tb_c_X12_at w_ h0_).2⟩) (List.mem_cons_of_mem _ (List.mem_append_left _ (List.mem_of_getElem? (i := 19) rfl))) (List.mem_cons_of_mem _ (List.mem_append_left _ (List.mem_of_getElem? (i := 20) rfl))) (List.mem_cons_of_mem _ (List.mem_append_left _ (List.mem_of_getElem? (i := 4) rfl)))) rfl rfl rfl (by decide +kernel) ⟨Nat.le_of_ble_eq_true rfl, Nat.le_of_ble_eq_true rfl⟩) ⟨fun a U g mk q => ⟨q.1, q.2.calling rfl rfl⟩, fun U hU hW => ⟨rfl, kIn.of hI hK hE hS hU hW⟩⟩ rfl rfl hl.1 rfl (lv_room (Nat.le_of_ble_eq_true rfl)) dX12_exact_35 ⟨Nat.le_of_ble_eq_true rfl, Nat.le_of_ble_eq_true rfl⟩) hS (fun q _ h => h) (fun q h => h) (fun r_34 u t H1 locs ht hvm w_33 hB hz1 hk1 hS => ?_)
        have hI : Iv dC dI g A f_6 t.heap := hB
        rw [ht] at hI
        generalize H1 = H at hI hS ⊢
        refine W.widen (k := 0) (n := 0) (Nat.le_of_ble_eq_true rfl) (Nat.le_of_ble_eq_true rfl) ?_
        have w_33 : r_34 = nI (6 + 43 * m_17) := w_33
        refine k_topi (y := nI (6 + 43 * m_17)) w_33 ?_
        refine lv_bipush (v := 11) hx hb dX12_exact_38 (by decide) ?_
        refine lv_iadd hx hb dX12_exact_40 ?_
        refine k_topi (y := nI (6 + 43 * m_17 + 11)) ((nI_add (6 + 43 * m_17) 11).trans (congrArg nI (by omega))) ?_
        refine k_lald hx hb hK hI i_1.1 1 k_10 rfl (vp_in_nI (by omega) (by omega)) dX12_exact_41 ?_
        refine k_topl (y := q (6 + 43 * m_17 + 11)) (congrArg q (nI_clamp (by omega))) ?_
        refine lv_goto (tgt := 48) hx hb dX12_exact_42 (by decide) ?_
        exact W.lret (v := (q (6 + 43 * m_17 + 11))) hx hb hr (fun t ht hW => ⟨⟨q (6 + 43 * m_17 + 11), (), rfl, trivial, ⟨f_6, k_ret ht hI, kp_8, 0, z1, z10, z12, z13, z14, z15, z16, z17, z18, z23, z24, z25, z26, q, u, im, kt, k_9, (by first | omega | decide), (by first | omega | decide), (by first | omega | decide), k_10, hc1_ok, k_11, k_12, k_13, hU⟩⟩, hS.F ht⟩) hS.2.2 dX12_exact_48
  · have c_16 := kc_eq rfl (by decide : Int32.toInt 0 = 0) c_16
    refine lv_ldc2 hx hb hown (hts (.constantLong RX12 291 (-9223372036854775808)) (List.mem_cons_of_mem _ (List.mem_append_left _ (List.mem_of_getElem? (i := 8) rfl)))) dX12_exact_13 ?_
    exact W.lret (v := (-9223372036854775808)) hx hb hr (fun t ht hW => ⟨⟨(-9223372036854775808), (), rfl, trivial, ⟨f_6, k_ret ht hI, kp_8, 0, z1, z10, z12, z13, z14, z15, z16, z17, z18, z23, z24, z25, z26, q, u, im, kt, k_9, (by first | omega | decide), (by first | omega | decide), (by first | omega | decide), k_10, hc1_ok, k_11, k_12, k_13, hU⟩⟩, hS.F ht⟩) hS.2.2 dX12_exact_16
theorem tw_955 : q_g (.code yX12_time cX12_time 4 (some .long)) := ⟨(List.mem_append_right _ (List.mem_of_getElem? (i := 1454) (by decide +kernel))), good_of_word (by decide +kernel)⟩
def ow_c_X12_time : List Cond := [.fieldLink RX12 67 "DeadlineShareModel" "thrown" "I", .methodLink RX12 105 yX12_heavy, .instanceMethod yX12_heavy, .selects RX12 yX12_heavy yX12_heavy, .initialized RX12, .methodLink RX12 101 yX12_sum, .instanceMethod yX12_sum, .selects RX12 yX12_sum yX12_sum, .methodLink RX12 115 yX12_down, .static yX12_down, .fieldLink RX12 16 "DeadlineShareModel" "row" "[J", .constantLong RX12 291 (-9223372036854775808)]
def wq_c_X12_time : List Cond := .code yX12_time cX12_time 4 (some .long) :: (ow_c_X12_time ++ (u_ws RX12 TX12 27 ++ (wq_c_X12_heavy ++ (wq_c_X12_sum ++ (wq_c_X12_down ++ ([] : List Cond))))))
theorem tb_c_X12_time : ∀ w ∈ wq_c_X12_time, q_g w := by
  unfold wq_c_X12_time ow_c_X12_time
  exact q_cons tw_955 (q_app (q_cons tw_927 (q_cons tw_752 (q_cons tw_751 (q_cons tw_750 (q_cons tw_728 (q_cons tw_755 (q_cons tw_754 (q_cons tw_753 (q_cons tw_765 (q_cons tw_764 (q_cons tw_731 (q_cons tw_953 q_nil)))))))))))) (q_app tu_X12 (q_app tb_c_X12_heavy (q_app tb_c_X12_sum (q_app tb_c_X12_down q_nil)))))
set_option maxHeartbeats 4000000 in
set_option maxRecDepth 100000 in
theorem c_X12_time (l : Launch) (dC : Nat → ClassId) (dI : Nat → Nat → Nat) (g : kG) (A : Nat → Prop) (hG : kWf g) (f : Nat → va_E) (h0 : Nat) (p1 : Int32) (z0 : Int32) (z1 : Int32) (z10 : Int32) (z12 : Int32) (z13 : Int32) (z14 : Int32) (z15 : Int32) (z16 : Int64) (z17 : Int32) (z18 : Int32) (z23 : Int32) (z24 : Int64) (z25 : Int64) (z26 : Int64) (q : Nat → Int64) (u : Nat → Int64) (im : Nat → Int64) (kt : Nat → Int32) (i_h0 : ik g 12 h0) (hc0 : f h0 = .inr (12, [.int z0, .int z1, .ref (gr g h0 2), .ref (gr g h0 3), .ref (gr g h0 4), .ref (gr g h0 5), .ref (gr g h0 6), .ref (gr g h0 7), .ref (gr g h0 8), .ref (gr g h0 9), .int z10, .ref (gr g h0 11), .int z12, .int z13, .int z14, .int z15, .long z16, .int z17, .int z18, .ref (gr g h0 19), .ref (gr g h0 20), .ref (gr g h0 21), .ref (gr g h0 22), .int z23, .long z24, .long z25, .long z26])) (hc0_10 : 0 ≤ z10.toInt ∧ z10.toInt ≤ 10) (hc0_12 : 0 ≤ z12.toInt ∧ z12.toInt ≤ 200) (hc0_23 : 0 ≤ z23.toInt ∧ z23.toInt ≤ 8) (hc1 : f (gr g h0 4) = .inl (gc g 1, 906, .inr (.inl q))) (hc1_ok : RowOK q) (hc2 : f (gr g h0 5) = .inl (gc g 1, 9060, .inr (.inl u))) (hc3 : f (gr g h0 7) = .inl (gc g 1, 1812, .inr (.inl im))) (hc4 : f (gr g h0 8) = .inl (gc g 3, 2, .inl kt)) (hU : UIq z10 u im kt) : Met l yX12_time wq_c_X12_time ({ frames := 3, cells := 0, slots := 0, locals := 64 } : Room) (va_Pc [.ref h0, .int p1] (fun U => kIn dC dI g A f U)) (va_Ql (fun (r : Int64) (_ : Unit) => True) (fun (_ : Unit) t => ∃ f1 : Nat → va_E, Iv dC dI g A f1 t.heap ∧ Kp g [12] f f1 ∧ ∃ (w0 : Int32) (w1 : Int32) (w10 : Int32) (w12 : Int32) (w13 : Int32) (w14 : Int32) (w15 : Int32) (w16 : Int64) (w17 : Int32) (w18 : Int32) (w23 : Int32) (w24 : Int64) (w25 : Int64) (w26 : Int64) (q1 : Nat → Int64) (u1 : Nat → Int64) (im1 : Nat → Int64) (ik1 : Nat → Int32), (f1 h0 = .inr (12, [.int w0, .int w1, .ref (gr g h0 2), .ref (gr g h0 3), .ref (gr g h0 4), .ref (gr g h0 5), .ref (gr g h0 6), .ref (gr g h0 7), .ref (gr g h0 8), .ref (gr g h0 9), .int w10, .ref (gr g h0 11), .int w12, .int w13, .int w14, .int w15, .long w16, .int w17, .int w18, .ref (gr g h0 19), .ref (gr g h0 20), .ref (gr g h0 21), .ref (gr g h0 22), .int w23, .long w24, .long w25, .long w26])) ∧ (0 ≤ w10.toInt ∧ w10.toInt ≤ 10) ∧ (0 ≤ w12.toInt ∧ w12.toInt ≤ 200) ∧ (0 ≤ w23.toInt ∧ w23.toInt ≤ 8) ∧ (f1 (gr g h0 4) = .inl (gc g 1, 906, .inr (.inl q1))) ∧ (RowOK q1) ∧ (f1 (gr g h0 5) = .inl (gc g 1, 9060, .inr (.inl u1))) ∧ (f1 (gr g h0 7) = .inl (gc g 1, 1812, .inr (.inl im1))) ∧ (f1 (gr g h0 8) = .inl (gc g 3, 2, .inl ik1)) ∧ (UIq w10 u1 im1 ik1)) A) 0 0 A := by
  refine Met.ofW (cc := cX12_time) (maxL := 4) (ret := (some .long)) (by decide) rfl ?_
  intro p e s m args below meth c s₁ B hml hv
  obtain ⟨rfl, hI, hK, hE⟩ := hv
  have hx := B.exec
  have hb := B.bytes
  have hr := B.returns
  have hts := atoms_spec (ws := wq_c_X12_time) B.pre
  have hown : s.vm.findClass RX12 = some m.cls := findClass_of_methodNamed B.named
  have hlocks := B.notSynchronized
  have hS : va_S A s.heap s.heap [] := va_S.rf
  have hk0 : Kp g [12] f f := Kp.rf
  have hl := lv_entry ([.ref h0, .int p1]) (n := 4) (Nat.le_of_ble_eq_true rfl)
  rw [lg_entry_eq]
  generalize (lg_sl ([.ref h0, .int p1]) ++ List.replicate (4 - (lg_sl ([.ref h0, .int p1])).length) Slot.unset).toArray = ls at hl ⊢
  have hl : lv_has ls 4 [(0, .ref h0), (1, .int p1)] := hl
  have i_1 := kw_12_4 hG i_h0
  have d_2 := rk_hd hc1_ok
  have i_3 := kw_12_5 hG i_h0
  have i_4 := kw_12_7 hG i_h0
  have i_5 := kw_12_8 hG i_h0
  refine lv_aload_n hx hb dX12_time_0 rfl (lv_at hl 0 rfl) ?_
  refine lv_iconst (v := 0) hx hb dX12_time_1 (by decide) ?_
  refine k_put (ci := 12) (v := .int 0) (ty := .int) (C := RX12) (T := TX12) (N := 27) hx hb hts (fun _ h0_ => List.mem_cons_of_mem _ (List.mem_append_right _ (List.mem_append_left _ h0_))) tyX12 tyX12_ok nmX12 hown hK hI hS i_h0.1 hc0 rfl 0 (by decide) (hts (.fieldLink RX12 67 "DeadlineShareModel" "thrown" "I") (List.mem_cons_of_mem _ (List.mem_append_left _ (List.mem_of_getElem? (i := 0) rfl)))) (fun _ h9 => h9) rfl (by decide +kernel) rfl rfl (Nat.le_of_ble_eq_true rfl) rfl (cl_12 i_h0 (by omega) (by omega) (by omega)) dX12_time_2 (fun f_6 H locs e_7 hI hS => ?_)
  have k_9 : f_6 h0 = .inr (12, [.int 0, .int z1, .ref (gr g h0 2), .ref (gr g h0 3), .ref (gr g h0 4), .ref (gr g h0 5), .ref (gr g h0 6), .ref (gr g h0 7), .ref (gr g h0 8), .ref (gr g h0 9), .int z10, .ref (gr g h0 11), .int z12, .int z13, .int z14, .int z15, .long z16, .int z17, .int z18, .ref (gr g h0 19), .ref (gr g h0 20), .ref (gr g h0 21), .ref (gr g h0 22), .int z23, .long z24, .long z25, .long z26]) := by rw [e_7]; exact va_up_self _ _ _
  have k_10 : f_6 (gr g h0 4) = .inl (gc g 1, 906, .inr (.inl q)) := by rw [e_7, va_up_ne _ _ (ik_ne i_1 i_h0 (by decide))]; exact hc1
  have k_11 : f_6 (gr g h0 5) = .inl (gc g 1, 9060, .inr (.inl u)) := by rw [e_7, va_up_ne _ _ (ik_ne i_3 i_h0 (by decide))]; exact hc2
  have k_12 : f_6 (gr g h0 7) = .inl (gc g 1, 1812, .inr (.inl im)) := by rw [e_7, va_up_ne _ _ (ik_ne i_4 i_h0 (by decide))]; exact hc3
  have k_13 : f_6 (gr g h0 8) = .inl (gc g 3, 2, .inl kt) := by rw [e_7, va_up_ne _ _ (ik_ne i_5 i_h0 (by decide))]; exact hc4
  have kp_8 := Kp.put hk0 i_h0 (by decide) e_7
  refine lv_aload_n hx hb dX12_time_5 rfl (lv_at hl 0 rfl) ?_
  refine va_calll (va_runV (As := []) (rest := []) ⟨hx, hb, hml, hown, hts⟩ (c_X12_heavy l dC dI g A hG f_6 h0 q i_h0 k_10 hc1_ok) (cwV 0 hts (gi_V (fun w_ h0_ => ⟨List.mem_cons_of_mem _ (List.mem_append_right _ (List.mem_append_right _ (List.mem_append_left _ h0_))), (tb_c_X12_heavy w_ h0_).2⟩) (List.mem_cons_of_mem _ (List.mem_append_left _ (List.mem_of_getElem? (i := 1) rfl))) (List.mem_cons_of_mem _ (List.mem_append_left _ (List.mem_of_getElem? (i := 2) rfl))) (List.mem_cons_of_mem _ (List.mem_append_left _ (List.mem_of_getElem? (i := 3) rfl))) (List.mem_cons_of_mem _ (List.mem_append_left _ (List.mem_of_getElem? (i := 4) rfl)))) rfl rfl rfl (by decide +kernel) ⟨Nat.le_of_ble_eq_true rfl, Nat.le_of_ble_eq_true rfl⟩) ⟨fun a U g mk q => ⟨q.1, q.2.calling rfl rfl⟩, k_recv hK hI i_h0.1 k_9 (ci := 12) rfl, fun U hU hW => ⟨rfl, kIn.of hI hK hE hS hU hW⟩⟩ rfl rfl hl.1 rfl (lv_room (Nat.le_of_ble_eq_true rfl)) dX12_time_6 ⟨Nat.le_of_ble_eq_true rfl, Nat.le_of_ble_eq_true rfl⟩) hS (fun q _ h => h) (fun q h => h) (fun r_15 u t H1 locs ht hvm w_14 hB hz1 hk1 hS => ?_)
  have hI : Iv dC dI g A f_6 t.heap := hB
  rw [ht] at hI
  generalize H1 = H at hI hS ⊢
  refine W.widen (k := 0) (n := 0) (Nat.le_of_ble_eq_true rfl) (Nat.le_of_ble_eq_true rfl) ?_
  have w_14 : 0 ≤ r_15.toInt ∧ r_15.toInt ≤ 96 ∧ ∀ t : Nat, (t : Int) < (q 0).toInt → (q (6 + 43 * t + 2)).toInt = 1 → 1 ≤ r_15.toInt := w_14
  refine lv_lstore_n (lv' := [(2, .long r_15), (0, .ref h0), (1, .int p1)]) hx hb dX12_time_9 rfl hl (by decide) rfl (fun ls hl => ?_)
  refine lv_iload_n hx hb dX12_time_10 rfl (lv_at hl 2 rfl) ?_
  by_cases h_16 : p1 = 0
  · refine k_topi (y := 0) h_16 ?_
    refine lv_tableIn (tgt := 40) hx hb dX12_time_11 (by decide) (by decide) rfl (by decide) ?_
    have h_16 := kc_eq rfl (by decide : Int32.toInt 0 = 0) h_16
    refine lv_lload_n hx hb dX12_time_40 rfl (lv_at hl 0 rfl) ?_
    refine lv_lconst (v := 0) hx hb dX12_time_41 (by decide) ?_
    refine W.lcmp hx hb dX12_time_42 ?_
    refine lv_if_ne (tgt := 55) hx hb dX12_time_43 (by decide) (fun c_17 => ?_) (fun c_17 => ?_)
    · have c_17 := ln_eq rfl (by decide : Int64.toInt 0 = 0) (fun h9 => c_17 ((lg_cmp_eq _ _).mpr h9))
      refine lv_aload_n hx hb dX12_time_55 rfl (lv_at hl 1 rfl) ?_
      refine va_calll (va_runV (As := []) (rest := []) ⟨hx, hb, hml, hown, hts⟩ (c_X12_sum l dC dI g A hG f_6 h0 q i_h0 k_10 hc1_ok) (cwV 0 hts (gi_V (fun w_ h0_ => ⟨List.mem_cons_of_mem _ (List.mem_append_right _ (List.mem_append_right _ (List.mem_append_right _ (List.mem_append_left _ h0_)))), (tb_c_X12_sum w_ h0_).2⟩) (List.mem_cons_of_mem _ (List.mem_append_left _ (List.mem_of_getElem? (i := 5) rfl))) (List.mem_cons_of_mem _ (List.mem_append_left _ (List.mem_of_getElem? (i := 6) rfl))) (List.mem_cons_of_mem _ (List.mem_append_left _ (List.mem_of_getElem? (i := 7) rfl))) (List.mem_cons_of_mem _ (List.mem_append_left _ (List.mem_of_getElem? (i := 4) rfl)))) rfl rfl rfl (by decide +kernel) ⟨Nat.le_of_ble_eq_true rfl, Nat.le_of_ble_eq_true rfl⟩) ⟨fun a U g mk q => ⟨q.1, q.2.calling rfl rfl⟩, k_recv hK hI i_h0.1 k_9 (ci := 12) rfl, fun U hU hW => ⟨rfl, kIn.of hI hK hE hS hU hW⟩⟩ rfl rfl hl.1 rfl (lv_room (Nat.le_of_ble_eq_true rfl)) dX12_time_56 ⟨Nat.le_of_ble_eq_true rfl, Nat.le_of_ble_eq_true rfl⟩) hS (fun q _ h => h) (fun q h => h) (fun r_19 u t H1 locs ht hvm w_18 hB hz1 hk1 hS => ?_)
      have hI : Iv dC dI g A f_6 t.heap := hB
      rw [ht] at hI
      generalize H1 = H at hI hS ⊢
      refine W.widen (k := 0) (n := 0) (Nat.le_of_ble_eq_true rfl) (Nat.le_of_ble_eq_true rfl) ?_
      refine lv_lload_n hx hb dX12_time_59 rfl (lv_at hl 0 rfl) ?_
      refine va_calll (va_runS (As := [.long r_19, .long r_15]) (rest := []) ⟨hx, hb, hml, hown, hts⟩ (c_X12_down l dC dI g A hG f_6 r_19 r_15 (by first | omega | decide | (simp only [k_c0, k_c1, k_cm1]; omega))) (va_cwS 2 hts (gi_S (fun w_ h0_ => ⟨List.mem_cons_of_mem _ (List.mem_append_right _ (List.mem_append_right _ (List.mem_append_right _ (List.mem_append_right _ (List.mem_append_left _ h0_))))), (tb_c_X12_down w_ h0_).2⟩) (List.mem_cons_of_mem _ (List.mem_append_left _ (List.mem_of_getElem? (i := 8) rfl))) (List.mem_cons_of_mem _ (List.mem_append_left _ (List.mem_of_getElem? (i := 9) rfl))) (List.mem_cons_of_mem _ (List.mem_append_left _ (List.mem_of_getElem? (i := 4) rfl)))) rfl rfl rfl (by decide +kernel) ⟨Nat.le_of_ble_eq_true rfl, Nat.le_of_ble_eq_true rfl⟩) ⟨fun a U g mk q => ⟨q.1, q.2.calling rfl rfl⟩, fun U hU hW => ⟨rfl, kIn.of hI hK hE hS hU hW⟩⟩ rfl rfl hl.1 rfl (lv_room (Nat.le_of_ble_eq_true rfl)) dX12_time_60 ⟨Nat.le_of_ble_eq_true rfl, Nat.le_of_ble_eq_true rfl⟩) hS (fun q _ h => h) (fun q h => h) (fun r_21 u t H1 locs ht hvm w_20 hB hz1 hk1 hS => ?_)
      have hI : Iv dC dI g A f_6 t.heap := hB
      rw [ht] at hI
      generalize H1 = H at hI hS ⊢
      refine W.widen (k := 0) (n := 0) (Nat.le_of_ble_eq_true rfl) (Nat.le_of_ble_eq_true rfl) ?_
      exact W.lret (v := r_21) hx hb hr (fun t ht hW => ⟨⟨r_21, (), rfl, trivial, ⟨f_6, k_ret ht hI, kp_8, 0, z1, z10, z12, z13, z14, z15, z16, z17, z18, z23, z24, z25, z26, q, u, im, kt, k_9, (by first | omega | decide), (by first | omega | decide), (by first | omega | decide), k_10, hc1_ok, k_11, k_12, k_13, hU⟩⟩, hS.F ht⟩) hS.2.2 dX12_time_63
    · have c_17 := lc_eq rfl (by decide : Int64.toInt 0 = 0) ((lg_cmp_eq _ _).mp c_17)
      refine lv_aload_n hx hb dX12_time_46 rfl (lv_at hl 1 rfl) ?_
      refine k_get (ci := 12) (v := .ref (gr g h0 4)) (C := RX12) (T := TX12) (N := 27) hx hb hts (fun _ h0_ => List.mem_cons_of_mem _ (List.mem_append_right _ (List.mem_append_left _ h0_))) hown hK hI i_h0.1 k_9 rfl 4 (by decide) (hts (.fieldLink RX12 16 "DeadlineShareModel" "row" "[J") (List.mem_cons_of_mem _ (List.mem_append_left _ (List.mem_of_getElem? (i := 10) rfl)))) (fun _ h9 => h9) rfl dX12_time_47 ?_
      refine lv_iconst (v := 2) hx hb dX12_time_50 (by decide) ?_
      refine k_lald hx hb hK hI i_1.1 1 k_10 rfl (by unfold vp_in; decide) dX12_time_51 ?_
      refine k_topl (y := q 2) (congrArg q (show Int32.toNatClampNeg 2 = 2 by decide)) ?_
      refine lv_goto (tgt := 63) hx hb dX12_time_52 (by decide) ?_
      exact W.lret (v := (q 2)) hx hb hr (fun t ht hW => ⟨⟨q 2, (), rfl, trivial, ⟨f_6, k_ret ht hI, kp_8, 0, z1, z10, z12, z13, z14, z15, z16, z17, z18, z23, z24, z25, z26, q, u, im, kt, k_9, (by first | omega | decide), (by first | omega | decide), (by first | omega | decide), k_10, hc1_ok, k_11, k_12, k_13, hU⟩⟩, hS.F ht⟩) hS.2.2 dX12_time_63
  by_cases h_24 : p1 = 1
  · refine k_topi (y := 1) h_24 ?_
    refine lv_tableIn (tgt := 64) hx hb dX12_time_11 (by decide) (by decide) rfl (by decide) ?_
    have h_24 := kc_eq rfl (by decide : Int32.toInt 1 = 1) h_24
    refine lv_lload_n hx hb dX12_time_64 rfl (lv_at hl 0 rfl) ?_
    refine lv_lconst (v := 0) hx hb dX12_time_65 (by decide) ?_
    refine W.lcmp hx hb dX12_time_66 ?_
    refine lv_if_ne (tgt := 74) hx hb dX12_time_67 (by decide) (fun c_25 => ?_) (fun c_25 => ?_)
    · have c_25 := ln_eq rfl (by decide : Int64.toInt 0 = 0) (fun h9 => c_25 ((lg_cmp_eq _ _).mpr h9))
      refine lv_aload_n hx hb dX12_time_74 rfl (lv_at hl 1 rfl) ?_
      refine va_calll (va_runV (As := []) (rest := []) ⟨hx, hb, hml, hown, hts⟩ (c_X12_sum l dC dI g A hG f_6 h0 q i_h0 k_10 hc1_ok) (cwV 0 hts (gi_V (fun w_ h0_ => ⟨List.mem_cons_of_mem _ (List.mem_append_right _ (List.mem_append_right _ (List.mem_append_right _ (List.mem_append_left _ h0_)))), (tb_c_X12_sum w_ h0_).2⟩) (List.mem_cons_of_mem _ (List.mem_append_left _ (List.mem_of_getElem? (i := 5) rfl))) (List.mem_cons_of_mem _ (List.mem_append_left _ (List.mem_of_getElem? (i := 6) rfl))) (List.mem_cons_of_mem _ (List.mem_append_left _ (List.mem_of_getElem? (i := 7) rfl))) (List.mem_cons_of_mem _ (List.mem_append_left _ (List.mem_of_getElem? (i := 4) rfl)))) rfl rfl rfl (by decide +kernel) ⟨Nat.le_of_ble_eq_true rfl, Nat.le_of_ble_eq_true rfl⟩) ⟨fun a U g mk q => ⟨q.1, q.2.calling rfl rfl⟩, k_recv hK hI i_h0.1 k_9 (ci := 12) rfl, fun U hU hW => ⟨rfl, kIn.of hI hK hE hS hU hW⟩⟩ rfl rfl hl.1 rfl (lv_room (Nat.le_of_ble_eq_true rfl)) dX12_time_75 ⟨Nat.le_of_ble_eq_true rfl, Nat.le_of_ble_eq_true rfl⟩) hS (fun q _ h => h) (fun q h => h) (fun r_27 u t H1 locs ht hvm w_26 hB hz1 hk1 hS => ?_)
      have hI : Iv dC dI g A f_6 t.heap := hB
      rw [ht] at hI
      generalize H1 = H at hI hS ⊢
      refine W.widen (k := 0) (n := 0) (Nat.le_of_ble_eq_true rfl) (Nat.le_of_ble_eq_true rfl) ?_
      refine lv_lload_n hx hb dX12_time_78 rfl (lv_at hl 0 rfl) ?_
      refine lv_aload_n hx hb dX12_time_79 rfl (lv_at hl 1 rfl) ?_
      refine va_calll (va_runV (As := []) (rest := [.long r_15, .long r_27]) ⟨hx, hb, hml, hown, hts⟩ (c_X12_sum l dC dI g A hG f_6 h0 q i_h0 k_10 hc1_ok) (cwV 0 hts (gi_V (fun w_ h0_ => ⟨List.mem_cons_of_mem _ (List.mem_append_right _ (List.mem_append_right _ (List.mem_append_right _ (List.mem_append_left _ h0_)))), (tb_c_X12_sum w_ h0_).2⟩) (List.mem_cons_of_mem _ (List.mem_append_left _ (List.mem_of_getElem? (i := 5) rfl))) (List.mem_cons_of_mem _ (List.mem_append_left _ (List.mem_of_getElem? (i := 6) rfl))) (List.mem_cons_of_mem _ (List.mem_append_left _ (List.mem_of_getElem? (i := 7) rfl))) (List.mem_cons_of_mem _ (List.mem_append_left _ (List.mem_of_getElem? (i := 4) rfl)))) rfl rfl rfl (by decide +kernel) ⟨Nat.le_of_ble_eq_true rfl, Nat.le_of_ble_eq_true rfl⟩) ⟨fun a U g mk q => ⟨q.1, q.2.calling rfl rfl⟩, k_recv hK hI i_h0.1 k_9 (ci := 12) rfl, fun U hU hW => ⟨rfl, kIn.of hI hK hE hS hU hW⟩⟩ rfl rfl hl.1 rfl (lv_room (Nat.le_of_ble_eq_true rfl)) dX12_time_80 ⟨Nat.le_of_ble_eq_true rfl, Nat.le_of_ble_eq_true rfl⟩) hS (fun q _ h => h) (fun q h => h) (fun r_29 u t H1 locs ht hvm w_28 hB hz1 hk1 hS => ?_)
      have hI : Iv dC dI g A f_6 t.heap := hB
      rw [ht] at hI
      generalize H1 = H at hI hS ⊢
      refine W.widen (k := 0) (n := 0) (Nat.le_of_ble_eq_true rfl) (Nat.le_of_ble_eq_true rfl) ?_
      refine lv_lload_n hx hb dX12_time_83 rfl (lv_at hl 0 rfl) ?_
      refine va_calll (va_runS (As := [.long r_29, .long r_15]) (rest := [.long r_15, .long r_27]) ⟨hx, hb, hml, hown, hts⟩ (c_X12_down l dC dI g A hG f_6 r_29 r_15 (by first | omega | decide | (simp only [k_c0, k_c1, k_cm1]; omega))) (va_cwS 2 hts (gi_S (fun w_ h0_ => ⟨List.mem_cons_of_mem _ (List.mem_append_right _ (List.mem_append_right _ (List.mem_append_right _ (List.mem_append_right _ (List.mem_append_left _ h0_))))), (tb_c_X12_down w_ h0_).2⟩) (List.mem_cons_of_mem _ (List.mem_append_left _ (List.mem_of_getElem? (i := 8) rfl))) (List.mem_cons_of_mem _ (List.mem_append_left _ (List.mem_of_getElem? (i := 9) rfl))) (List.mem_cons_of_mem _ (List.mem_append_left _ (List.mem_of_getElem? (i := 4) rfl)))) rfl rfl rfl (by decide +kernel) ⟨Nat.le_of_ble_eq_true rfl, Nat.le_of_ble_eq_true rfl⟩) ⟨fun a U g mk q => ⟨q.1, q.2.calling rfl rfl⟩, fun U hU hW => ⟨rfl, kIn.of hI hK hE hS hU hW⟩⟩ rfl rfl hl.1 rfl (lv_room (Nat.le_of_ble_eq_true rfl)) dX12_time_84 ⟨Nat.le_of_ble_eq_true rfl, Nat.le_of_ble_eq_true rfl⟩) hS (fun q _ h => h) (fun q h => h) (fun r_31 u t H1 locs ht hvm w_30 hB hz1 hk1 hS => ?_)
      have hI : Iv dC dI g A f_6 t.heap := hB
      rw [ht] at hI
      generalize H1 = H at hI hS ⊢
      refine W.widen (k := 0) (n := 0) (Nat.le_of_ble_eq_true rfl) (Nat.le_of_ble_eq_true rfl) ?_
      refine lv_lmul hx hb dX12_time_87 ?_
      refine lv_topl (fun v_32 ev_32 => ?_)
      refine lv_lsub hx hb dX12_time_88 ?_
      refine lv_topl (fun v_33 ev_33 => ?_)
      have tv_33 := l_sb r_27 v_32
      rw [← ev_33] at tv_33
      exact W.lret (v := v_33) hx hb hr (fun t ht hW => ⟨⟨v_33, (), rfl, trivial, ⟨f_6, k_ret ht hI, kp_8, 0, z1, z10, z12, z13, z14, z15, z16, z17, z18, z23, z24, z25, z26, q, u, im, kt, k_9, (by first | omega | decide), (by first | omega | decide), (by first | omega | decide), k_10, hc1_ok, k_11, k_12, k_13, hU⟩⟩, hS.F ht⟩) hS.2.2 dX12_time_89
    · have c_25 := lc_eq rfl (by decide : Int64.toInt 0 = 0) ((lg_cmp_eq _ _).mp c_25)
      refine lv_lconst (v := 0) hx hb dX12_time_70 (by decide) ?_
      refine lv_goto (tgt := 89) hx hb dX12_time_71 (by decide) ?_
      exact W.lret (v := 0) hx hb hr (fun t ht hW => ⟨⟨0, (), rfl, trivial, ⟨f_6, k_ret ht hI, kp_8, 0, z1, z10, z12, z13, z14, z15, z16, z17, z18, z23, z24, z25, z26, q, u, im, kt, k_9, (by first | omega | decide), (by first | omega | decide), (by first | omega | decide), k_10, hc1_ok, k_11, k_12, k_13, hU⟩⟩, hS.F ht⟩) hS.2.2 dX12_time_89
  by_cases h_34 : p1 = 2
  · refine k_topi (y := 2) h_34 ?_
    refine lv_tableIn (tgt := 90) hx hb dX12_time_11 (by decide) (by decide) rfl (by decide) ?_
    have h_34 := kc_eq rfl (by decide : Int32.toInt 2 = 2) h_34
    refine lv_lload_n hx hb dX12_time_90 rfl (lv_at hl 0 rfl) ?_
    exact W.lret (v := r_15) hx hb hr (fun t ht hW => ⟨⟨r_15, (), rfl, trivial, ⟨f_6, k_ret ht hI, kp_8, 0, z1, z10, z12, z13, z14, z15, z16, z17, z18, z23, z24, z25, z26, q, u, im, kt, k_9, (by first | omega | decide), (by first | omega | decide), (by first | omega | decide), k_10, hc1_ok, k_11, k_12, k_13, hU⟩⟩, hS.F ht⟩) hS.2.2 dX12_time_91
  by_cases h_35 : p1 = 3
  · refine k_topi (y := 3) h_35 ?_
    refine lv_tableIn (tgt := 92) hx hb dX12_time_11 (by decide) (by decide) rfl (by decide) ?_
    have h_35 := kc_eq rfl (by decide : Int32.toInt 3 = 3) h_35
    refine lv_aload_n hx hb dX12_time_92 rfl (lv_at hl 1 rfl) ?_
    refine k_get (ci := 12) (v := .ref (gr g h0 4)) (C := RX12) (T := TX12) (N := 27) hx hb hts (fun _ h0_ => List.mem_cons_of_mem _ (List.mem_append_right _ (List.mem_append_left _ h0_))) hown hK hI i_h0.1 k_9 rfl 4 (by decide) (hts (.fieldLink RX12 16 "DeadlineShareModel" "row" "[J") (List.mem_cons_of_mem _ (List.mem_append_left _ (List.mem_of_getElem? (i := 10) rfl)))) (fun _ h9 => h9) rfl dX12_time_93 ?_
    refine lv_iconst (v := 1) hx hb dX12_time_96 (by decide) ?_
    refine k_lald hx hb hK hI i_1.1 1 k_10 rfl (by unfold vp_in; decide) dX12_time_97 ?_
    refine k_topl (y := q 1) (congrArg q (show Int32.toNatClampNeg 1 = 1 by decide)) ?_
    exact W.lret (v := (q 1)) hx hb hr (fun t ht hW => ⟨⟨q 1, (), rfl, trivial, ⟨f_6, k_ret ht hI, kp_8, 0, z1, z10, z12, z13, z14, z15, z16, z17, z18, z23, z24, z25, z26, q, u, im, kt, k_9, (by first | omega | decide), (by first | omega | decide), (by first | omega | decide), k_10, hc1_ok, k_11, k_12, k_13, hU⟩⟩, hS.F ht⟩) hS.2.2 dX12_time_98
  have h_16 := kn_eq rfl (by decide : Int32.toInt 0 = 0) h_16
  have h_24 := kn_eq rfl (by decide : Int32.toInt 1 = 1) h_24
  have h_34 := kn_eq rfl (by decide : Int32.toInt 2 = 2) h_34
  have h_35 := kn_eq rfl (by decide : Int32.toInt 3 = 3) h_35
  refine lv_tableOut (tgt := 99) hx hb dX12_time_11 (by omega) (by decide) ?_
  refine lv_ldc2 hx hb hown (hts (.constantLong RX12 291 (-9223372036854775808)) (List.mem_cons_of_mem _ (List.mem_append_left _ (List.mem_of_getElem? (i := 11) rfl)))) dX12_time_99 ?_
  exact W.lret (v := (-9223372036854775808)) hx hb hr (fun t ht hW => ⟨⟨(-9223372036854775808), (), rfl, trivial, ⟨f_6, k_ret ht hI, kp_8, 0, z1, z10, z12, z13, z14, z15, z16, z17, z18, z23, z24, z25, z26, q, u, im, kt, k_9, (by first | omega | decide), (by first | omega | decide), (by first | omega | decide), k_10, hc1_ok, k_11, k_12, k_13, hU⟩⟩, hS.F ht⟩) hS.2.2 dX12_time_102
theorem tw_956 : q_g (.constantLong RX12 135 (8)) := ⟨(List.mem_append_right _ (List.mem_of_getElem? (i := 1221) (by decide +kernel))), good_of_word (by decide +kernel)⟩
theorem tw_957 : q_g (.code yX12_of cX12_of 6 (some .int)) := ⟨(List.mem_append_right _ (List.mem_of_getElem? (i := 1445) (by decide +kernel))), good_of_word (by decide +kernel)⟩
def ow_c_X12_of : List Cond := [.fieldLink RX12 67 "DeadlineShareModel" "thrown" "I", .methodLink RX12 142 yX12_isTask, .instanceMethod yX12_isTask, .selects RX12 yX12_isTask yX12_isTask, .initialized RX12, .methodLink RX12 87 yX12_at, .static yX12_at, .methodLink RX12 90 yX12_isOn, .instanceMethod yX12_isOn, .selects RX12 yX12_isOn yX12_isOn, .fieldLink RX12 16 "DeadlineShareModel" "row" "[J", .constantLong RX12 135 (8), .methodLink RX12 83 yX12_in, .static yX12_in, .constantLong RX12 122 (2)]
def wq_c_X12_of : List Cond := .code yX12_of cX12_of 6 (some .int) :: (ow_c_X12_of ++ (u_ws RX12 TX12 27 ++ (wq_c_X12_isTask ++ (wq_c_X12_at ++ (wq_c_X12_isOn ++ (wq_c_X12_in ++ ([] : List Cond)))))))
theorem tb_c_X12_of : ∀ w ∈ wq_c_X12_of, q_g w := by
  unfold wq_c_X12_of ow_c_X12_of
  exact q_cons tw_957 (q_app (q_cons tw_927 (q_cons tw_951 (q_cons tw_950 (q_cons tw_949 (q_cons tw_728 (q_cons tw_734 (q_cons tw_733 (q_cons tw_744 (q_cons tw_743 (q_cons tw_742 (q_cons tw_731 (q_cons tw_956 (q_cons tw_730 (q_cons tw_729 (q_cons tw_822 q_nil))))))))))))))) (q_app tu_X12 (q_app tb_c_X12_isTask (q_app tb_c_X12_at (q_app tb_c_X12_isOn (q_app tb_c_X12_in q_nil))))))
set_option maxHeartbeats 4000000 in
set_option maxRecDepth 100000 in
theorem c_X12_of (l : Launch) (dC : Nat → ClassId) (dI : Nat → Nat → Nat) (g : kG) (A : Nat → Prop) (hG : kWf g) (f : Nat → va_E) (h0 : Nat) (p1 : Int32) (p2 : Int32) (z0 : Int32) (z1 : Int32) (z10 : Int32) (z12 : Int32) (z13 : Int32) (z14 : Int32) (z15 : Int32) (z16 : Int64) (z17 : Int32) (z18 : Int32) (z23 : Int32) (z24 : Int64) (z25 : Int64) (z26 : Int64) (q : Nat → Int64) (u : Nat → Int64) (im : Nat → Int64) (kt : Nat → Int32) (i_h0 : ik g 12 h0) (hc0 : f h0 = .inr (12, [.int z0, .int z1, .ref (gr g h0 2), .ref (gr g h0 3), .ref (gr g h0 4), .ref (gr g h0 5), .ref (gr g h0 6), .ref (gr g h0 7), .ref (gr g h0 8), .ref (gr g h0 9), .int z10, .ref (gr g h0 11), .int z12, .int z13, .int z14, .int z15, .long z16, .int z17, .int z18, .ref (gr g h0 19), .ref (gr g h0 20), .ref (gr g h0 21), .ref (gr g h0 22), .int z23, .long z24, .long z25, .long z26])) (hc0_10 : 0 ≤ z10.toInt ∧ z10.toInt ≤ 10) (hc0_12 : 0 ≤ z12.toInt ∧ z12.toInt ≤ 200) (hc0_23 : 0 ≤ z23.toInt ∧ z23.toInt ≤ 8) (hc1 : f (gr g h0 4) = .inl (gc g 1, 906, .inr (.inl q))) (hc1_ok : RowOK q) (hc2 : f (gr g h0 5) = .inl (gc g 1, 9060, .inr (.inl u))) (hc3 : f (gr g h0 7) = .inl (gc g 1, 1812, .inr (.inl im))) (hc4 : f (gr g h0 8) = .inl (gc g 3, 2, .inl kt)) (hU : UIq z10 u im kt) : Met l yX12_of wq_c_X12_of ({ frames := 2, cells := 0, slots := 0, locals := 46 } : Room) (va_Pc [.ref h0, .int p1, .int p2] (fun U => kIn dC dI g A f U)) (va_Qi (fun (r : Int32) (_ : Unit) => True) (fun (_ : Unit) t => ∃ f1 : Nat → va_E, Iv dC dI g A f1 t.heap ∧ Kp g [12] f f1 ∧ ∃ (w0 : Int32) (w1 : Int32) (w10 : Int32) (w12 : Int32) (w13 : Int32) (w14 : Int32) (w15 : Int32) (w16 : Int64) (w17 : Int32) (w18 : Int32) (w23 : Int32) (w24 : Int64) (w25 : Int64) (w26 : Int64) (q1 : Nat → Int64) (u1 : Nat → Int64) (im1 : Nat → Int64) (ik1 : Nat → Int32), (f1 h0 = .inr (12, [.int w0, .int w1, .ref (gr g h0 2), .ref (gr g h0 3), .ref (gr g h0 4), .ref (gr g h0 5), .ref (gr g h0 6), .ref (gr g h0 7), .ref (gr g h0 8), .ref (gr g h0 9), .int w10, .ref (gr g h0 11), .int w12, .int w13, .int w14, .int w15, .long w16, .int w17, .int w18, .ref (gr g h0 19), .ref (gr g h0 20), .ref (gr g h0 21), .ref (gr g h0 22), .int w23, .long w24, .long w25, .long w26])) ∧ (0 ≤ w10.toInt ∧ w10.toInt ≤ 10) ∧ (0 ≤ w12.toInt ∧ w12.toInt ≤ 200) ∧ (0 ≤ w23.toInt ∧ w23.toInt ≤ 8) ∧ (f1 (gr g h0 4) = .inl (gc g 1, 906, .inr (.inl q1))) ∧ (RowOK q1) ∧ (f1 (gr g h0 5) = .inl (gc g 1, 9060, .inr (.inl u1))) ∧ (f1 (gr g h0 7) = .inl (gc g 1, 1812, .inr (.inl im1))) ∧ (f1 (gr g h0 8) = .inl (gc g 3, 2, .inl ik1)) ∧ (UIq w10 u1 im1 ik1)) A) 0 0 A := by
  refine Met.ofW (cc := cX12_of) (maxL := 6) (ret := (some .int)) (by decide) rfl ?_
  intro p e s m args below meth c s₁ B hml hv
  obtain ⟨rfl, hI, hK, hE⟩ := hv
  have hx := B.exec
  have hb := B.bytes
  have hr := B.returns
  have hts := atoms_spec (ws := wq_c_X12_of) B.pre
  have hown : s.vm.findClass RX12 = some m.cls := findClass_of_methodNamed B.named
  have hlocks := B.notSynchronized
  have hS : va_S A s.heap s.heap [] := va_S.rf
  have hk0 : Kp g [12] f f := Kp.rf
  have hl := lv_entry ([.ref h0, .int p1, .int p2]) (n := 6) (Nat.le_of_ble_eq_true rfl)
  rw [lg_entry_eq]
  generalize (lg_sl ([.ref h0, .int p1, .int p2]) ++ List.replicate (6 - (lg_sl ([.ref h0, .int p1, .int p2])).length) Slot.unset).toArray = ls at hl ⊢
  have hl : lv_has ls 6 [(0, .ref h0), (1, .int p1), (2, .int p2)] := hl
  have i_1 := kw_12_4 hG i_h0
  have d_2 := rk_hd hc1_ok
  have i_3 := kw_12_5 hG i_h0
  have i_4 := kw_12_7 hG i_h0
  have i_5 := kw_12_8 hG i_h0
  refine lv_aload_n hx hb dX12_of_0 rfl (lv_at hl 0 rfl) ?_
  refine lv_iconst (v := 0) hx hb dX12_of_1 (by decide) ?_
  refine k_put (ci := 12) (v := .int 0) (ty := .int) (C := RX12) (T := TX12) (N := 27) hx hb hts (fun _ h0_ => List.mem_cons_of_mem _ (List.mem_append_right _ (List.mem_append_left _ h0_))) tyX12 tyX12_ok nmX12 hown hK hI hS i_h0.1 hc0 rfl 0 (by decide) (hts (.fieldLink RX12 67 "DeadlineShareModel" "thrown" "I") (List.mem_cons_of_mem _ (List.mem_append_left _ (List.mem_of_getElem? (i := 0) rfl)))) (fun _ h9 => h9) rfl (by decide +kernel) rfl rfl (Nat.le_of_ble_eq_true rfl) rfl (cl_12 i_h0 (by omega) (by omega) (by omega)) dX12_of_2 (fun f_6 H locs e_7 hI hS => ?_)
  have k_9 : f_6 h0 = .inr (12, [.int 0, .int z1, .ref (gr g h0 2), .ref (gr g h0 3), .ref (gr g h0 4), .ref (gr g h0 5), .ref (gr g h0 6), .ref (gr g h0 7), .ref (gr g h0 8), .ref (gr g h0 9), .int z10, .ref (gr g h0 11), .int z12, .int z13, .int z14, .int z15, .long z16, .int z17, .int z18, .ref (gr g h0 19), .ref (gr g h0 20), .ref (gr g h0 21), .ref (gr g h0 22), .int z23, .long z24, .long z25, .long z26]) := by rw [e_7]; exact va_up_self _ _ _
  have k_10 : f_6 (gr g h0 4) = .inl (gc g 1, 906, .inr (.inl q)) := by rw [e_7, va_up_ne _ _ (ik_ne i_1 i_h0 (by decide))]; exact hc1
  have k_11 : f_6 (gr g h0 5) = .inl (gc g 1, 9060, .inr (.inl u)) := by rw [e_7, va_up_ne _ _ (ik_ne i_3 i_h0 (by decide))]; exact hc2
  have k_12 : f_6 (gr g h0 7) = .inl (gc g 1, 1812, .inr (.inl im)) := by rw [e_7, va_up_ne _ _ (ik_ne i_4 i_h0 (by decide))]; exact hc3
  have k_13 : f_6 (gr g h0 8) = .inl (gc g 3, 2, .inl kt) := by rw [e_7, va_up_ne _ _ (ik_ne i_5 i_h0 (by decide))]; exact hc4
  have kp_8 := Kp.put hk0 i_h0 (by decide) e_7
  refine lv_aload_n hx hb dX12_of_5 rfl (lv_at hl 0 rfl) ?_
  refine lv_iload_n hx hb dX12_of_6 rfl (lv_at hl 1 rfl) ?_
  refine va_calli (va_runV (As := [.int p1]) (rest := []) ⟨hx, hb, hml, hown, hts⟩ (c_X12_isTask l dC dI g A hG f_6 h0 p1 q i_h0 k_10 hc1_ok) (cwV 1 hts (gi_V (fun w_ h0_ => ⟨List.mem_cons_of_mem _ (List.mem_append_right _ (List.mem_append_right _ (List.mem_append_left _ h0_))), (tb_c_X12_isTask w_ h0_).2⟩) (List.mem_cons_of_mem _ (List.mem_append_left _ (List.mem_of_getElem? (i := 1) rfl))) (List.mem_cons_of_mem _ (List.mem_append_left _ (List.mem_of_getElem? (i := 2) rfl))) (List.mem_cons_of_mem _ (List.mem_append_left _ (List.mem_of_getElem? (i := 3) rfl))) (List.mem_cons_of_mem _ (List.mem_append_left _ (List.mem_of_getElem? (i := 4) rfl)))) rfl rfl rfl (by decide +kernel) ⟨Nat.le_of_ble_eq_true rfl, Nat.le_of_ble_eq_true rfl⟩) ⟨fun a U g mk q => ⟨q.1, q.2.calling rfl rfl⟩, k_recv hK hI i_h0.1 k_9 (ci := 12) rfl, fun U hU hW => ⟨rfl, kIn.of hI hK hE hS hU hW⟩⟩ rfl rfl hl.1 rfl (lv_room (Nat.le_of_ble_eq_true rfl)) dX12_of_7 ⟨Nat.le_of_ble_eq_true rfl, Nat.le_of_ble_eq_true rfl⟩) hS (fun q _ h => h) (fun q h => h) (fun r_15 u t H1 locs ht hvm w_14 hB hz1 hk1 hS => ?_)
  have hI : Iv dC dI g A f_6 t.heap := hB
  rw [ht] at hI
  generalize H1 = H at hI hS ⊢
  refine W.widen (k := 0) (n := 0) (Nat.le_of_ble_eq_true rfl) (Nat.le_of_ble_eq_true rfl) ?_
  have w_14 : (r_15.toInt = 0 ∨ r_15.toInt = 1) ∧ (r_15.toInt = 0 ∨ (0 ≤ p1.toInt ∧ p1.toInt < (q 0).toInt)) := w_14
  refine lv_if_ne (tgt := 15) hx hb dX12_of_10 (by decide) (fun c_16 => ?_) (fun c_16 => ?_)
  · have c_16 := kn_eq rfl (by decide : Int32.toInt 0 = 0) c_16
    obtain ⟨m_17, em_17, tm_17⟩ := k_nat (x := p1) (by omega)
    refine lv_iload_n hx hb dX12_of_15 rfl (lv_at hl 1 rfl) ?_
    refine k_topi (y := nI m_17) em_17 ?_
    refine va_calli (va_runS (As := [.int (nI m_17)]) (rest := []) ⟨hx, hb, hml, hown, hts⟩ (c_X12_at l dC dI g A hG f_6 m_17) (va_cwS 1 hts (gi_S (fun w_ h0_ => ⟨List.mem_cons_of_mem _ (List.mem_append_right _ (List.mem_append_right _ (List.mem_append_right _ (List.mem_append_left _ h0_)))), (tb_c_X12_at w_ h0_).2⟩) (List.mem_cons_of_mem _ (List.mem_append_left _ (List.mem_of_getElem? (i := 5) rfl))) (List.mem_cons_of_mem _ (List.mem_append_left _ (List.mem_of_getElem? (i := 6) rfl))) (List.mem_cons_of_mem _ (List.mem_append_left _ (List.mem_of_getElem? (i := 4) rfl)))) rfl rfl rfl (by decide +kernel) ⟨Nat.le_of_ble_eq_true rfl, Nat.le_of_ble_eq_true rfl⟩) ⟨fun a U g mk q => ⟨q.1, q.2.calling rfl rfl⟩, fun U hU hW => ⟨rfl, kIn.of hI hK hE hS hU hW⟩⟩ rfl rfl hl.1 rfl (lv_room (Nat.le_of_ble_eq_true rfl)) dX12_of_16 ⟨Nat.le_of_ble_eq_true rfl, Nat.le_of_ble_eq_true rfl⟩) hS (fun q _ h => h) (fun q h => h) (fun r_19 u t H1 locs ht hvm w_18 hB hz1 hk1 hS => ?_)
    have hI : Iv dC dI g A f_6 t.heap := hB
    rw [ht] at hI
    generalize H1 = H at hI hS ⊢
    refine W.widen (k := 0) (n := 0) (Nat.le_of_ble_eq_true rfl) (Nat.le_of_ble_eq_true rfl) ?_
    have w_18 : r_19 = nI (6 + 43 * m_17) := w_18
    refine k_topi (y := nI (6 + 43 * m_17)) w_18 ?_
    refine lv_istore_n (lv' := [(3, .int (nI (6 + 43 * m_17))), (0, .ref h0), (1, .int p1), (2, .int p2)]) hx hb dX12_of_19 rfl hl (by decide) rfl (fun ls hl => ?_)
    refine lv_aload_n hx hb dX12_of_20 rfl (lv_at hl 1 rfl) ?_
    refine lv_iload_n hx hb dX12_of_21 rfl (lv_at hl 2 rfl) ?_
    refine k_topi (y := nI m_17) em_17 ?_
    refine va_calli (va_runV (As := [.int (nI m_17)]) (rest := []) ⟨hx, hb, hml, hown, hts⟩ (c_X12_isOn l dC dI g A hG f_6 h0 m_17 q i_h0 k_10 hc1_ok (by first | omega | decide | (simp only [k_c0, k_c1, k_cm1]; omega))) (cwV 1 hts (gi_V (fun w_ h0_ => ⟨List.mem_cons_of_mem _ (List.mem_append_right _ (List.mem_append_right _ (List.mem_append_right _ (List.mem_append_right _ (List.mem_append_left _ h0_))))), (tb_c_X12_isOn w_ h0_).2⟩) (List.mem_cons_of_mem _ (List.mem_append_left _ (List.mem_of_getElem? (i := 7) rfl))) (List.mem_cons_of_mem _ (List.mem_append_left _ (List.mem_of_getElem? (i := 8) rfl))) (List.mem_cons_of_mem _ (List.mem_append_left _ (List.mem_of_getElem? (i := 9) rfl))) (List.mem_cons_of_mem _ (List.mem_append_left _ (List.mem_of_getElem? (i := 4) rfl)))) rfl rfl rfl (by decide +kernel) ⟨Nat.le_of_ble_eq_true rfl, Nat.le_of_ble_eq_true rfl⟩) ⟨fun a U g mk q => ⟨q.1, q.2.calling rfl rfl⟩, k_recv hK hI i_h0.1 k_9 (ci := 12) rfl, fun U hU hW => ⟨rfl, kIn.of hI hK hE hS hU hW⟩⟩ rfl rfl hl.1 rfl (lv_room (Nat.le_of_ble_eq_true rfl)) dX12_of_22 ⟨Nat.le_of_ble_eq_true rfl, Nat.le_of_ble_eq_true rfl⟩) hS (fun q _ h => h) (fun q h => h) (fun r_21 u t H1 locs ht hvm w_20 hB hz1 hk1 hS => ?_)
    have hI : Iv dC dI g A f_6 t.heap := hB
    rw [ht] at hI
    generalize H1 = H at hI hS ⊢
    refine W.widen (k := 0) (n := 0) (Nat.le_of_ble_eq_true rfl) (Nat.le_of_ble_eq_true rfl) ?_
    have w_20 : (r_21.toInt = 0 ∧ (q (6 + 43 * m_17 + 2)).toInt ≠ 1) ∨ (r_21.toInt = 1 ∧ (q (6 + 43 * m_17 + 2)).toInt = 1) := w_20
    refine lv_istore (lv' := [(4, .int r_21), (3, .int (nI (6 + 43 * m_17))), (0, .ref h0), (1, .int p1), (2, .int p2)]) hx hb dX12_of_25 hl (by decide) rfl (fun ls hl => ?_)
    refine lv_aload_n hx hb dX12_of_27 rfl (lv_at hl 2 rfl) ?_
    refine k_get (ci := 12) (v := .ref (gr g h0 4)) (C := RX12) (T := TX12) (N := 27) hx hb hts (fun _ h0_ => List.mem_cons_of_mem _ (List.mem_append_right _ (List.mem_append_left _ h0_))) hown hK hI i_h0.1 k_9 rfl 4 (by decide) (hts (.fieldLink RX12 16 "DeadlineShareModel" "row" "[J") (List.mem_cons_of_mem _ (List.mem_append_left _ (List.mem_of_getElem? (i := 10) rfl)))) (fun _ h9 => h9) rfl dX12_of_28 ?_
    refine lv_iload_n hx hb dX12_of_31 rfl (lv_at hl 1 rfl) ?_
    refine lv_bipush (v := 13) hx hb dX12_of_32 (by decide) ?_
    refine lv_iadd hx hb dX12_of_34 ?_
    refine k_topi (y := nI (6 + 43 * m_17 + 13)) ((nI_add (6 + 43 * m_17) 13).trans (congrArg nI (by omega))) ?_
    refine k_lald hx hb hK hI i_1.1 1 k_10 rfl (vp_in_nI (by omega) (by omega)) dX12_of_35 ?_
    refine k_topl (y := q (6 + 43 * m_17 + 13)) (congrArg q (nI_clamp (by omega))) ?_
    have d_24 := rk_13 hc1_ok (t := m_17) (by omega)
    refine lv_lconst (v := 0) hx hb dX12_of_36 (by decide) ?_
    refine W.lcmp hx hb dX12_of_37 ?_
    have J_46 : ∀ (y_25 : Int32) (H : Heap) (locs : List Loc) (ls : Array Slot), Iv dC dI g A f_6 H → va_S A s.heap H locs → lv_has ls 6 [(4, .int r_21), (3, .int (nI (6 + 43 * m_17))), (0, .ref h0), (1, .int p1), (2, .int p2)] → W p l e (headSpec wq_c_X12_of ({ frames := 2, cells := 0, slots := 0, locals := 46 } : Room)).room s m ([.ref h0, .int p1, .int p2].toArray) below meth c H locs 0 0 (MQ below (va_Qi (fun (r : Int32) (_ : Unit) => True) (fun (_ : Unit) t => ∃ f1 : Nat → va_E, Iv dC dI g A f1 t.heap ∧ Kp g [12] f f1 ∧ ∃ (w0 : Int32) (w1 : Int32) (w10 : Int32) (w12 : Int32) (w13 : Int32) (w14 : Int32) (w15 : Int32) (w16 : Int64) (w17 : Int32) (w18 : Int32) (w23 : Int32) (w24 : Int64) (w25 : Int64) (w26 : Int64) (q1 : Nat → Int64) (u1 : Nat → Int64) (im1 : Nat → Int64) (ik1 : Nat → Int32), (f1 h0 = .inr (12, [.int w0, .int w1, .ref (gr g h0 2), .ref (gr g h0 3), .ref (gr g h0 4), .ref (gr g h0 5), .ref (gr g h0 6), .ref (gr g h0 7), .ref (gr g h0 8), .ref (gr g h0 9), .int w10, .ref (gr g h0 11), .int w12, .int w13, .int w14, .int w15, .long w16, .int w17, .int w18, .ref (gr g h0 19), .ref (gr g h0 20), .ref (gr g h0 21), .ref (gr g h0 22), .int w23, .long w24, .long w25, .long w26])) ∧ (0 ≤ w10.toInt ∧ w10.toInt ≤ 10) ∧ (0 ≤ w12.toInt ∧ w12.toInt ≤ 200) ∧ (0 ≤ w23.toInt ∧ w23.toInt ≤ 8) ∧ (f1 (gr g h0 4) = .inl (gc g 1, 906, .inr (.inl q1))) ∧ (RowOK q1) ∧ (f1 (gr g h0 5) = .inl (gc g 1, 9060, .inr (.inl u1))) ∧ (f1 (gr g h0 7) = .inl (gc g 1, 1812, .inr (.inl im1))) ∧ (f1 (gr g h0 8) = .inl (gc g 3, 2, .inl ik1)) ∧ (UIq w10 u1 im1 ik1)) A) ([.ref h0, .int p1, .int p2].toArray) s 0 0 A) (F0 m 46 ls [.int y_25]) := by
      intro y_25 H locs ls hI hS  hl
      refine lv_istore (lv' := [(5, .int y_25), (4, .int r_21), (3, .int (nI (6 + 43 * m_17))), (0, .ref h0), (1, .int p1), (2, .int p2)]) hx hb dX12_of_46 hl (by decide) rfl (fun ls hl => ?_)
      refine lv_iload_n hx hb dX12_of_48 rfl (lv_at hl 5 rfl) ?_
      by_cases h_26 : p2 = 3
      · refine k_topi (y := 3) h_26 ?_
        refine lv_tableIn (tgt := 112) hx hb dX12_of_49 (by decide) (by decide) rfl (by decide) ?_
        have h_26 := kc_eq rfl (by decide : Int32.toInt 3 = 3) h_26
        refine lv_iload hx hb dX12_of_112 (lv_at hl 1 rfl) ?_
        refine lv_if_eq (tgt := 129) hx hb dX12_of_114 (by decide) (fun c_27 => ?_) (fun c_27 => ?_)
        · have c_27 := kc_eq rfl (by decide : Int32.toInt 0 = 0) c_27
          refine lv_iconst (v := (-1)) hx hb dX12_of_129 (by decide) ?_
          exact W.iret (v := (-1)) hx hb hr (fun t ht hW => ⟨⟨(-1), (), rfl, trivial, ⟨f_6, k_ret ht hI, kp_8, 0, z1, z10, z12, z13, z14, z15, z16, z17, z18, z23, z24, z25, z26, q, u, im, kt, k_9, (by first | omega | decide), (by first | omega | decide), (by first | omega | decide), k_10, hc1_ok, k_11, k_12, k_13, hU⟩⟩, hS.F ht⟩) hS.2.2 dX12_of_130
        · have c_27 := kn_eq rfl (by decide : Int32.toInt 0 = 0) c_27
          refine lv_aload_n hx hb dX12_of_117 rfl (lv_at hl 3 rfl) ?_
          refine k_get (ci := 12) (v := .ref (gr g h0 4)) (C := RX12) (T := TX12) (N := 27) hx hb hts (fun _ h0_ => List.mem_cons_of_mem _ (List.mem_append_right _ (List.mem_append_left _ h0_))) hown hK hI i_h0.1 k_9 rfl 4 (by decide) (hts (.fieldLink RX12 16 "DeadlineShareModel" "row" "[J") (List.mem_cons_of_mem _ (List.mem_append_left _ (List.mem_of_getElem? (i := 10) rfl)))) (fun _ h9 => h9) rfl dX12_of_118 ?_
          refine lv_iload_n hx hb dX12_of_121 rfl (lv_at hl 2 rfl) ?_
          refine lv_iconst (v := 3) hx hb dX12_of_122 (by decide) ?_
          refine lv_iadd hx hb dX12_of_123 ?_
          refine k_topi (y := nI (6 + 43 * m_17 + 3)) ((nI_add (6 + 43 * m_17) 3).trans (congrArg nI (by omega))) ?_
          refine k_lald hx hb hK hI i_1.1 1 k_10 rfl (vp_in_nI (by omega) (by omega)) dX12_of_124 ?_
          refine k_topl (y := q (6 + 43 * m_17 + 3)) (congrArg q (nI_clamp (by omega))) ?_
          refine lv_l2i (v := (q (6 + 43 * m_17 + 3)).toInt32) hx hb dX12_of_125 rfl ?_
          refine lv_topi (fun v_30 ev_30 => ?_)
          have tv_30 := k_l2i (q (6 + 43 * m_17 + 3))
          rw [← ev_30] at tv_30
          refine lv_goto (tgt := 130) hx hb dX12_of_126 (by decide) ?_
          exact W.iret (v := v_30) hx hb hr (fun t ht hW => ⟨⟨v_30, (), rfl, trivial, ⟨f_6, k_ret ht hI, kp_8, 0, z1, z10, z12, z13, z14, z15, z16, z17, z18, z23, z24, z25, z26, q, u, im, kt, k_9, (by first | omega | decide), (by first | omega | decide), (by first | omega | decide), k_10, hc1_ok, k_11, k_12, k_13, hU⟩⟩, hS.F ht⟩) hS.2.2 dX12_of_130
      by_cases h_31 : p2 = 4
      · refine k_topi (y := 4) h_31 ?_
        refine lv_tableIn (tgt := 297) hx hb dX12_of_49 (by decide) (by decide) rfl (by decide) ?_
        have h_31 := kc_eq rfl (by decide : Int32.toInt 4 = 4) h_31
        refine lv_iload_n hx hb dX12_of_297 rfl (lv_at hl 5 rfl) ?_
        refine lv_i2l (v := p2.toInt64) hx hb dX12_of_298 rfl ?_
        have t_32 := Int32.toInt_toInt64 p2
        refine lv_lconst (v := 0) hx hb dX12_of_299 (by decide) ?_
        refine lv_ldc2 hx hb hown (hts (.constantLong RX12 135 (8)) (List.mem_cons_of_mem _ (List.mem_append_left _ (List.mem_of_getElem? (i := 11) rfl)))) dX12_of_300 ?_
        refine va_calli (va_runS (As := [.long p2.toInt64, .long 0, .long 8]) (rest := []) ⟨hx, hb, hml, hown, hts⟩ (c_X12_in l dC dI g A hG f_6 p2.toInt64 0 8) (va_cwS 3 hts (gi_S (fun w_ h0_ => ⟨List.mem_cons_of_mem _ (List.mem_append_right _ (List.mem_append_right _ (List.mem_append_right _ (List.mem_append_right _ (List.mem_append_right _ (List.mem_append_left _ h0_)))))), (tb_c_X12_in w_ h0_).2⟩) (List.mem_cons_of_mem _ (List.mem_append_left _ (List.mem_of_getElem? (i := 12) rfl))) (List.mem_cons_of_mem _ (List.mem_append_left _ (List.mem_of_getElem? (i := 13) rfl))) (List.mem_cons_of_mem _ (List.mem_append_left _ (List.mem_of_getElem? (i := 4) rfl)))) rfl rfl rfl (by decide +kernel) ⟨Nat.le_of_ble_eq_true rfl, Nat.le_of_ble_eq_true rfl⟩) ⟨fun a U g mk q => ⟨q.1, q.2.calling rfl rfl⟩, fun U hU hW => ⟨rfl, kIn.of hI hK hE hS hU hW⟩⟩ rfl rfl hl.1 rfl (lv_room (Nat.le_of_ble_eq_true rfl)) dX12_of_303 ⟨Nat.le_of_ble_eq_true rfl, Nat.le_of_ble_eq_true rfl⟩) hS (fun q _ h => h) (fun q h => h) (fun r_34 u t H1 locs ht hvm w_33 hB hz1 hk1 hS => ?_)
        have hI : Iv dC dI g A f_6 t.heap := hB
        rw [ht] at hI
        generalize H1 = H at hI hS ⊢
        refine W.widen (k := 0) (n := 0) (Nat.le_of_ble_eq_true rfl) (Nat.le_of_ble_eq_true rfl) ?_
        have w_33 : (r_34.toInt = 0 ∧ (p2.toInt64.toInt < (0 : Int64).toInt ∨ (8 : Int64).toInt < p2.toInt64.toInt)) ∨ (r_34.toInt = 1 ∧ (0 : Int64).toInt ≤ p2.toInt64.toInt ∧ p2.toInt64.toInt ≤ (8 : Int64).toInt) := w_33
        have g_35 : Int64.toInt (0) = 0 := by decide
        have g_36 : Int64.toInt (8) = 8 := by decide
        refine lv_if_eq (tgt := 321) hx hb dX12_of_306 (by decide) (fun c_37 => ?_) (fun c_37 => ?_)
        · have c_37 := kc_eq rfl (by decide : Int32.toInt 0 = 0) c_37
          refine lv_iconst (v := (-1)) hx hb dX12_of_321 (by decide) ?_
          exact W.iret (v := (-1)) hx hb hr (fun t ht hW => ⟨⟨(-1), (), rfl, trivial, ⟨f_6, k_ret ht hI, kp_8, 0, z1, z10, z12, z13, z14, z15, z16, z17, z18, z23, z24, z25, z26, q, u, im, kt, k_9, (by first | omega | decide), (by first | omega | decide), (by first | omega | decide), k_10, hc1_ok, k_11, k_12, k_13, hU⟩⟩, hS.F ht⟩) hS.2.2 dX12_of_322
        · have c_37 := kn_eq rfl (by decide : Int32.toInt 0 = 0) c_37
          refine lv_aload_n hx hb dX12_of_309 rfl (lv_at hl 3 rfl) ?_
          refine k_get (ci := 12) (v := .ref (gr g h0 4)) (C := RX12) (T := TX12) (N := 27) hx hb hts (fun _ h0_ => List.mem_cons_of_mem _ (List.mem_append_right _ (List.mem_append_left _ h0_))) hown hK hI i_h0.1 k_9 rfl 4 (by decide) (hts (.fieldLink RX12 16 "DeadlineShareModel" "row" "[J") (List.mem_cons_of_mem _ (List.mem_append_left _ (List.mem_of_getElem? (i := 10) rfl)))) (fun _ h9 => h9) rfl dX12_of_310 ?_
          refine lv_iload_n hx hb dX12_of_313 rfl (lv_at hl 2 rfl) ?_
          obtain ⟨m_40, em_40, tm_40⟩ := k_nat (x := p2) (by omega)
          refine lv_iload_n hx hb dX12_of_314 rfl (lv_at hl 5 rfl) ?_
          refine k_topi (y := nI m_40) em_40 ?_
          refine lv_iadd hx hb dX12_of_315 ?_
          refine k_topi (y := nI (6 + 43 * m_17 + m_40)) ((nI_add (6 + 43 * m_17) m_40).trans (congrArg nI (by omega))) ?_
          refine k_lald hx hb hK hI i_1.1 1 k_10 rfl (vp_in_nI (by omega) (by omega)) dX12_of_316 ?_
          refine k_topl (y := q (6 + 43 * m_17 + m_40)) (congrArg q (nI_clamp (by omega))) ?_
          refine lv_l2i (v := (q (6 + 43 * m_17 + m_40)).toInt32) hx hb dX12_of_317 rfl ?_
          refine lv_topi (fun v_41 ev_41 => ?_)
          have tv_41 := k_l2i (q (6 + 43 * m_17 + m_40))
          rw [← ev_41] at tv_41
          refine lv_goto (tgt := 322) hx hb dX12_of_318 (by decide) ?_
          exact W.iret (v := v_41) hx hb hr (fun t ht hW => ⟨⟨v_41, (), rfl, trivial, ⟨f_6, k_ret ht hI, kp_8, 0, z1, z10, z12, z13, z14, z15, z16, z17, z18, z23, z24, z25, z26, q, u, im, kt, k_9, (by first | omega | decide), (by first | omega | decide), (by first | omega | decide), k_10, hc1_ok, k_11, k_12, k_13, hU⟩⟩, hS.F ht⟩) hS.2.2 dX12_of_322
      by_cases h_42 : p2 = 5
      · refine k_topi (y := 5) h_42 ?_
        refine lv_tableIn (tgt := 297) hx hb dX12_of_49 (by decide) (by decide) rfl (by decide) ?_
        have h_42 := kc_eq rfl (by decide : Int32.toInt 5 = 5) h_42
        refine lv_iload_n hx hb dX12_of_297 rfl (lv_at hl 5 rfl) ?_
        refine lv_i2l (v := p2.toInt64) hx hb dX12_of_298 rfl ?_
        have t_43 := Int32.toInt_toInt64 p2
        refine lv_lconst (v := 0) hx hb dX12_of_299 (by decide) ?_
        refine lv_ldc2 hx hb hown (hts (.constantLong RX12 135 (8)) (List.mem_cons_of_mem _ (List.mem_append_left _ (List.mem_of_getElem? (i := 11) rfl)))) dX12_of_300 ?_
        refine va_calli (va_runS (As := [.long p2.toInt64, .long 0, .long 8]) (rest := []) ⟨hx, hb, hml, hown, hts⟩ (c_X12_in l dC dI g A hG f_6 p2.toInt64 0 8) (va_cwS 3 hts (gi_S (fun w_ h0_ => ⟨List.mem_cons_of_mem _ (List.mem_append_right _ (List.mem_append_right _ (List.mem_append_right _ (List.mem_append_right _ (List.mem_append_right _ (List.mem_append_left _ h0_)))))), (tb_c_X12_in w_ h0_).2⟩) (List.mem_cons_of_mem _ (List.mem_append_left _ (List.mem_of_getElem? (i := 12) rfl))) (List.mem_cons_of_mem _ (List.mem_append_left _ (List.mem_of_getElem? (i := 13) rfl))) (List.mem_cons_of_mem _ (List.mem_append_left _ (List.mem_of_getElem? (i := 4) rfl)))) rfl rfl rfl (by decide +kernel) ⟨Nat.le_of_ble_eq_true rfl, Nat.le_of_ble_eq_true rfl⟩) ⟨fun a U g mk q => ⟨q.1, q.2.calling rfl rfl⟩, fun U hU hW => ⟨rfl, kIn.of hI hK hE hS hU hW⟩⟩ rfl rfl hl.1 rfl (lv_room (Nat.le_of_ble_eq_true rfl)) dX12_of_303 ⟨Nat.le_of_ble_eq_true rfl, Nat.le_of_ble_eq_true rfl⟩) hS (fun q _ h => h) (fun q h => h) (fun r_45 u t H1 locs ht hvm w_44 hB hz1 hk1 hS => ?_)
        have hI : Iv dC dI g A f_6 t.heap := hB
        rw [ht] at hI
        generalize H1 = H at hI hS ⊢
        refine W.widen (k := 0) (n := 0) (Nat.le_of_ble_eq_true rfl) (Nat.le_of_ble_eq_true rfl) ?_
        have w_44 : (r_45.toInt = 0 ∧ (p2.toInt64.toInt < (0 : Int64).toInt ∨ (8 : Int64).toInt < p2.toInt64.toInt)) ∨ (r_45.toInt = 1 ∧ (0 : Int64).toInt ≤ p2.toInt64.toInt ∧ p2.toInt64.toInt ≤ (8 : Int64).toInt) := w_44
        have g_46 : Int64.toInt (0) = 0 := by decide
        have g_47 : Int64.toInt (8) = 8 := by decide
        refine lv_if_eq (tgt := 321) hx hb dX12_of_306 (by decide) (fun c_48 => ?_) (fun c_48 => ?_)
        · have c_48 := kc_eq rfl (by decide : Int32.toInt 0 = 0) c_48
          refine lv_iconst (v := (-1)) hx hb dX12_of_321 (by decide) ?_
          exact W.iret (v := (-1)) hx hb hr (fun t ht hW => ⟨⟨(-1), (), rfl, trivial, ⟨f_6, k_ret ht hI, kp_8, 0, z1, z10, z12, z13, z14, z15, z16, z17, z18, z23, z24, z25, z26, q, u, im, kt, k_9, (by first | omega | decide), (by first | omega | decide), (by first | omega | decide), k_10, hc1_ok, k_11, k_12, k_13, hU⟩⟩, hS.F ht⟩) hS.2.2 dX12_of_322
        · have c_48 := kn_eq rfl (by decide : Int32.toInt 0 = 0) c_48
          refine lv_aload_n hx hb dX12_of_309 rfl (lv_at hl 3 rfl) ?_
          refine k_get (ci := 12) (v := .ref (gr g h0 4)) (C := RX12) (T := TX12) (N := 27) hx hb hts (fun _ h0_ => List.mem_cons_of_mem _ (List.mem_append_right _ (List.mem_append_left _ h0_))) hown hK hI i_h0.1 k_9 rfl 4 (by decide) (hts (.fieldLink RX12 16 "DeadlineShareModel" "row" "[J") (List.mem_cons_of_mem _ (List.mem_append_left _ (List.mem_of_getElem? (i := 10) rfl)))) (fun _ h9 => h9) rfl dX12_of_310 ?_
          refine lv_iload_n hx hb dX12_of_313 rfl (lv_at hl 2 rfl) ?_
          obtain ⟨m_51, em_51, tm_51⟩ := k_nat (x := p2) (by omega)
          refine lv_iload_n hx hb dX12_of_314 rfl (lv_at hl 5 rfl) ?_
          refine k_topi (y := nI m_51) em_51 ?_
          refine lv_iadd hx hb dX12_of_315 ?_
          refine k_topi (y := nI (6 + 43 * m_17 + m_51)) ((nI_add (6 + 43 * m_17) m_51).trans (congrArg nI (by omega))) ?_
          refine k_lald hx hb hK hI i_1.1 1 k_10 rfl (vp_in_nI (by omega) (by omega)) dX12_of_316 ?_
          refine k_topl (y := q (6 + 43 * m_17 + m_51)) (congrArg q (nI_clamp (by omega))) ?_
          refine lv_l2i (v := (q (6 + 43 * m_17 + m_51)).toInt32) hx hb dX12_of_317 rfl ?_
          refine lv_topi (fun v_52 ev_52 => ?_)
          have tv_52 := k_l2i (q (6 + 43 * m_17 + m_51))
          rw [← ev_52] at tv_52
          refine lv_goto (tgt := 322) hx hb dX12_of_318 (by decide) ?_
          exact W.iret (v := v_52) hx hb hr (fun t ht hW => ⟨⟨v_52, (), rfl, trivial, ⟨f_6, k_ret ht hI, kp_8, 0, z1, z10, z12, z13, z14, z15, z16, z17, z18, z23, z24, z25, z26, q, u, im, kt, k_9, (by first | omega | decide), (by first | omega | decide), (by first | omega | decide), k_10, hc1_ok, k_11, k_12, k_13, hU⟩⟩, hS.F ht⟩) hS.2.2 dX12_of_322
      by_cases h_53 : p2 = 6
      · refine k_topi (y := 6) h_53 ?_
        refine lv_tableIn (tgt := 297) hx hb dX12_of_49 (by decide) (by decide) rfl (by decide) ?_
        have h_53 := kc_eq rfl (by decide : Int32.toInt 6 = 6) h_53
        refine lv_iload_n hx hb dX12_of_297 rfl (lv_at hl 5 rfl) ?_
        refine lv_i2l (v := p2.toInt64) hx hb dX12_of_298 rfl ?_
        have t_54 := Int32.toInt_toInt64 p2
        refine lv_lconst (v := 0) hx hb dX12_of_299 (by decide) ?_
        refine lv_ldc2 hx hb hown (hts (.constantLong RX12 135 (8)) (List.mem_cons_of_mem _ (List.mem_append_left _ (List.mem_of_getElem? (i := 11) rfl)))) dX12_of_300 ?_
        refine va_calli (va_runS (As := [.long p2.toInt64, .long 0, .long 8]) (rest := []) ⟨hx, hb, hml, hown, hts⟩ (c_X12_in l dC dI g A hG f_6 p2.toInt64 0 8) (va_cwS 3 hts (gi_S (fun w_ h0_ => ⟨List.mem_cons_of_mem _ (List.mem_append_right _ (List.mem_append_right _ (List.mem_append_right _ (List.mem_append_right _ (List.mem_append_right _ (List.mem_append_left _ h0_)))))), (tb_c_X12_in w_ h0_).2⟩) (List.mem_cons_of_mem _ (List.mem_append_left _ (List.mem_of_getElem? (i := 12) rfl))) (List.mem_cons_of_mem _ (List.mem_append_left _ (List.mem_of_getElem? (i := 13) rfl))) (List.mem_cons_of_mem _ (List.mem_append_left _ (List.mem_of_getElem? (i := 4) rfl)))) rfl rfl rfl (by decide +kernel) ⟨Nat.le_of_ble_eq_true rfl, Nat.le_of_ble_eq_true rfl⟩) ⟨fun a U g mk q => ⟨q.1, q.2.calling rfl rfl⟩, fun U hU hW => ⟨rfl, kIn.of hI hK hE hS hU hW⟩⟩ rfl rfl hl.1 rfl (lv_room (Nat.le_of_ble_eq_true rfl)) dX12_of_303 ⟨Nat.le_of_ble_eq_true rfl, Nat.le_of_ble_eq_true rfl⟩) hS (fun q _ h => h) (fun q h => h) (fun r_56 u t H1 locs ht hvm w_55 hB hz1 hk1 hS => ?_)
        have hI : Iv dC dI g A f_6 t.heap := hB
        rw [ht] at hI
        generalize H1 = H at hI hS ⊢
        refine W.widen (k := 0) (n := 0) (Nat.le_of_ble_eq_true rfl) (Nat.le_of_ble_eq_true rfl) ?_
        have w_55 : (r_56.toInt = 0 ∧ (p2.toInt64.toInt < (0 : Int64).toInt ∨ (8 : Int64).toInt < p2.toInt64.toInt)) ∨ (r_56.toInt = 1 ∧ (0 : Int64).toInt ≤ p2.toInt64.toInt ∧ p2.toInt64.toInt ≤ (8 : Int64).toInt) := w_55
        have g_57 : Int64.toInt (0) = 0 := by decide
        have g_58 : Int64.toInt (8) = 8 := by decide
        refine lv_if_eq (tgt := 321) hx hb dX12_of_306 (by decide) (fun c_59 => ?_) (fun c_59 => ?_)
        · have c_59 := kc_eq rfl (by decide : Int32.toInt 0 = 0) c_59
          refine lv_iconst (v := (-1)) hx hb dX12_of_321 (by decide) ?_
          exact W.iret (v := (-1)) hx hb hr (fun t ht hW => ⟨⟨(-1), (), rfl, trivial, ⟨f_6, k_ret ht hI, kp_8, 0, z1, z10, z12, z13, z14, z15, z16, z17, z18, z23, z24, z25, z26, q, u, im, kt, k_9, (by first | omega | decide), (by first | omega | decide), (by first | omega | decide), k_10, hc1_ok, k_11, k_12, k_13, hU⟩⟩, hS.F ht⟩) hS.2.2 dX12_of_322
        · have c_59 := kn_eq rfl (by decide : Int32.toInt 0 = 0) c_59
          refine lv_aload_n hx hb dX12_of_309 rfl (lv_at hl 3 rfl) ?_
          refine k_get (ci := 12) (v := .ref (gr g h0 4)) (C := RX12) (T := TX12) (N := 27) hx hb hts (fun _ h0_ => List.mem_cons_of_mem _ (List.mem_append_right _ (List.mem_append_left _ h0_))) hown hK hI i_h0.1 k_9 rfl 4 (by decide) (hts (.fieldLink RX12 16 "DeadlineShareModel" "row" "[J") (List.mem_cons_of_mem _ (List.mem_append_left _ (List.mem_of_getElem? (i := 10) rfl)))) (fun _ h9 => h9) rfl dX12_of_310 ?_
          refine lv_iload_n hx hb dX12_of_313 rfl (lv_at hl 2 rfl) ?_
          obtain ⟨m_62, em_62, tm_62⟩ := k_nat (x := p2) (by omega)
          refine lv_iload_n hx hb dX12_of_314 rfl (lv_at hl 5 rfl) ?_
          refine k_topi (y := nI m_62) em_62 ?_
          refine lv_iadd hx hb dX12_of_315 ?_
          refine k_topi (y := nI (6 + 43 * m_17 + m_62)) ((nI_add (6 + 43 * m_17) m_62).trans (congrArg nI (by omega))) ?_
          refine k_lald hx hb hK hI i_1.1 1 k_10 rfl (vp_in_nI (by omega) (by omega)) dX12_of_316 ?_
          refine k_topl (y := q (6 + 43 * m_17 + m_62)) (congrArg q (nI_clamp (by omega))) ?_
          refine lv_l2i (v := (q (6 + 43 * m_17 + m_62)).toInt32) hx hb dX12_of_317 rfl ?_
          refine lv_topi (fun v_63 ev_63 => ?_)
          have tv_63 := k_l2i (q (6 + 43 * m_17 + m_62))
          rw [← ev_63] at tv_63
          refine lv_goto (tgt := 322) hx hb dX12_of_318 (by decide) ?_
          exact W.iret (v := v_63) hx hb hr (fun t ht hW => ⟨⟨v_63, (), rfl, trivial, ⟨f_6, k_ret ht hI, kp_8, 0, z1, z10, z12, z13, z14, z15, z16, z17, z18, z23, z24, z25, z26, q, u, im, kt, k_9, (by first | omega | decide), (by first | omega | decide), (by first | omega | decide), k_10, hc1_ok, k_11, k_12, k_13, hU⟩⟩, hS.F ht⟩) hS.2.2 dX12_of_322
      by_cases h_64 : p2 = 7
      · refine k_topi (y := 7) h_64 ?_
        refine lv_tableIn (tgt := 131) hx hb dX12_of_49 (by decide) (by decide) rfl (by decide) ?_
        have h_64 := kc_eq rfl (by decide : Int32.toInt 7 = 7) h_64
        refine lv_iload hx hb dX12_of_131 (lv_at hl 1 rfl) ?_
        refine lv_if_eq (tgt := 149) hx hb dX12_of_133 (by decide) (fun c_65 => ?_) (fun c_65 => ?_)
        · have c_65 := kc_eq rfl (by decide : Int32.toInt 0 = 0) c_65
          refine lv_iconst (v := (-1)) hx hb dX12_of_149 (by decide) ?_
          exact W.iret (v := (-1)) hx hb hr (fun t ht hW => ⟨⟨(-1), (), rfl, trivial, ⟨f_6, k_ret ht hI, kp_8, 0, z1, z10, z12, z13, z14, z15, z16, z17, z18, z23, z24, z25, z26, q, u, im, kt, k_9, (by first | omega | decide), (by first | omega | decide), (by first | omega | decide), k_10, hc1_ok, k_11, k_12, k_13, hU⟩⟩, hS.F ht⟩) hS.2.2 dX12_of_150
        · have c_65 := kn_eq rfl (by decide : Int32.toInt 0 = 0) c_65
          refine lv_aload_n hx hb dX12_of_136 rfl (lv_at hl 3 rfl) ?_
          refine k_get (ci := 12) (v := .ref (gr g h0 4)) (C := RX12) (T := TX12) (N := 27) hx hb hts (fun _ h0_ => List.mem_cons_of_mem _ (List.mem_append_right _ (List.mem_append_left _ h0_))) hown hK hI i_h0.1 k_9 rfl 4 (by decide) (hts (.fieldLink RX12 16 "DeadlineShareModel" "row" "[J") (List.mem_cons_of_mem _ (List.mem_append_left _ (List.mem_of_getElem? (i := 10) rfl)))) (fun _ h9 => h9) rfl dX12_of_137 ?_
          refine lv_iload_n hx hb dX12_of_140 rfl (lv_at hl 2 rfl) ?_
          refine lv_bipush (v := 7) hx hb dX12_of_141 (by decide) ?_
          refine lv_iadd hx hb dX12_of_143 ?_
          refine k_topi (y := nI (6 + 43 * m_17 + 7)) ((nI_add (6 + 43 * m_17) 7).trans (congrArg nI (by omega))) ?_
          refine k_lald hx hb hK hI i_1.1 1 k_10 rfl (vp_in_nI (by omega) (by omega)) dX12_of_144 ?_
          refine k_topl (y := q (6 + 43 * m_17 + 7)) (congrArg q (nI_clamp (by omega))) ?_
          refine lv_l2i (v := (q (6 + 43 * m_17 + 7)).toInt32) hx hb dX12_of_145 rfl ?_
          refine lv_topi (fun v_68 ev_68 => ?_)
          have tv_68 := k_l2i (q (6 + 43 * m_17 + 7))
          rw [← ev_68] at tv_68
          refine lv_goto (tgt := 150) hx hb dX12_of_146 (by decide) ?_
          exact W.iret (v := v_68) hx hb hr (fun t ht hW => ⟨⟨v_68, (), rfl, trivial, ⟨f_6, k_ret ht hI, kp_8, 0, z1, z10, z12, z13, z14, z15, z16, z17, z18, z23, z24, z25, z26, q, u, im, kt, k_9, (by first | omega | decide), (by first | omega | decide), (by first | omega | decide), k_10, hc1_ok, k_11, k_12, k_13, hU⟩⟩, hS.F ht⟩) hS.2.2 dX12_of_150
      by_cases h_69 : p2 = 8
      · refine k_topi (y := 8) h_69 ?_
        refine lv_tableIn (tgt := 297) hx hb dX12_of_49 (by decide) (by decide) rfl (by decide) ?_
        have h_69 := kc_eq rfl (by decide : Int32.toInt 8 = 8) h_69
        refine lv_iload_n hx hb dX12_of_297 rfl (lv_at hl 5 rfl) ?_
        refine lv_i2l (v := p2.toInt64) hx hb dX12_of_298 rfl ?_
        have t_70 := Int32.toInt_toInt64 p2
        refine lv_lconst (v := 0) hx hb dX12_of_299 (by decide) ?_
        refine lv_ldc2 hx hb hown (hts (.constantLong RX12 135 (8)) (List.mem_cons_of_mem _ (List.mem_append_left _ (List.mem_of_getElem? (i := 11) rfl)))) dX12_of_300 ?_
        refine va_calli (va_runS (As := [.long p2.toInt64, .long 0, .long 8]) (rest := []) ⟨hx, hb, hml, hown, hts⟩ (c_X12_in l dC dI g A hG f_6 p2.toInt64 0 8) (va_cwS 3 hts (gi_S (fun w_ h0_ => ⟨List.mem_cons_of_mem _ (List.mem_append_right _ (List.mem_append_right _ (List.mem_append_right _ (List.mem_append_right _ (List.mem_append_right _ (List.mem_append_left _ h0_)))))), (tb_c_X12_in w_ h0_).2⟩) (List.mem_cons_of_mem _ (List.mem_append_left _ (List.mem_of_getElem? (i := 12) rfl))) (List.mem_cons_of_mem _ (List.mem_append_left _ (List.mem_of_getElem? (i := 13) rfl))) (List.mem_cons_of_mem _ (List.mem_append_left _ (List.mem_of_getElem? (i := 4) rfl)))) rfl rfl rfl (by decide +kernel) ⟨Nat.le_of_ble_eq_true rfl, Nat.le_of_ble_eq_true rfl⟩) ⟨fun a U g mk q => ⟨q.1, q.2.calling rfl rfl⟩, fun U hU hW => ⟨rfl, kIn.of hI hK hE hS hU hW⟩⟩ rfl rfl hl.1 rfl (lv_room (Nat.le_of_ble_eq_true rfl)) dX12_of_303 ⟨Nat.le_of_ble_eq_true rfl, Nat.le_of_ble_eq_true rfl⟩) hS (fun q _ h => h) (fun q h => h) (fun r_72 u t H1 locs ht hvm w_71 hB hz1 hk1 hS => ?_)
        have hI : Iv dC dI g A f_6 t.heap := hB
        rw [ht] at hI
        generalize H1 = H at hI hS ⊢
        refine W.widen (k := 0) (n := 0) (Nat.le_of_ble_eq_true rfl) (Nat.le_of_ble_eq_true rfl) ?_
        have w_71 : (r_72.toInt = 0 ∧ (p2.toInt64.toInt < (0 : Int64).toInt ∨ (8 : Int64).toInt < p2.toInt64.toInt)) ∨ (r_72.toInt = 1 ∧ (0 : Int64).toInt ≤ p2.toInt64.toInt ∧ p2.toInt64.toInt ≤ (8 : Int64).toInt) := w_71
        have g_73 : Int64.toInt (0) = 0 := by decide
        have g_74 : Int64.toInt (8) = 8 := by decide
        refine lv_if_eq (tgt := 321) hx hb dX12_of_306 (by decide) (fun c_75 => ?_) (fun c_75 => ?_)
        · have c_75 := kc_eq rfl (by decide : Int32.toInt 0 = 0) c_75
          refine lv_iconst (v := (-1)) hx hb dX12_of_321 (by decide) ?_
          exact W.iret (v := (-1)) hx hb hr (fun t ht hW => ⟨⟨(-1), (), rfl, trivial, ⟨f_6, k_ret ht hI, kp_8, 0, z1, z10, z12, z13, z14, z15, z16, z17, z18, z23, z24, z25, z26, q, u, im, kt, k_9, (by first | omega | decide), (by first | omega | decide), (by first | omega | decide), k_10, hc1_ok, k_11, k_12, k_13, hU⟩⟩, hS.F ht⟩) hS.2.2 dX12_of_322
        · have c_75 := kn_eq rfl (by decide : Int32.toInt 0 = 0) c_75
          refine lv_aload_n hx hb dX12_of_309 rfl (lv_at hl 3 rfl) ?_
          refine k_get (ci := 12) (v := .ref (gr g h0 4)) (C := RX12) (T := TX12) (N := 27) hx hb hts (fun _ h0_ => List.mem_cons_of_mem _ (List.mem_append_right _ (List.mem_append_left _ h0_))) hown hK hI i_h0.1 k_9 rfl 4 (by decide) (hts (.fieldLink RX12 16 "DeadlineShareModel" "row" "[J") (List.mem_cons_of_mem _ (List.mem_append_left _ (List.mem_of_getElem? (i := 10) rfl)))) (fun _ h9 => h9) rfl dX12_of_310 ?_
          refine lv_iload_n hx hb dX12_of_313 rfl (lv_at hl 2 rfl) ?_
          obtain ⟨m_78, em_78, tm_78⟩ := k_nat (x := p2) (by omega)
          refine lv_iload_n hx hb dX12_of_314 rfl (lv_at hl 5 rfl) ?_
          refine k_topi (y := nI m_78) em_78 ?_
          refine lv_iadd hx hb dX12_of_315 ?_
          refine k_topi (y := nI (6 + 43 * m_17 + m_78)) ((nI_add (6 + 43 * m_17) m_78).trans (congrArg nI (by omega))) ?_
          refine k_lald hx hb hK hI i_1.1 1 k_10 rfl (vp_in_nI (by omega) (by omega)) dX12_of_316 ?_
          refine k_topl (y := q (6 + 43 * m_17 + m_78)) (congrArg q (nI_clamp (by omega))) ?_
          refine lv_l2i (v := (q (6 + 43 * m_17 + m_78)).toInt32) hx hb dX12_of_317 rfl ?_
          refine lv_topi (fun v_79 ev_79 => ?_)
          have tv_79 := k_l2i (q (6 + 43 * m_17 + m_78))
          rw [← ev_79] at tv_79
          refine lv_goto (tgt := 322) hx hb dX12_of_318 (by decide) ?_
          exact W.iret (v := v_79) hx hb hr (fun t ht hW => ⟨⟨v_79, (), rfl, trivial, ⟨f_6, k_ret ht hI, kp_8, 0, z1, z10, z12, z13, z14, z15, z16, z17, z18, z23, z24, z25, z26, q, u, im, kt, k_9, (by first | omega | decide), (by first | omega | decide), (by first | omega | decide), k_10, hc1_ok, k_11, k_12, k_13, hU⟩⟩, hS.F ht⟩) hS.2.2 dX12_of_322
      by_cases h_80 : p2 = 9
      · refine k_topi (y := 9) h_80 ?_
        refine lv_tableIn (tgt := 151) hx hb dX12_of_49 (by decide) (by decide) rfl (by decide) ?_
        have h_80 := kc_eq rfl (by decide : Int32.toInt 9 = 9) h_80
        refine lv_aload_n hx hb dX12_of_151 rfl (lv_at hl 3 rfl) ?_
        refine k_get (ci := 12) (v := .ref (gr g h0 4)) (C := RX12) (T := TX12) (N := 27) hx hb hts (fun _ h0_ => List.mem_cons_of_mem _ (List.mem_append_right _ (List.mem_append_left _ h0_))) hown hK hI i_h0.1 k_9 rfl 4 (by decide) (hts (.fieldLink RX12 16 "DeadlineShareModel" "row" "[J") (List.mem_cons_of_mem _ (List.mem_append_left _ (List.mem_of_getElem? (i := 10) rfl)))) (fun _ h9 => h9) rfl dX12_of_152 ?_
        refine lv_iload_n hx hb dX12_of_155 rfl (lv_at hl 2 rfl) ?_
        refine lv_iconst (v := 2) hx hb dX12_of_156 (by decide) ?_
        refine lv_iadd hx hb dX12_of_157 ?_
        refine k_topi (y := nI (6 + 43 * m_17 + 2)) ((nI_add (6 + 43 * m_17) 2).trans (congrArg nI (by omega))) ?_
        refine k_lald hx hb hK hI i_1.1 1 k_10 rfl (vp_in_nI (by omega) (by omega)) dX12_of_158 ?_
        refine k_topl (y := q (6 + 43 * m_17 + 2)) (congrArg q (nI_clamp (by omega))) ?_
        refine lv_ldc2 hx hb hown (hts (.constantLong RX12 122 (2)) (List.mem_cons_of_mem _ (List.mem_append_left _ (List.mem_of_getElem? (i := 14) rfl)))) dX12_of_159 ?_
        refine W.lcmp hx hb dX12_of_162 ?_
        refine lv_if_ne (tgt := 179) hx hb dX12_of_163 (by decide) (fun c_83 => ?_) (fun c_83 => ?_)
        · have c_83 := ln_eq rfl (by decide : Int64.toInt 2 = 2) (fun h9 => c_83 ((lg_cmp_eq _ _).mpr h9))
          refine lv_iconst (v := (-1)) hx hb dX12_of_179 (by decide) ?_
          exact W.iret (v := (-1)) hx hb hr (fun t ht hW => ⟨⟨(-1), (), rfl, trivial, ⟨f_6, k_ret ht hI, kp_8, 0, z1, z10, z12, z13, z14, z15, z16, z17, z18, z23, z24, z25, z26, q, u, im, kt, k_9, (by first | omega | decide), (by first | omega | decide), (by first | omega | decide), k_10, hc1_ok, k_11, k_12, k_13, hU⟩⟩, hS.F ht⟩) hS.2.2 dX12_of_180
        · have c_83 := lc_eq rfl (by decide : Int64.toInt 2 = 2) ((lg_cmp_eq _ _).mp c_83)
          refine lv_aload_n hx hb dX12_of_166 rfl (lv_at hl 3 rfl) ?_
          refine k_get (ci := 12) (v := .ref (gr g h0 4)) (C := RX12) (T := TX12) (N := 27) hx hb hts (fun _ h0_ => List.mem_cons_of_mem _ (List.mem_append_right _ (List.mem_append_left _ h0_))) hown hK hI i_h0.1 k_9 rfl 4 (by decide) (hts (.fieldLink RX12 16 "DeadlineShareModel" "row" "[J") (List.mem_cons_of_mem _ (List.mem_append_left _ (List.mem_of_getElem? (i := 10) rfl)))) (fun _ h9 => h9) rfl dX12_of_167 ?_
          refine lv_iload_n hx hb dX12_of_170 rfl (lv_at hl 2 rfl) ?_
          refine lv_bipush (v := 9) hx hb dX12_of_171 (by decide) ?_
          refine lv_iadd hx hb dX12_of_173 ?_
          refine k_topi (y := nI (6 + 43 * m_17 + 9)) ((nI_add (6 + 43 * m_17) 9).trans (congrArg nI (by omega))) ?_
          refine k_lald hx hb hK hI i_1.1 1 k_10 rfl (vp_in_nI (by omega) (by omega)) dX12_of_174 ?_
          refine k_topl (y := q (6 + 43 * m_17 + 9)) (congrArg q (nI_clamp (by omega))) ?_
          refine lv_l2i (v := (q (6 + 43 * m_17 + 9)).toInt32) hx hb dX12_of_175 rfl ?_
          refine lv_topi (fun v_86 ev_86 => ?_)
          have tv_86 := k_l2i (q (6 + 43 * m_17 + 9))
          rw [← ev_86] at tv_86
          refine lv_goto (tgt := 180) hx hb dX12_of_176 (by decide) ?_
          exact W.iret (v := v_86) hx hb hr (fun t ht hW => ⟨⟨v_86, (), rfl, trivial, ⟨f_6, k_ret ht hI, kp_8, 0, z1, z10, z12, z13, z14, z15, z16, z17, z18, z23, z24, z25, z26, q, u, im, kt, k_9, (by first | omega | decide), (by first | omega | decide), (by first | omega | decide), k_10, hc1_ok, k_11, k_12, k_13, hU⟩⟩, hS.F ht⟩) hS.2.2 dX12_of_180
      by_cases h_87 : p2 = 10
      · refine k_topi (y := 10) h_87 ?_
        refine lv_tableIn (tgt := 181) hx hb dX12_of_49 (by decide) (by decide) rfl (by decide) ?_
        have h_87 := kc_eq rfl (by decide : Int32.toInt 10 = 10) h_87
        refine lv_iload hx hb dX12_of_181 (lv_at hl 0 rfl) ?_
        refine lv_if_eq (tgt := 199) hx hb dX12_of_183 (by decide) (fun c_88 => ?_) (fun c_88 => ?_)
        · have c_88 := kc_eq rfl (by decide : Int32.toInt 0 = 0) c_88
          refine lv_iconst (v := (-1)) hx hb dX12_of_199 (by decide) ?_
          exact W.iret (v := (-1)) hx hb hr (fun t ht hW => ⟨⟨(-1), (), rfl, trivial, ⟨f_6, k_ret ht hI, kp_8, 0, z1, z10, z12, z13, z14, z15, z16, z17, z18, z23, z24, z25, z26, q, u, im, kt, k_9, (by first | omega | decide), (by first | omega | decide), (by first | omega | decide), k_10, hc1_ok, k_11, k_12, k_13, hU⟩⟩, hS.F ht⟩) hS.2.2 dX12_of_200
        · have c_88 := kn_eq rfl (by decide : Int32.toInt 0 = 0) c_88
          refine lv_aload_n hx hb dX12_of_186 rfl (lv_at hl 3 rfl) ?_
          refine k_get (ci := 12) (v := .ref (gr g h0 4)) (C := RX12) (T := TX12) (N := 27) hx hb hts (fun _ h0_ => List.mem_cons_of_mem _ (List.mem_append_right _ (List.mem_append_left _ h0_))) hown hK hI i_h0.1 k_9 rfl 4 (by decide) (hts (.fieldLink RX12 16 "DeadlineShareModel" "row" "[J") (List.mem_cons_of_mem _ (List.mem_append_left _ (List.mem_of_getElem? (i := 10) rfl)))) (fun _ h9 => h9) rfl dX12_of_187 ?_
          refine lv_iload_n hx hb dX12_of_190 rfl (lv_at hl 2 rfl) ?_
          refine lv_bipush (v := 14) hx hb dX12_of_191 (by decide) ?_
          refine lv_iadd hx hb dX12_of_193 ?_
          refine k_topi (y := nI (6 + 43 * m_17 + 14)) ((nI_add (6 + 43 * m_17) 14).trans (congrArg nI (by omega))) ?_
          refine k_lald hx hb hK hI i_1.1 1 k_10 rfl (vp_in_nI (by omega) (by omega)) dX12_of_194 ?_
          refine k_topl (y := q (6 + 43 * m_17 + 14)) (congrArg q (nI_clamp (by omega))) ?_
          have d_91 := rk_14 hc1_ok (t := m_17) (by omega)
          refine lv_l2i (v := (q (6 + 43 * m_17 + 14)).toInt32) hx hb dX12_of_195 rfl ?_
          refine lv_topi (fun v_92 ev_92 => ?_)
          have tv_92 := k_l2i (q (6 + 43 * m_17 + 14))
          rw [← ev_92] at tv_92
          refine lv_goto (tgt := 200) hx hb dX12_of_196 (by decide) ?_
          exact W.iret (v := v_92) hx hb hr (fun t ht hW => ⟨⟨v_92, (), rfl, trivial, ⟨f_6, k_ret ht hI, kp_8, 0, z1, z10, z12, z13, z14, z15, z16, z17, z18, z23, z24, z25, z26, q, u, im, kt, k_9, (by first | omega | decide), (by first | omega | decide), (by first | omega | decide), k_10, hc1_ok, k_11, k_12, k_13, hU⟩⟩, hS.F ht⟩) hS.2.2 dX12_of_200
      by_cases h_93 : p2 = 11
      · refine k_topi (y := 11) h_93 ?_
        refine lv_tableIn (tgt := 201) hx hb dX12_of_49 (by decide) (by decide) rfl (by decide) ?_
        have h_93 := kc_eq rfl (by decide : Int32.toInt 11 = 11) h_93
        refine lv_iload hx hb dX12_of_201 (lv_at hl 0 rfl) ?_
        refine lv_if_eq (tgt := 244) hx hb dX12_of_203 (by decide) (fun c_94 => ?_) (fun c_94 => ?_)
        · have c_94 := kc_eq rfl (by decide : Int32.toInt 0 = 0) c_94
          refine lv_iconst (v := (-1)) hx hb dX12_of_244 (by decide) ?_
          exact W.iret (v := (-1)) hx hb hr (fun t ht hW => ⟨⟨(-1), (), rfl, trivial, ⟨f_6, k_ret ht hI, kp_8, 0, z1, z10, z12, z13, z14, z15, z16, z17, z18, z23, z24, z25, z26, q, u, im, kt, k_9, (by first | omega | decide), (by first | omega | decide), (by first | omega | decide), k_10, hc1_ok, k_11, k_12, k_13, hU⟩⟩, hS.F ht⟩) hS.2.2 dX12_of_245
        · have c_94 := kn_eq rfl (by decide : Int32.toInt 0 = 0) c_94
          refine lv_aload_n hx hb dX12_of_206 rfl (lv_at hl 3 rfl) ?_
          refine k_get (ci := 12) (v := .ref (gr g h0 4)) (C := RX12) (T := TX12) (N := 27) hx hb hts (fun _ h0_ => List.mem_cons_of_mem _ (List.mem_append_right _ (List.mem_append_left _ h0_))) hown hK hI i_h0.1 k_9 rfl 4 (by decide) (hts (.fieldLink RX12 16 "DeadlineShareModel" "row" "[J") (List.mem_cons_of_mem _ (List.mem_append_left _ (List.mem_of_getElem? (i := 10) rfl)))) (fun _ h9 => h9) rfl dX12_of_207 ?_
          refine lv_iload_n hx hb dX12_of_210 rfl (lv_at hl 2 rfl) ?_
          refine lv_bipush (v := 16) hx hb dX12_of_211 (by decide) ?_
          refine lv_iadd hx hb dX12_of_213 ?_
          refine k_topi (y := nI (6 + 43 * m_17 + 16)) ((nI_add (6 + 43 * m_17) 16).trans (congrArg nI (by omega))) ?_
          refine lv_aload_n hx hb dX12_of_214 rfl (lv_at hl 3 rfl) ?_
          refine k_get (ci := 12) (v := .ref (gr g h0 4)) (C := RX12) (T := TX12) (N := 27) hx hb hts (fun _ h0_ => List.mem_cons_of_mem _ (List.mem_append_right _ (List.mem_append_left _ h0_))) hown hK hI i_h0.1 k_9 rfl 4 (by decide) (hts (.fieldLink RX12 16 "DeadlineShareModel" "row" "[J") (List.mem_cons_of_mem _ (List.mem_append_left _ (List.mem_of_getElem? (i := 10) rfl)))) (fun _ h9 => h9) rfl dX12_of_215 ?_
          refine lv_iload_n hx hb dX12_of_218 rfl (lv_at hl 2 rfl) ?_
          refine lv_bipush (v := 14) hx hb dX12_of_219 (by decide) ?_
          refine lv_iadd hx hb dX12_of_221 ?_
          refine k_topi (y := nI (6 + 43 * m_17 + 14)) ((nI_add (6 + 43 * m_17) 14).trans (congrArg nI (by omega))) ?_
          refine k_lald hx hb hK hI i_1.1 1 k_10 rfl (vp_in_nI (by omega) (by omega)) dX12_of_222 ?_
          refine k_topl (y := q (6 + 43 * m_17 + 14)) (congrArg q (nI_clamp (by omega))) ?_
          have d_99 := rk_14 hc1_ok (t := m_17) (by omega)
          refine lv_l2i (v := (q (6 + 43 * m_17 + 14)).toInt32) hx hb dX12_of_223 rfl ?_
          refine lv_topi (fun v_100 ev_100 => ?_)
          have tv_100 := k_l2i (q (6 + 43 * m_17 + 14))
          rw [← ev_100] at tv_100
          obtain ⟨m_101, em_101, tm_101⟩ := k_nat (x := v_100) (by omega)
          refine k_topi (y := nI m_101) em_101 ?_
          refine lv_iadd hx hb dX12_of_224 ?_
          refine k_topi (y := nI (6 + 43 * m_17 + 16 + m_101)) ((nI_add (6 + 43 * m_17 + 16) m_101).trans (congrArg nI (by omega))) ?_
          refine k_lald hx hb hK hI i_1.1 1 k_10 rfl (vp_in_nI (by omega) (by omega)) dX12_of_225 ?_
          refine k_topl (y := q (6 + 43 * m_17 + 16 + m_101)) (congrArg q (nI_clamp (by omega))) ?_
          have d_102 := rk_k hc1_ok (t := m_17) (k := m_101) (by omega) (by omega)
          refine lv_lconst (v := 0) hx hb dX12_of_226 (by decide) ?_
          refine W.lcmp hx hb dX12_of_227 ?_
          refine lv_if_ne (tgt := 244) hx hb dX12_of_228 (by decide) (fun c_103 => ?_) (fun c_103 => ?_)
          · have c_103 := ln_eq rfl (by decide : Int64.toInt 0 = 0) (fun h9 => c_103 ((lg_cmp_eq _ _).mpr h9))
            refine lv_iconst (v := (-1)) hx hb dX12_of_244 (by decide) ?_
            exact W.iret (v := (-1)) hx hb hr (fun t ht hW => ⟨⟨(-1), (), rfl, trivial, ⟨f_6, k_ret ht hI, kp_8, 0, z1, z10, z12, z13, z14, z15, z16, z17, z18, z23, z24, z25, z26, q, u, im, kt, k_9, (by first | omega | decide), (by first | omega | decide), (by first | omega | decide), k_10, hc1_ok, k_11, k_12, k_13, hU⟩⟩, hS.F ht⟩) hS.2.2 dX12_of_245
          · have c_103 := lc_eq rfl (by decide : Int64.toInt 0 = 0) ((lg_cmp_eq _ _).mp c_103)
            refine lv_aload_n hx hb dX12_of_231 rfl (lv_at hl 3 rfl) ?_
            refine k_get (ci := 12) (v := .ref (gr g h0 4)) (C := RX12) (T := TX12) (N := 27) hx hb hts (fun _ h0_ => List.mem_cons_of_mem _ (List.mem_append_right _ (List.mem_append_left _ h0_))) hown hK hI i_h0.1 k_9 rfl 4 (by decide) (hts (.fieldLink RX12 16 "DeadlineShareModel" "row" "[J") (List.mem_cons_of_mem _ (List.mem_append_left _ (List.mem_of_getElem? (i := 10) rfl)))) (fun _ h9 => h9) rfl dX12_of_232 ?_
            refine lv_iload_n hx hb dX12_of_235 rfl (lv_at hl 2 rfl) ?_
            refine lv_bipush (v := 15) hx hb dX12_of_236 (by decide) ?_
            refine lv_iadd hx hb dX12_of_238 ?_
            refine k_topi (y := nI (6 + 43 * m_17 + 15)) ((nI_add (6 + 43 * m_17) 15).trans (congrArg nI (by omega))) ?_
            refine k_lald hx hb hK hI i_1.1 1 k_10 rfl (vp_in_nI (by omega) (by omega)) dX12_of_239 ?_
            refine k_topl (y := q (6 + 43 * m_17 + 15)) (congrArg q (nI_clamp (by omega))) ?_
            refine lv_l2i (v := (q (6 + 43 * m_17 + 15)).toInt32) hx hb dX12_of_240 rfl ?_
            refine lv_topi (fun v_106 ev_106 => ?_)
            have tv_106 := k_l2i (q (6 + 43 * m_17 + 15))
            rw [← ev_106] at tv_106
            refine lv_goto (tgt := 245) hx hb dX12_of_241 (by decide) ?_
            exact W.iret (v := v_106) hx hb hr (fun t ht hW => ⟨⟨v_106, (), rfl, trivial, ⟨f_6, k_ret ht hI, kp_8, 0, z1, z10, z12, z13, z14, z15, z16, z17, z18, z23, z24, z25, z26, q, u, im, kt, k_9, (by first | omega | decide), (by first | omega | decide), (by first | omega | decide), k_10, hc1_ok, k_11, k_12, k_13, hU⟩⟩, hS.F ht⟩) hS.2.2 dX12_of_245
      by_cases h_107 : p2 = 12
      · refine k_topi (y := 12) h_107 ?_
        refine lv_tableIn (tgt := 246) hx hb dX12_of_49 (by decide) (by decide) rfl (by decide) ?_
        have h_107 := kc_eq rfl (by decide : Int32.toInt 12 = 12) h_107
        refine lv_aload_n hx hb dX12_of_246 rfl (lv_at hl 3 rfl) ?_
        refine k_get (ci := 12) (v := .ref (gr g h0 4)) (C := RX12) (T := TX12) (N := 27) hx hb hts (fun _ h0_ => List.mem_cons_of_mem _ (List.mem_append_right _ (List.mem_append_left _ h0_))) hown hK hI i_h0.1 k_9 rfl 4 (by decide) (hts (.fieldLink RX12 16 "DeadlineShareModel" "row" "[J") (List.mem_cons_of_mem _ (List.mem_append_left _ (List.mem_of_getElem? (i := 10) rfl)))) (fun _ h9 => h9) rfl dX12_of_247 ?_
        refine lv_iload_n hx hb dX12_of_250 rfl (lv_at hl 2 rfl) ?_
        refine lv_bipush (v := 41) hx hb dX12_of_251 (by decide) ?_
        refine lv_iadd hx hb dX12_of_253 ?_
        refine k_topi (y := nI (6 + 43 * m_17 + 41)) ((nI_add (6 + 43 * m_17) 41).trans (congrArg nI (by omega))) ?_
        refine k_lald hx hb hK hI i_1.1 1 k_10 rfl (vp_in_nI (by omega) (by omega)) dX12_of_254 ?_
        refine k_topl (y := q (6 + 43 * m_17 + 41)) (congrArg q (nI_clamp (by omega))) ?_
        have d_110 := rk_41 hc1_ok (t := m_17) (by omega)
        refine lv_lconst (v := 0) hx hb dX12_of_255 (by decide) ?_
        refine W.lcmp hx hb dX12_of_256 ?_
        refine lv_if_le (tgt := 273) hx hb dX12_of_257 (by decide) (fun c_111 => ?_) (fun c_111 => ?_)
        · have c_111 := lc_le rfl (by decide : Int64.toInt 0 = 0) ((lg_cmp_le _ _).mp c_111)
          refine lv_iconst (v := (-1)) hx hb dX12_of_273 (by decide) ?_
          exact W.iret (v := (-1)) hx hb hr (fun t ht hW => ⟨⟨(-1), (), rfl, trivial, ⟨f_6, k_ret ht hI, kp_8, 0, z1, z10, z12, z13, z14, z15, z16, z17, z18, z23, z24, z25, z26, q, u, im, kt, k_9, (by first | omega | decide), (by first | omega | decide), (by first | omega | decide), k_10, hc1_ok, k_11, k_12, k_13, hU⟩⟩, hS.F ht⟩) hS.2.2 dX12_of_274
        · have c_111 := ln_le rfl (by decide : Int64.toInt 0 = 0) (fun h9 => c_111 ((lg_cmp_le _ _).mpr h9))
          refine lv_aload_n hx hb dX12_of_260 rfl (lv_at hl 3 rfl) ?_
          refine k_get (ci := 12) (v := .ref (gr g h0 4)) (C := RX12) (T := TX12) (N := 27) hx hb hts (fun _ h0_ => List.mem_cons_of_mem _ (List.mem_append_right _ (List.mem_append_left _ h0_))) hown hK hI i_h0.1 k_9 rfl 4 (by decide) (hts (.fieldLink RX12 16 "DeadlineShareModel" "row" "[J") (List.mem_cons_of_mem _ (List.mem_append_left _ (List.mem_of_getElem? (i := 10) rfl)))) (fun _ h9 => h9) rfl dX12_of_261 ?_
          refine lv_iload_n hx hb dX12_of_264 rfl (lv_at hl 2 rfl) ?_
          refine lv_bipush (v := 40) hx hb dX12_of_265 (by decide) ?_
          refine lv_iadd hx hb dX12_of_267 ?_
          refine k_topi (y := nI (6 + 43 * m_17 + 40)) ((nI_add (6 + 43 * m_17) 40).trans (congrArg nI (by omega))) ?_
          refine k_lald hx hb hK hI i_1.1 1 k_10 rfl (vp_in_nI (by omega) (by omega)) dX12_of_268 ?_
          refine k_topl (y := q (6 + 43 * m_17 + 40)) (congrArg q (nI_clamp (by omega))) ?_
          refine lv_l2i (v := (q (6 + 43 * m_17 + 40)).toInt32) hx hb dX12_of_269 rfl ?_
          refine lv_topi (fun v_114 ev_114 => ?_)
          have tv_114 := k_l2i (q (6 + 43 * m_17 + 40))
          rw [← ev_114] at tv_114
          refine lv_goto (tgt := 274) hx hb dX12_of_270 (by decide) ?_
          exact W.iret (v := v_114) hx hb hr (fun t ht hW => ⟨⟨v_114, (), rfl, trivial, ⟨f_6, k_ret ht hI, kp_8, 0, z1, z10, z12, z13, z14, z15, z16, z17, z18, z23, z24, z25, z26, q, u, im, kt, k_9, (by first | omega | decide), (by first | omega | decide), (by first | omega | decide), k_10, hc1_ok, k_11, k_12, k_13, hU⟩⟩, hS.F ht⟩) hS.2.2 dX12_of_274
      by_cases h_115 : p2 = 13
      · refine k_topi (y := 13) h_115 ?_
        refine lv_tableIn (tgt := 275) hx hb dX12_of_49 (by decide) (by decide) rfl (by decide) ?_
        have h_115 := kc_eq rfl (by decide : Int32.toInt 13 = 13) h_115
        refine lv_aload_n hx hb dX12_of_275 rfl (lv_at hl 3 rfl) ?_
        refine k_get (ci := 12) (v := .ref (gr g h0 4)) (C := RX12) (T := TX12) (N := 27) hx hb hts (fun _ h0_ => List.mem_cons_of_mem _ (List.mem_append_right _ (List.mem_append_left _ h0_))) hown hK hI i_h0.1 k_9 rfl 4 (by decide) (hts (.fieldLink RX12 16 "DeadlineShareModel" "row" "[J") (List.mem_cons_of_mem _ (List.mem_append_left _ (List.mem_of_getElem? (i := 10) rfl)))) (fun _ h9 => h9) rfl dX12_of_276 ?_
        refine lv_iload_n hx hb dX12_of_279 rfl (lv_at hl 2 rfl) ?_
        refine lv_bipush (v := 41) hx hb dX12_of_280 (by decide) ?_
        refine lv_iadd hx hb dX12_of_282 ?_
        refine k_topi (y := nI (6 + 43 * m_17 + 41)) ((nI_add (6 + 43 * m_17) 41).trans (congrArg nI (by omega))) ?_
        refine k_lald hx hb hK hI i_1.1 1 k_10 rfl (vp_in_nI (by omega) (by omega)) dX12_of_283 ?_
        refine k_topl (y := q (6 + 43 * m_17 + 41)) (congrArg q (nI_clamp (by omega))) ?_
        have d_118 := rk_41 hc1_ok (t := m_17) (by omega)
        refine lv_l2i (v := (q (6 + 43 * m_17 + 41)).toInt32) hx hb dX12_of_284 rfl ?_
        refine lv_topi (fun v_119 ev_119 => ?_)
        have tv_119 := k_l2i (q (6 + 43 * m_17 + 41))
        rw [← ev_119] at tv_119
        exact W.iret (v := v_119) hx hb hr (fun t ht hW => ⟨⟨v_119, (), rfl, trivial, ⟨f_6, k_ret ht hI, kp_8, 0, z1, z10, z12, z13, z14, z15, z16, z17, z18, z23, z24, z25, z26, q, u, im, kt, k_9, (by first | omega | decide), (by first | omega | decide), (by first | omega | decide), k_10, hc1_ok, k_11, k_12, k_13, hU⟩⟩, hS.F ht⟩) hS.2.2 dX12_of_285
      by_cases h_120 : p2 = 14
      · refine k_topi (y := 14) h_120 ?_
        refine lv_tableIn (tgt := 286) hx hb dX12_of_49 (by decide) (by decide) rfl (by decide) ?_
        have h_120 := kc_eq rfl (by decide : Int32.toInt 14 = 14) h_120
        refine lv_aload_n hx hb dX12_of_286 rfl (lv_at hl 3 rfl) ?_
        refine k_get (ci := 12) (v := .ref (gr g h0 4)) (C := RX12) (T := TX12) (N := 27) hx hb hts (fun _ h0_ => List.mem_cons_of_mem _ (List.mem_append_right _ (List.mem_append_left _ h0_))) hown hK hI i_h0.1 k_9 rfl 4 (by decide) (hts (.fieldLink RX12 16 "DeadlineShareModel" "row" "[J") (List.mem_cons_of_mem _ (List.mem_append_left _ (List.mem_of_getElem? (i := 10) rfl)))) (fun _ h9 => h9) rfl dX12_of_287 ?_
        refine lv_iload_n hx hb dX12_of_290 rfl (lv_at hl 2 rfl) ?_
        refine lv_bipush (v := 42) hx hb dX12_of_291 (by decide) ?_
        refine lv_iadd hx hb dX12_of_293 ?_
        refine k_topi (y := nI (6 + 43 * m_17 + 42)) ((nI_add (6 + 43 * m_17) 42).trans (congrArg nI (by omega))) ?_
        refine k_lald hx hb hK hI i_1.1 1 k_10 rfl (vp_in_nI (by omega) (by omega)) dX12_of_294 ?_
        refine k_topl (y := q (6 + 43 * m_17 + 42)) (congrArg q (nI_clamp (by omega))) ?_
        have d_123 := rk_41 hc1_ok (t := m_17) (by omega)
        refine lv_l2i (v := (q (6 + 43 * m_17 + 42)).toInt32) hx hb dX12_of_295 rfl ?_
        refine lv_topi (fun v_124 ev_124 => ?_)
        have tv_124 := k_l2i (q (6 + 43 * m_17 + 42))
        rw [← ev_124] at tv_124
        exact W.iret (v := v_124) hx hb hr (fun t ht hW => ⟨⟨v_124, (), rfl, trivial, ⟨f_6, k_ret ht hI, kp_8, 0, z1, z10, z12, z13, z14, z15, z16, z17, z18, z23, z24, z25, z26, q, u, im, kt, k_9, (by first | omega | decide), (by first | omega | decide), (by first | omega | decide), k_10, hc1_ok, k_11, k_12, k_13, hU⟩⟩, hS.F ht⟩) hS.2.2 dX12_of_296
      have h_26 := kn_eq rfl (by decide : Int32.toInt 3 = 3) h_26
      have h_31 := kn_eq rfl (by decide : Int32.toInt 4 = 4) h_31
      have h_42 := kn_eq rfl (by decide : Int32.toInt 5 = 5) h_42
      have h_53 := kn_eq rfl (by decide : Int32.toInt 6 = 6) h_53
      have h_64 := kn_eq rfl (by decide : Int32.toInt 7 = 7) h_64
      have h_69 := kn_eq rfl (by decide : Int32.toInt 8 = 8) h_69
      have h_80 := kn_eq rfl (by decide : Int32.toInt 9 = 9) h_80
      have h_87 := kn_eq rfl (by decide : Int32.toInt 10 = 10) h_87
      have h_93 := kn_eq rfl (by decide : Int32.toInt 11 = 11) h_93
      have h_107 := kn_eq rfl (by decide : Int32.toInt 12 = 12) h_107
      have h_115 := kn_eq rfl (by decide : Int32.toInt 13 = 13) h_115
      have h_120 := kn_eq rfl (by decide : Int32.toInt 14 = 14) h_120
      refine lv_tableOut (tgt := 297) hx hb dX12_of_49 (by omega) (by decide) ?_
      refine lv_iload_n hx hb dX12_of_297 rfl (lv_at hl 5 rfl) ?_
      refine lv_i2l (v := p2.toInt64) hx hb dX12_of_298 rfl ?_
      have t_125 := Int32.toInt_toInt64 p2
      refine lv_lconst (v := 0) hx hb dX12_of_299 (by decide) ?_
      refine lv_ldc2 hx hb hown (hts (.constantLong RX12 135 (8)) (List.mem_cons_of_mem _ (List.mem_append_left _ (List.mem_of_getElem? (i := 11) rfl)))) dX12_of_300 ?_
      refine va_calli (va_runS (As := [.long p2.toInt64, .long 0, .long 8]) (rest := []) ⟨hx, hb, hml, hown, hts⟩ (c_X12_in l dC dI g A hG f_6 p2.toInt64 0 8) (va_cwS 3 hts (gi_S (fun w_ h0_ => ⟨List.mem_cons_of_mem _ (List.mem_append_right _ (List.mem_append_right _ (List.mem_append_right _ (List.mem_append_right _ (List.mem_append_right _ (List.mem_append_left _ h0_)))))), (tb_c_X12_in w_ h0_).2⟩) (List.mem_cons_of_mem _ (List.mem_append_left _ (List.mem_of_getElem? (i := 12) rfl))) (List.mem_cons_of_mem _ (List.mem_append_left _ (List.mem_of_getElem? (i := 13) rfl))) (List.mem_cons_of_mem _ (List.mem_append_left _ (List.mem_of_getElem? (i := 4) rfl)))) rfl rfl rfl (by decide +kernel) ⟨Nat.le_of_ble_eq_true rfl, Nat.le_of_ble_eq_true rfl⟩) ⟨fun a U g mk q => ⟨q.1, q.2.calling rfl rfl⟩, fun U hU hW => ⟨rfl, kIn.of hI hK hE hS hU hW⟩⟩ rfl rfl hl.1 rfl (lv_room (Nat.le_of_ble_eq_true rfl)) dX12_of_303 ⟨Nat.le_of_ble_eq_true rfl, Nat.le_of_ble_eq_true rfl⟩) hS (fun q _ h => h) (fun q h => h) (fun r_127 u t H1 locs ht hvm w_126 hB hz1 hk1 hS => ?_)
      have hI : Iv dC dI g A f_6 t.heap := hB
      rw [ht] at hI
      generalize H1 = H at hI hS ⊢
      refine W.widen (k := 0) (n := 0) (Nat.le_of_ble_eq_true rfl) (Nat.le_of_ble_eq_true rfl) ?_
      have w_126 : (r_127.toInt = 0 ∧ (p2.toInt64.toInt < (0 : Int64).toInt ∨ (8 : Int64).toInt < p2.toInt64.toInt)) ∨ (r_127.toInt = 1 ∧ (0 : Int64).toInt ≤ p2.toInt64.toInt ∧ p2.toInt64.toInt ≤ (8 : Int64).toInt) := w_126
      have g_128 : Int64.toInt (0) = 0 := by decide
      have g_129 : Int64.toInt (8) = 8 := by decide
      refine lv_if_eq (tgt := 321) hx hb dX12_of_306 (by decide) (fun c_130 => ?_) (fun c_130 => ?_)
      · have c_130 := kc_eq rfl (by decide : Int32.toInt 0 = 0) c_130
        refine lv_iconst (v := (-1)) hx hb dX12_of_321 (by decide) ?_
        exact W.iret (v := (-1)) hx hb hr (fun t ht hW => ⟨⟨(-1), (), rfl, trivial, ⟨f_6, k_ret ht hI, kp_8, 0, z1, z10, z12, z13, z14, z15, z16, z17, z18, z23, z24, z25, z26, q, u, im, kt, k_9, (by first | omega | decide), (by first | omega | decide), (by first | omega | decide), k_10, hc1_ok, k_11, k_12, k_13, hU⟩⟩, hS.F ht⟩) hS.2.2 dX12_of_322
      · have c_130 := kn_eq rfl (by decide : Int32.toInt 0 = 0) c_130
        refine lv_aload_n hx hb dX12_of_309 rfl (lv_at hl 3 rfl) ?_
        refine k_get (ci := 12) (v := .ref (gr g h0 4)) (C := RX12) (T := TX12) (N := 27) hx hb hts (fun _ h0_ => List.mem_cons_of_mem _ (List.mem_append_right _ (List.mem_append_left _ h0_))) hown hK hI i_h0.1 k_9 rfl 4 (by decide) (hts (.fieldLink RX12 16 "DeadlineShareModel" "row" "[J") (List.mem_cons_of_mem _ (List.mem_append_left _ (List.mem_of_getElem? (i := 10) rfl)))) (fun _ h9 => h9) rfl dX12_of_310 ?_
        refine lv_iload_n hx hb dX12_of_313 rfl (lv_at hl 2 rfl) ?_
        obtain ⟨m_133, em_133, tm_133⟩ := k_nat (x := p2) (by omega)
        refine lv_iload_n hx hb dX12_of_314 rfl (lv_at hl 5 rfl) ?_
        refine k_topi (y := nI m_133) em_133 ?_
        refine lv_iadd hx hb dX12_of_315 ?_
        refine k_topi (y := nI (6 + 43 * m_17 + m_133)) ((nI_add (6 + 43 * m_17) m_133).trans (congrArg nI (by omega))) ?_
        refine k_lald hx hb hK hI i_1.1 1 k_10 rfl (vp_in_nI (by omega) (by omega)) dX12_of_316 ?_
        refine k_topl (y := q (6 + 43 * m_17 + m_133)) (congrArg q (nI_clamp (by omega))) ?_
        refine lv_l2i (v := (q (6 + 43 * m_17 + m_133)).toInt32) hx hb dX12_of_317 rfl ?_
        refine lv_topi (fun v_134 ev_134 => ?_)
        have tv_134 := k_l2i (q (6 + 43 * m_17 + m_133))
        rw [← ev_134] at tv_134
        refine lv_goto (tgt := 322) hx hb dX12_of_318 (by decide) ?_
        exact W.iret (v := v_134) hx hb hr (fun t ht hW => ⟨⟨v_134, (), rfl, trivial, ⟨f_6, k_ret ht hI, kp_8, 0, z1, z10, z12, z13, z14, z15, z16, z17, z18, z23, z24, z25, z26, q, u, im, kt, k_9, (by first | omega | decide), (by first | omega | decide), (by first | omega | decide), k_10, hc1_ok, k_11, k_12, k_13, hU⟩⟩, hS.F ht⟩) hS.2.2 dX12_of_322
    refine lv_if_le (tgt := 45) hx hb dX12_of_38 (by decide) (fun c_135 => ?_) (fun c_135 => ?_)
    · have c_135 := lc_le rfl (by decide : Int64.toInt 0 = 0) ((lg_cmp_le _ _).mp c_135)
      refine lv_iconst (v := 0) hx hb dX12_of_45 (by decide) ?_
      exact J_46 0 _ _ _ hI hS  (lv_sub hl [0, 1, 2, 3, 4] rfl)
    · have c_135 := ln_le rfl (by decide : Int64.toInt 0 = 0) (fun h9 => c_135 ((lg_cmp_le _ _).mpr h9))
      refine lv_iconst (v := 1) hx hb dX12_of_41 (by decide) ?_
      refine lv_goto (tgt := 46) hx hb dX12_of_42 (by decide) ?_
      exact J_46 1 _ _ _ hI hS  (lv_sub hl [0, 1, 2, 3, 4] rfl)
  · have c_16 := kc_eq rfl (by decide : Int32.toInt 0 = 0) c_16
    refine lv_iconst (v := (-1)) hx hb dX12_of_13 (by decide) ?_
    exact W.iret (v := (-1)) hx hb hr (fun t ht hW => ⟨⟨(-1), (), rfl, trivial, ⟨f_6, k_ret ht hI, kp_8, 0, z1, z10, z12, z13, z14, z15, z16, z17, z18, z23, z24, z25, z26, q, u, im, kt, k_9, (by first | omega | decide), (by first | omega | decide), (by first | omega | decide), k_10, hc1_ok, k_11, k_12, k_13, hU⟩⟩, hS.F ht⟩) hS.2.2 dX12_of_14
theorem tw_958 : q_g (.selects RX12 yX12_tell yX12_tell) := ⟨(List.mem_append_left _ (List.mem_of_getElem? (i := 22) (by decide +kernel))), good_of_word (by decide +kernel)⟩
theorem tw_959 : q_g (.instanceMethod yX12_tell) := ⟨(List.mem_append_right _ (List.mem_of_getElem? (i := 1189) (by decide +kernel))), good_of_word (by decide +kernel)⟩
theorem tw_960 : q_g (.methodLink RX12 80 yX12_tell) := ⟨(List.mem_append_right _ (List.mem_of_getElem? (i := 1187) (by decide +kernel))), good_of_word (by decide +kernel)⟩
theorem tw_961 : q_g (.selects RX12 yX12_remember yX12_remember) := ⟨(List.mem_append_left _ (List.mem_of_getElem? (i := 24) (by decide +kernel))), good_of_word (by decide +kernel)⟩
theorem tw_962 : q_g (.instanceMethod yX12_remember) := ⟨(List.mem_append_right _ (List.mem_of_getElem? (i := 1225) (by decide +kernel))), good_of_word (by decide +kernel)⟩
theorem tw_963 : q_g (.methodLink RX12 139 yX12_remember) := ⟨(List.mem_append_right _ (List.mem_of_getElem? (i := 1223) (by decide +kernel))), good_of_word (by decide +kernel)⟩
theorem tw_964 : q_g (.selects RX12 yX12_refuse yX12_refuse) := ⟨(List.mem_append_left _ (List.mem_of_getElem? (i := 21) (by decide +kernel))), good_of_word (by decide +kernel)⟩
theorem tw_965 : q_g (.instanceMethod yX12_refuse) := ⟨(List.mem_append_right _ (List.mem_of_getElem? (i := 1185) (by decide +kernel))), good_of_word (by decide +kernel)⟩
theorem tw_966 : q_g (.methodLink RX12 76 yX12_refuse) := ⟨(List.mem_append_right _ (List.mem_of_getElem? (i := 1183) (by decide +kernel))), good_of_word (by decide +kernel)⟩
theorem tw_967 : q_g (.code yX12_join cX12_join 2 (some .int)) := ⟨(List.mem_append_right _ (List.mem_of_getElem? (i := 1233) (by decide +kernel))), good_of_word (by decide +kernel)⟩
def ow_c_X12_join : List Cond := [.fieldLink RX12 67 "DeadlineShareModel" "thrown" "I", .methodLink RX12 142 yX12_isTask, .instanceMethod yX12_isTask, .selects RX12 yX12_isTask yX12_isTask, .initialized RX12, .fieldLink RX12 16 "DeadlineShareModel" "row" "[J", .methodLink RX12 87 yX12_at, .static yX12_at, .methodLink RX12 76 yX12_refuse, .instanceMethod yX12_refuse, .selects RX12 yX12_refuse yX12_refuse, .methodLink RX12 145 yX12_isSpent, .instanceMethod yX12_isSpent, .selects RX12 yX12_isSpent yX12_isSpent, .methodLink RX12 148 yX12_hasRoom, .instanceMethod yX12_hasRoom, .selects RX12 yX12_hasRoom yX12_hasRoom, .methodLink RX12 139 yX12_remember, .instanceMethod yX12_remember, .selects RX12 yX12_remember yX12_remember, .methodLink RX12 151 yX12_joins, .instanceMethod yX12_joins, .selects RX12 yX12_joins yX12_joins, .methodLink RX12 105 yX12_heavy, .instanceMethod yX12_heavy, .selects RX12 yX12_heavy yX12_heavy, .methodLink RX12 80 yX12_tell, .instanceMethod yX12_tell, .selects RX12 yX12_tell yX12_tell]
def wq_c_X12_join : List Cond := .code yX12_join cX12_join 2 (some .int) :: (ow_c_X12_join ++ (u_ws RX12 TX12 27 ++ (wq_c_X12_isTask ++ (wq_c_X12_at ++ (wq_c_X12_refuse ++ (wq_c_X12_isSpent ++ (wq_c_X12_hasRoom ++ (wq_c_X12_remember ++ (wq_c_X12_joins ++ (wq_c_X12_heavy ++ (wq_c_X12_tell ++ ([] : List Cond))))))))))))
theorem tb_c_X12_join : ∀ w ∈ wq_c_X12_join, q_g w := by
  unfold wq_c_X12_join ow_c_X12_join
  exact q_cons tw_967 (q_app (q_cons tw_927 (q_cons tw_951 (q_cons tw_950 (q_cons tw_949 (q_cons tw_728 (q_cons tw_731 (q_cons tw_734 (q_cons tw_733 (q_cons tw_966 (q_cons tw_965 (q_cons tw_964 (q_cons tw_844 (q_cons tw_843 (q_cons tw_842 (q_cons tw_847 (q_cons tw_846 (q_cons tw_845 (q_cons tw_963 (q_cons tw_962 (q_cons tw_961 (q_cons tw_841 (q_cons tw_840 (q_cons tw_839 (q_cons tw_752 (q_cons tw_751 (q_cons tw_750 (q_cons tw_960 (q_cons tw_959 (q_cons tw_958 q_nil))))))))))))))))))))))))))))) (q_app tu_X12 (q_app tb_c_X12_isTask (q_app tb_c_X12_at (q_app tb_c_X12_refuse (q_app tb_c_X12_isSpent (q_app tb_c_X12_hasRoom (q_app tb_c_X12_remember (q_app tb_c_X12_joins (q_app tb_c_X12_heavy (q_app tb_c_X12_tell q_nil)))))))))))
set_option maxHeartbeats 4000000 in
set_option maxRecDepth 100000 in
theorem c_X12_join (l : Launch) (dC : Nat → ClassId) (dI : Nat → Nat → Nat) (g : kG) (A : Nat → Prop) (hG : kWf g) (f : Nat → va_E) (h0 : Nat) (p1 : Int32) (z0 : Int32) (z1 : Int32) (z10 : Int32) (z12 : Int32) (z13 : Int32) (z14 : Int32) (z15 : Int32) (z16 : Int64) (z17 : Int32) (z18 : Int32) (z23 : Int32) (z24 : Int64) (z25 : Int64) (z26 : Int64) (q : Nat → Int64) (u : Nat → Int64) (im : Nat → Int64) (kt : Nat → Int32) (i_h0 : ik g 12 h0) (hc0 : f h0 = .inr (12, [.int z0, .int z1, .ref (gr g h0 2), .ref (gr g h0 3), .ref (gr g h0 4), .ref (gr g h0 5), .ref (gr g h0 6), .ref (gr g h0 7), .ref (gr g h0 8), .ref (gr g h0 9), .int z10, .ref (gr g h0 11), .int z12, .int z13, .int z14, .int z15, .long z16, .int z17, .int z18, .ref (gr g h0 19), .ref (gr g h0 20), .ref (gr g h0 21), .ref (gr g h0 22), .int z23, .long z24, .long z25, .long z26])) (hc0_10 : 0 ≤ z10.toInt ∧ z10.toInt ≤ 10) (hc0_12 : 0 ≤ z12.toInt ∧ z12.toInt ≤ 200) (hc0_23 : 0 ≤ z23.toInt ∧ z23.toInt ≤ 8) (hc1 : f (gr g h0 4) = .inl (gc g 1, 906, .inr (.inl q))) (hc1_ok : RowOK q) (hc2 : f (gr g h0 5) = .inl (gc g 1, 9060, .inr (.inl u))) (hc3 : f (gr g h0 7) = .inl (gc g 1, 1812, .inr (.inl im))) (hc4 : f (gr g h0 8) = .inl (gc g 3, 2, .inl kt)) (hU : UIq z10 u im kt) : Met l yX12_join wq_c_X12_join ({ frames := 4, cells := 0, slots := 0, locals := 94 } : Room) (va_Pc [.ref h0, .int p1] (fun U => kIn dC dI g A f U)) (va_Qi (fun (r : Int32) (_ : Unit) => True) (fun (_ : Unit) t => ∃ f1 : Nat → va_E, Iv dC dI g A f1 t.heap ∧ Kp g [12, 30, 32, 33, 37] f f1 ∧ ∃ (w0 : Int32) (w1 : Int32) (w10 : Int32) (w12 : Int32) (w13 : Int32) (w14 : Int32) (w15 : Int32) (w16 : Int64) (w17 : Int32) (w18 : Int32) (w23 : Int32) (w24 : Int64) (w25 : Int64) (w26 : Int64) (q1 : Nat → Int64) (u1 : Nat → Int64) (im1 : Nat → Int64) (ik1 : Nat → Int32), (f1 h0 = .inr (12, [.int w0, .int w1, .ref (gr g h0 2), .ref (gr g h0 3), .ref (gr g h0 4), .ref (gr g h0 5), .ref (gr g h0 6), .ref (gr g h0 7), .ref (gr g h0 8), .ref (gr g h0 9), .int w10, .ref (gr g h0 11), .int w12, .int w13, .int w14, .int w15, .long w16, .int w17, .int w18, .ref (gr g h0 19), .ref (gr g h0 20), .ref (gr g h0 21), .ref (gr g h0 22), .int w23, .long w24, .long w25, .long w26])) ∧ (0 ≤ w10.toInt ∧ w10.toInt ≤ 10) ∧ (0 ≤ w12.toInt ∧ w12.toInt ≤ 200) ∧ (0 ≤ w23.toInt ∧ w23.toInt ≤ 8) ∧ (f1 (gr g h0 4) = .inl (gc g 1, 906, .inr (.inl q1))) ∧ (RowOK q1) ∧ (f1 (gr g h0 5) = .inl (gc g 1, 9060, .inr (.inl u1))) ∧ (f1 (gr g h0 7) = .inl (gc g 1, 1812, .inr (.inl im1))) ∧ (f1 (gr g h0 8) = .inl (gc g 3, 2, .inl ik1)) ∧ (UIq w10 u1 im1 ik1)) A) 0 0 A := by
  refine Met.ofW (cc := cX12_join) (maxL := 2) (ret := (some .int)) (by decide) rfl ?_
  intro p e s m args below meth c s₁ B hml hv
  obtain ⟨rfl, hI, hK, hE⟩ := hv
  have hx := B.exec
  have hb := B.bytes
  have hr := B.returns
  have hts := atoms_spec (ws := wq_c_X12_join) B.pre
  have hown : s.vm.findClass RX12 = some m.cls := findClass_of_methodNamed B.named
  have hlocks := B.notSynchronized
  have hS : va_S A s.heap s.heap [] := va_S.rf
  have hk0 : Kp g [12, 30, 32, 33, 37] f f := Kp.rf
  have hl := lv_entry ([.ref h0, .int p1]) (n := 2) (Nat.le_of_ble_eq_true rfl)
  rw [lg_entry_eq]
  generalize (lg_sl ([.ref h0, .int p1]) ++ List.replicate (2 - (lg_sl ([.ref h0, .int p1])).length) Slot.unset).toArray = ls at hl ⊢
  have hl : lv_has ls 2 [(0, .ref h0), (1, .int p1)] := hl
  have i_1 := kw_12_4 hG i_h0
  have d_2 := rk_hd hc1_ok
  have i_3 := kw_12_5 hG i_h0
  have i_4 := kw_12_7 hG i_h0
  have i_5 := kw_12_8 hG i_h0
  refine lv_aload_n hx hb dX12_join_0 rfl (lv_at hl 0 rfl) ?_
  refine lv_iconst (v := 0) hx hb dX12_join_1 (by decide) ?_
  refine k_put (ci := 12) (v := .int 0) (ty := .int) (C := RX12) (T := TX12) (N := 27) hx hb hts (fun _ h0_ => List.mem_cons_of_mem _ (List.mem_append_right _ (List.mem_append_left _ h0_))) tyX12 tyX12_ok nmX12 hown hK hI hS i_h0.1 hc0 rfl 0 (by decide) (hts (.fieldLink RX12 67 "DeadlineShareModel" "thrown" "I") (List.mem_cons_of_mem _ (List.mem_append_left _ (List.mem_of_getElem? (i := 0) rfl)))) (fun _ h9 => h9) rfl (by decide +kernel) rfl rfl (Nat.le_of_ble_eq_true rfl) rfl (cl_12 i_h0 (by omega) (by omega) (by omega)) dX12_join_2 (fun f_6 H locs e_7 hI hS => ?_)
  have k_9 : f_6 h0 = .inr (12, [.int 0, .int z1, .ref (gr g h0 2), .ref (gr g h0 3), .ref (gr g h0 4), .ref (gr g h0 5), .ref (gr g h0 6), .ref (gr g h0 7), .ref (gr g h0 8), .ref (gr g h0 9), .int z10, .ref (gr g h0 11), .int z12, .int z13, .int z14, .int z15, .long z16, .int z17, .int z18, .ref (gr g h0 19), .ref (gr g h0 20), .ref (gr g h0 21), .ref (gr g h0 22), .int z23, .long z24, .long z25, .long z26]) := by rw [e_7]; exact va_up_self _ _ _
  have k_10 : f_6 (gr g h0 4) = .inl (gc g 1, 906, .inr (.inl q)) := by rw [e_7, va_up_ne _ _ (ik_ne i_1 i_h0 (by decide))]; exact hc1
  have k_11 : f_6 (gr g h0 5) = .inl (gc g 1, 9060, .inr (.inl u)) := by rw [e_7, va_up_ne _ _ (ik_ne i_3 i_h0 (by decide))]; exact hc2
  have k_12 : f_6 (gr g h0 7) = .inl (gc g 1, 1812, .inr (.inl im)) := by rw [e_7, va_up_ne _ _ (ik_ne i_4 i_h0 (by decide))]; exact hc3
  have k_13 : f_6 (gr g h0 8) = .inl (gc g 3, 2, .inl kt) := by rw [e_7, va_up_ne _ _ (ik_ne i_5 i_h0 (by decide))]; exact hc4
  have kp_8 := Kp.put hk0 i_h0 (by decide) e_7
  refine lv_aload_n hx hb dX12_join_5 rfl (lv_at hl 0 rfl) ?_
  refine lv_iload_n hx hb dX12_join_6 rfl (lv_at hl 1 rfl) ?_
  refine va_calli (va_runV (As := [.int p1]) (rest := []) ⟨hx, hb, hml, hown, hts⟩ (c_X12_isTask l dC dI g A hG f_6 h0 p1 q i_h0 k_10 hc1_ok) (cwV 1 hts (gi_V (fun w_ h0_ => ⟨List.mem_cons_of_mem _ (List.mem_append_right _ (List.mem_append_right _ (List.mem_append_left _ h0_))), (tb_c_X12_isTask w_ h0_).2⟩) (List.mem_cons_of_mem _ (List.mem_append_left _ (List.mem_of_getElem? (i := 1) rfl))) (List.mem_cons_of_mem _ (List.mem_append_left _ (List.mem_of_getElem? (i := 2) rfl))) (List.mem_cons_of_mem _ (List.mem_append_left _ (List.mem_of_getElem? (i := 3) rfl))) (List.mem_cons_of_mem _ (List.mem_append_left _ (List.mem_of_getElem? (i := 4) rfl)))) rfl rfl rfl (by decide +kernel) ⟨Nat.le_of_ble_eq_true rfl, Nat.le_of_ble_eq_true rfl⟩) ⟨fun a U g mk q => ⟨q.1, q.2.calling rfl rfl⟩, k_recv hK hI i_h0.1 k_9 (ci := 12) rfl, fun U hU hW => ⟨rfl, kIn.of hI hK hE hS hU hW⟩⟩ rfl rfl hl.1 rfl (lv_room (Nat.le_of_ble_eq_true rfl)) dX12_join_7 ⟨Nat.le_of_ble_eq_true rfl, Nat.le_of_ble_eq_true rfl⟩) hS (fun q _ h => h) (fun q h => h) (fun r_15 u t H1 locs ht hvm w_14 hB hz1 hk1 hS => ?_)
  have hI : Iv dC dI g A f_6 t.heap := hB
  rw [ht] at hI
  generalize H1 = H at hI hS ⊢
  refine W.widen (k := 0) (n := 0) (Nat.le_of_ble_eq_true rfl) (Nat.le_of_ble_eq_true rfl) ?_
  have w_14 : (r_15.toInt = 0 ∨ r_15.toInt = 1) ∧ (r_15.toInt = 0 ∨ (0 ≤ p1.toInt ∧ p1.toInt < (q 0).toInt)) := w_14
  refine lv_if_ne (tgt := 20) hx hb dX12_join_10 (by decide) (fun c_16 => ?_) (fun c_16 => ?_)
  · have c_16 := kn_eq rfl (by decide : Int32.toInt 0 = 0) c_16
    refine lv_aload_n hx hb dX12_join_20 rfl (lv_at hl 0 rfl) ?_
    refine k_get (ci := 12) (v := .ref (gr g h0 4)) (C := RX12) (T := TX12) (N := 27) hx hb hts (fun _ h0_ => List.mem_cons_of_mem _ (List.mem_append_right _ (List.mem_append_left _ h0_))) hown hK hI i_h0.1 k_9 rfl 4 (by decide) (hts (.fieldLink RX12 16 "DeadlineShareModel" "row" "[J") (List.mem_cons_of_mem _ (List.mem_append_left _ (List.mem_of_getElem? (i := 5) rfl)))) (fun _ h9 => h9) rfl dX12_join_21 ?_
    obtain ⟨m_19, em_19, tm_19⟩ := k_nat (x := p1) (by omega)
    refine lv_iload_n hx hb dX12_join_24 rfl (lv_at hl 1 rfl) ?_
    refine k_topi (y := nI m_19) em_19 ?_
    refine va_calli (va_runS (As := [.int (nI m_19)]) (rest := [.ref (gr g h0 4)]) ⟨hx, hb, hml, hown, hts⟩ (c_X12_at l dC dI g A hG f_6 m_19) (va_cwS 1 hts (gi_S (fun w_ h0_ => ⟨List.mem_cons_of_mem _ (List.mem_append_right _ (List.mem_append_right _ (List.mem_append_right _ (List.mem_append_left _ h0_)))), (tb_c_X12_at w_ h0_).2⟩) (List.mem_cons_of_mem _ (List.mem_append_left _ (List.mem_of_getElem? (i := 6) rfl))) (List.mem_cons_of_mem _ (List.mem_append_left _ (List.mem_of_getElem? (i := 7) rfl))) (List.mem_cons_of_mem _ (List.mem_append_left _ (List.mem_of_getElem? (i := 4) rfl)))) rfl rfl rfl (by decide +kernel) ⟨Nat.le_of_ble_eq_true rfl, Nat.le_of_ble_eq_true rfl⟩) ⟨fun a U g mk q => ⟨q.1, q.2.calling rfl rfl⟩, fun U hU hW => ⟨rfl, kIn.of hI hK hE hS hU hW⟩⟩ rfl rfl hl.1 rfl (lv_room (Nat.le_of_ble_eq_true rfl)) dX12_join_25 ⟨Nat.le_of_ble_eq_true rfl, Nat.le_of_ble_eq_true rfl⟩) hS (fun q _ h => h) (fun q h => h) (fun r_21 u t H1 locs ht hvm w_20 hB hz1 hk1 hS => ?_)
    have hI : Iv dC dI g A f_6 t.heap := hB
    rw [ht] at hI
    generalize H1 = H at hI hS ⊢
    refine W.widen (k := 0) (n := 0) (Nat.le_of_ble_eq_true rfl) (Nat.le_of_ble_eq_true rfl) ?_
    have w_20 : r_21 = nI (6 + 43 * m_19) := w_20
    refine k_topi (y := nI (6 + 43 * m_19)) w_20 ?_
    refine lv_iconst (v := 2) hx hb dX12_join_28 (by decide) ?_
    refine lv_iadd hx hb dX12_join_29 ?_
    refine k_topi (y := nI (6 + 43 * m_19 + 2)) ((nI_add (6 + 43 * m_19) 2).trans (congrArg nI (by omega))) ?_
    refine k_lald hx hb hK hI i_1.1 1 k_10 rfl (vp_in_nI (by omega) (by omega)) dX12_join_30 ?_
    refine k_topl (y := q (6 + 43 * m_19 + 2)) (congrArg q (nI_clamp (by omega))) ?_
    refine lv_lconst (v := 0) hx hb dX12_join_31 (by decide) ?_
    refine W.lcmp hx hb dX12_join_32 ?_
    have J_44 : ∀ (H : Heap) (locs : List Loc) (ls : Array Slot), Iv dC dI g A f_6 H → va_S A s.heap H locs → lv_has ls 2 [(0, .ref h0), (1, .int p1)] → W p l e (headSpec wq_c_X12_join ({ frames := 4, cells := 0, slots := 0, locals := 94 } : Room)).room s m ([.ref h0, .int p1].toArray) below meth c H locs 0 0 (MQ below (va_Qi (fun (r : Int32) (_ : Unit) => True) (fun (_ : Unit) t => ∃ f1 : Nat → va_E, Iv dC dI g A f1 t.heap ∧ Kp g [12, 30, 32, 33, 37] f f1 ∧ ∃ (w0 : Int32) (w1 : Int32) (w10 : Int32) (w12 : Int32) (w13 : Int32) (w14 : Int32) (w15 : Int32) (w16 : Int64) (w17 : Int32) (w18 : Int32) (w23 : Int32) (w24 : Int64) (w25 : Int64) (w26 : Int64) (q1 : Nat → Int64) (u1 : Nat → Int64) (im1 : Nat → Int64) (ik1 : Nat → Int32), (f1 h0 = .inr (12, [.int w0, .int w1, .ref (gr g h0 2), .ref (gr g h0 3), .ref (gr g h0 4), .ref (gr g h0 5), .ref (gr g h0 6), .ref (gr g h0 7), .ref (gr g h0 8), .ref (gr g h0 9), .int w10, .ref (gr g h0 11), .int w12, .int w13, .int w14, .int w15, .long w16, .int w17, .int w18, .ref (gr g h0 19), .ref (gr g h0 20), .ref (gr g h0 21), .ref (gr g h0 22), .int w23, .long w24, .long w25, .long w26])) ∧ (0 ≤ w10.toInt ∧ w10.toInt ≤ 10) ∧ (0 ≤ w12.toInt ∧ w12.toInt ≤ 200) ∧ (0 ≤ w23.toInt ∧ w23.toInt ≤ 8) ∧ (f1 (gr g h0 4) = .inl (gc g 1, 906, .inr (.inl q1))) ∧ (RowOK q1) ∧ (f1 (gr g h0 5) = .inl (gc g 1, 9060, .inr (.inl u1))) ∧ (f1 (gr g h0 7) = .inl (gc g 1, 1812, .inr (.inl im1))) ∧ (f1 (gr g h0 8) = .inl (gc g 3, 2, .inl ik1)) ∧ (UIq w10 u1 im1 ik1)) A) ([.ref h0, .int p1].toArray) s 0 0 A) (F0 m 44 ls []) := by
      intro H locs ls hI hS  hl
      refine lv_aload_n hx hb dX12_join_44 rfl (lv_at hl 0 rfl) ?_
      refine lv_bipush (v := (-4)) hx hb dX12_join_45 (by decide) ?_
      refine va_calli (va_runV (As := [.int (-4)]) (rest := []) ⟨hx, hb, hml, hown, hts⟩ (c_X12_refuse l dC dI g A hG f_6 h0 (-4) 0 z1 z10 z12 z13 z14 z15 z16 z17 z18 z23 z24 z25 z26 i_h0 k_9 (by first | omega | (simp only [k_c0]; omega)) (by first | omega | (simp only [k_c0]; omega)) (by first | omega | (simp only [k_c0]; omega)) (by decide)) (cwV 1 hts (gi_V (fun w_ h0_ => ⟨List.mem_cons_of_mem _ (List.mem_append_right _ (List.mem_append_right _ (List.mem_append_right _ (List.mem_append_right _ (List.mem_append_left _ h0_))))), (tb_c_X12_refuse w_ h0_).2⟩) (List.mem_cons_of_mem _ (List.mem_append_left _ (List.mem_of_getElem? (i := 8) rfl))) (List.mem_cons_of_mem _ (List.mem_append_left _ (List.mem_of_getElem? (i := 9) rfl))) (List.mem_cons_of_mem _ (List.mem_append_left _ (List.mem_of_getElem? (i := 10) rfl))) (List.mem_cons_of_mem _ (List.mem_append_left _ (List.mem_of_getElem? (i := 4) rfl)))) rfl rfl rfl (by decide +kernel) ⟨Nat.le_of_ble_eq_true rfl, Nat.le_of_ble_eq_true rfl⟩) ⟨fun a U g mk q => ⟨q.1, q.2.calling rfl rfl⟩, k_recv hK hI i_h0.1 k_9 (ci := 12) rfl, fun U hU hW => ⟨rfl, kIn.of hI hK hE hS hU hW⟩⟩ rfl rfl hl.1 rfl (lv_room (Nat.le_of_ble_eq_true rfl)) dX12_join_47 ⟨Nat.le_of_ble_eq_true rfl, Nat.le_of_ble_eq_true rfl⟩) hS (fun q _ h => h) (fun q h => h) (fun r_24 u t H1 locs ht hvm w_23 hB hz1 hk1 hS => ?_)
      obtain ⟨f_22, hI, kc_25, k_26⟩ := hB
      rw [ht] at hI
      have k_27 : f_22 (gr g h0 4) = .inl (gc g 1, 906, .inr (.inl q)) := Kp.at kc_25 i_1 (by decide) k_10
      have k_28 : f_22 (gr g h0 5) = .inl (gc g 1, 9060, .inr (.inl u)) := Kp.at kc_25 i_3 (by decide) k_11
      have k_29 : f_22 (gr g h0 7) = .inl (gc g 1, 1812, .inr (.inl im)) := Kp.at kc_25 i_4 (by decide) k_12
      have k_30 : f_22 (gr g h0 8) = .inl (gc g 3, 2, .inl kt) := Kp.at kc_25 i_5 (by decide) k_13
      have k_26 : f_22 h0 = .inr (12, [.int (0 : Int32), .int (-4 : Int32), .ref (gr g h0 2), .ref (gr g h0 3), .ref (gr g h0 4), .ref (gr g h0 5), .ref (gr g h0 6), .ref (gr g h0 7), .ref (gr g h0 8), .ref (gr g h0 9), .int z10, .ref (gr g h0 11), .int z12, .int z13, .int z14, .int z15, .long z16, .int z17, .int z18, .ref (gr g h0 19), .ref (gr g h0 20), .ref (gr g h0 21), .ref (gr g h0 22), .int z23, .long z24, .long z25, .long z26]) := k_26
      have kp_31 := Kp.call kp_8 kc_25 (by decide)
      generalize H1 = H at hI hS ⊢
      refine W.widen (k := 0) (n := 0) (Nat.le_of_ble_eq_true rfl) (Nat.le_of_ble_eq_true rfl) ?_
      have w_23 : r_24.toInt = (-4 : Int32).toInt := w_23
      have g_32 : Int32.toInt ((-4)) = (-4) := by decide
      exact W.iret (v := r_24) hx hb hr (fun t ht hW => ⟨⟨r_24, (), rfl, trivial, ⟨f_22, k_ret ht hI, kp_31, (0 : Int32), (-4 : Int32), z10, z12, z13, z14, z15, z16, z17, z18, z23, z24, z25, z26, q, u, im, kt, k_26, (by first | omega | decide), (by first | omega | decide), (by first | omega | decide), k_27, hc1_ok, k_28, k_29, k_30, hU⟩⟩, hS.F ht⟩) hS.2.2 dX12_join_50
    refine lv_if_ne (tgt := 44) hx hb dX12_join_33 (by decide) (fun c_33 => ?_) (fun c_33 => ?_)
    · have c_33 := ln_eq rfl (by decide : Int64.toInt 0 = 0) (fun h9 => c_33 ((lg_cmp_eq _ _).mpr h9))
      exact J_44  _ _ _ hI hS  (lv_sub hl [0, 1] rfl)
    · have c_33 := lc_eq rfl (by decide : Int64.toInt 0 = 0) ((lg_cmp_eq _ _).mp c_33)
      refine lv_aload_n hx hb dX12_join_36 rfl (lv_at hl 0 rfl) ?_
      refine lv_iload_n hx hb dX12_join_37 rfl (lv_at hl 1 rfl) ?_
      refine k_topi (y := nI m_19) em_19 ?_
      refine va_calli (va_runV (As := [.int (nI m_19)]) (rest := []) ⟨hx, hb, hml, hown, hts⟩ (c_X12_isSpent l dC dI g A hG f_6 h0 m_19 q i_h0 k_10 hc1_ok (by first | omega | decide | (simp only [k_c0, k_c1, k_cm1]; omega))) (cwV 1 hts (gi_V (fun w_ h0_ => ⟨List.mem_cons_of_mem _ (List.mem_append_right _ (List.mem_append_right _ (List.mem_append_right _ (List.mem_append_right _ (List.mem_append_right _ (List.mem_append_left _ h0_)))))), (tb_c_X12_isSpent w_ h0_).2⟩) (List.mem_cons_of_mem _ (List.mem_append_left _ (List.mem_of_getElem? (i := 11) rfl))) (List.mem_cons_of_mem _ (List.mem_append_left _ (List.mem_of_getElem? (i := 12) rfl))) (List.mem_cons_of_mem _ (List.mem_append_left _ (List.mem_of_getElem? (i := 13) rfl))) (List.mem_cons_of_mem _ (List.mem_append_left _ (List.mem_of_getElem? (i := 4) rfl)))) rfl rfl rfl (by decide +kernel) ⟨Nat.le_of_ble_eq_true rfl, Nat.le_of_ble_eq_true rfl⟩) ⟨fun a U g mk q => ⟨q.1, q.2.calling rfl rfl⟩, k_recv hK hI i_h0.1 k_9 (ci := 12) rfl, fun U hU hW => ⟨rfl, kIn.of hI hK hE hS hU hW⟩⟩ rfl rfl hl.1 rfl (lv_room (Nat.le_of_ble_eq_true rfl)) dX12_join_38 ⟨Nat.le_of_ble_eq_true rfl, Nat.le_of_ble_eq_true rfl⟩) hS (fun q _ h => h) (fun q h => h) (fun r_35 u t H1 locs ht hvm w_34 hB hz1 hk1 hS => ?_)
      have hI : Iv dC dI g A f_6 t.heap := hB
      rw [ht] at hI
      generalize H1 = H at hI hS ⊢
      refine W.widen (k := 0) (n := 0) (Nat.le_of_ble_eq_true rfl) (Nat.le_of_ble_eq_true rfl) ?_
      refine lv_if_eq (tgt := 51) hx hb dX12_join_41 (by decide) (fun c_36 => ?_) (fun c_36 => ?_)
      · have c_36 := kc_eq rfl (by decide : Int32.toInt 0 = 0) c_36
        refine lv_aload_n hx hb dX12_join_51 rfl (lv_at hl 0 rfl) ?_
        refine lv_iload_n hx hb dX12_join_52 rfl (lv_at hl 1 rfl) ?_
        refine k_topi (y := nI m_19) em_19 ?_
        refine va_calli (va_runV (As := [.int (nI m_19)]) (rest := []) ⟨hx, hb, hml, hown, hts⟩ (c_X12_hasRoom l dC dI g A hG f_6 h0 m_19 q i_h0 k_10 hc1_ok (by first | omega | decide | (simp only [k_c0, k_c1, k_cm1]; omega))) (cwV 1 hts (gi_V (fun w_ h0_ => ⟨List.mem_cons_of_mem _ (List.mem_append_right _ (List.mem_append_right _ (List.mem_append_right _ (List.mem_append_right _ (List.mem_append_right _ (List.mem_append_right _ (List.mem_append_left _ h0_))))))), (tb_c_X12_hasRoom w_ h0_).2⟩) (List.mem_cons_of_mem _ (List.mem_append_left _ (List.mem_of_getElem? (i := 14) rfl))) (List.mem_cons_of_mem _ (List.mem_append_left _ (List.mem_of_getElem? (i := 15) rfl))) (List.mem_cons_of_mem _ (List.mem_append_left _ (List.mem_of_getElem? (i := 16) rfl))) (List.mem_cons_of_mem _ (List.mem_append_left _ (List.mem_of_getElem? (i := 4) rfl)))) rfl rfl rfl (by decide +kernel) ⟨Nat.le_of_ble_eq_true rfl, Nat.le_of_ble_eq_true rfl⟩) ⟨fun a U g mk q => ⟨q.1, q.2.calling rfl rfl⟩, k_recv hK hI i_h0.1 k_9 (ci := 12) rfl, fun U hU hW => ⟨rfl, kIn.of hI hK hE hS hU hW⟩⟩ rfl rfl hl.1 rfl (lv_room (Nat.le_of_ble_eq_true rfl)) dX12_join_53 ⟨Nat.le_of_ble_eq_true rfl, Nat.le_of_ble_eq_true rfl⟩) hS (fun q _ h => h) (fun q h => h) (fun r_38 u t H1 locs ht hvm w_37 hB hz1 hk1 hS => ?_)
        have hI : Iv dC dI g A f_6 t.heap := hB
        rw [ht] at hI
        generalize H1 = H at hI hS ⊢
        refine W.widen (k := 0) (n := 0) (Nat.le_of_ble_eq_true rfl) (Nat.le_of_ble_eq_true rfl) ?_
        refine lv_if_ne (tgt := 66) hx hb dX12_join_56 (by decide) (fun c_39 => ?_) (fun c_39 => ?_)
        · have c_39 := kn_eq rfl (by decide : Int32.toInt 0 = 0) c_39
          refine lv_aload_n hx hb dX12_join_66 rfl (lv_at hl 0 rfl) ?_
          refine lv_iconst (v := 1) hx hb dX12_join_67 (by decide) ?_
          refine va_callv (va_runV (As := [.int 1]) (rest := []) ⟨hx, hb, hml, hown, hts⟩ (c_X12_remember l dC dI g A hG f_6 h0 1 0 z1 z10 z12 z13 z14 z15 z16 z17 z18 z23 z24 z25 z26 q u im kt i_h0 k_9 (by first | omega | (simp only [k_c0]; omega)) (by first | omega | (simp only [k_c0]; omega)) (by first | omega | (simp only [k_c0]; omega)) k_10 hc1_ok k_11 k_12 k_13 (by decide)) (cwV 1 hts (gi_V (fun w_ h0_ => ⟨List.mem_cons_of_mem _ (List.mem_append_right _ (List.mem_append_right _ (List.mem_append_right _ (List.mem_append_right _ (List.mem_append_right _ (List.mem_append_right _ (List.mem_append_right _ (List.mem_append_left _ h0_)))))))), (tb_c_X12_remember w_ h0_).2⟩) (List.mem_cons_of_mem _ (List.mem_append_left _ (List.mem_of_getElem? (i := 17) rfl))) (List.mem_cons_of_mem _ (List.mem_append_left _ (List.mem_of_getElem? (i := 18) rfl))) (List.mem_cons_of_mem _ (List.mem_append_left _ (List.mem_of_getElem? (i := 19) rfl))) (List.mem_cons_of_mem _ (List.mem_append_left _ (List.mem_of_getElem? (i := 4) rfl)))) rfl rfl rfl (by decide +kernel) ⟨Nat.le_of_ble_eq_true rfl, Nat.le_of_ble_eq_true rfl⟩) ⟨fun a U g mk q => ⟨q.1, q.2.calling rfl rfl⟩, k_recv hK hI i_h0.1 k_9 (ci := 12) rfl, fun U hU hW => ⟨rfl, kIn.of hI hK hE hS hU hW⟩⟩ rfl rfl hl.1 rfl (lv_room (Nat.le_of_ble_eq_true rfl)) dX12_join_68 ⟨Nat.le_of_ble_eq_true rfl, Nat.le_of_ble_eq_true rfl⟩) hS (fun q _ h => h) (fun q h => h) (fun u t H1 locs ht hvm _ hB hz1 hk1 hS => ?_)
          obtain ⟨f_40, hI, kc_42, w10_43, u1_44, k_45, z_46, k_47, z_48⟩ := hB
          rw [ht] at hI
          have k_49 : f_40 (gr g h0 4) = .inl (gc g 1, 906, .inr (.inl q)) := Kp.at kc_42 i_1 (by decide) k_10
          have k_50 : f_40 (gr g h0 7) = .inl (gc g 1, 1812, .inr (.inl im)) := Kp.at kc_42 i_4 (by decide) k_12
          have k_51 : f_40 (gr g h0 8) = .inl (gc g 3, 2, .inl kt) := Kp.at kc_42 i_5 (by decide) k_13
          have k_45 : f_40 h0 = .inr (12, [.int (0 : Int32), .int z1, .ref (gr g h0 2), .ref (gr g h0 3), .ref (gr g h0 4), .ref (gr g h0 5), .ref (gr g h0 6), .ref (gr g h0 7), .ref (gr g h0 8), .ref (gr g h0 9), .int w10_43, .ref (gr g h0 11), .int z12, .int z13, .int z14, .int z15, .long z16, .int z17, .int z18, .ref (gr g h0 19), .ref (gr g h0 20), .ref (gr g h0 21), .ref (gr g h0 22), .int z23, .long z24, .long z25, .long z26]) := k_45
          have z_46 : 0 ≤ w10_43.toInt ∧ w10_43.toInt ≤ 10 := z_46
          have z_48 : UIq w10_43 u1_44 im kt := z_48
          have kp_52 := Kp.call kp_8 kc_42 (by decide)
          generalize H1 = H at hI hS ⊢
          refine W.widen (k := 0) (n := 0) (Nat.le_of_ble_eq_true rfl) (Nat.le_of_ble_eq_true rfl) ?_
          refine lv_aload_n hx hb dX12_join_71 rfl (lv_at hl 0 rfl) ?_
          refine lv_iload_n hx hb dX12_join_72 rfl (lv_at hl 1 rfl) ?_
          refine k_topi (y := nI m_19) em_19 ?_
          refine va_callv (va_runV (As := [.int (nI m_19)]) (rest := []) ⟨hx, hb, hml, hown, hts⟩ (c_X12_joins l dC dI g A hG f_40 h0 m_19 q i_h0 k_49 hc1_ok (by first | omega | decide | (simp only [k_c0, k_c1, k_cm1]; omega))) (cwV 1 hts (gi_V (fun w_ h0_ => ⟨List.mem_cons_of_mem _ (List.mem_append_right _ (List.mem_append_right _ (List.mem_append_right _ (List.mem_append_right _ (List.mem_append_right _ (List.mem_append_right _ (List.mem_append_right _ (List.mem_append_right _ (List.mem_append_left _ h0_))))))))), (tb_c_X12_joins w_ h0_).2⟩) (List.mem_cons_of_mem _ (List.mem_append_left _ (List.mem_of_getElem? (i := 20) rfl))) (List.mem_cons_of_mem _ (List.mem_append_left _ (List.mem_of_getElem? (i := 21) rfl))) (List.mem_cons_of_mem _ (List.mem_append_left _ (List.mem_of_getElem? (i := 22) rfl))) (List.mem_cons_of_mem _ (List.mem_append_left _ (List.mem_of_getElem? (i := 4) rfl)))) rfl rfl rfl (by decide +kernel) ⟨Nat.le_of_ble_eq_true rfl, Nat.le_of_ble_eq_true rfl⟩) ⟨fun a U g mk q => ⟨q.1, q.2.calling rfl rfl⟩, k_recv hK hI i_h0.1 k_45 (ci := 12) rfl, fun U hU hW => ⟨rfl, kIn.of hI hK hE hS hU hW⟩⟩ rfl rfl hl.1 rfl (lv_room (Nat.le_of_ble_eq_true rfl)) dX12_join_73 ⟨Nat.le_of_ble_eq_true rfl, Nat.le_of_ble_eq_true rfl⟩) hS (fun q _ h => h) (fun q h => h) (fun u t H1 locs ht hvm _ hB hz1 hk1 hS => ?_)
          obtain ⟨f_53, hI, kc_55, q1_56, k_57, z_58, z_59, z_60⟩ := hB
          rw [ht] at hI
          have k_61 : f_53 (gr g h0 7) = .inl (gc g 1, 1812, .inr (.inl im)) := Kp.at kc_55 i_4 (by decide) k_50
          have k_62 : f_53 (gr g h0 8) = .inl (gc g 3, 2, .inl kt) := Kp.at kc_55 i_5 (by decide) k_51
          have k_63 : f_53 h0 = .inr (12, [.int (0 : Int32), .int z1, .ref (gr g h0 2), .ref (gr g h0 3), .ref (gr g h0 4), .ref (gr g h0 5), .ref (gr g h0 6), .ref (gr g h0 7), .ref (gr g h0 8), .ref (gr g h0 9), .int w10_43, .ref (gr g h0 11), .int z12, .int z13, .int z14, .int z15, .long z16, .int z17, .int z18, .ref (gr g h0 19), .ref (gr g h0 20), .ref (gr g h0 21), .ref (gr g h0 22), .int z23, .long z24, .long z25, .long z26]) := Kp.at kc_55 i_h0 (by decide) k_45
          have k_64 : f_53 (gr g h0 5) = .inl (gc g 1, 9060, .inr (.inl u1_44)) := Kp.at kc_55 i_3 (by decide) k_47
          have z_58 : RowOK q1_56 := z_58
          have d_65 := rk_hd z_58
          have z_59 : (q1_56 0).toInt = (q 0).toInt := z_59
          have z_60 : (q1_56 1).toInt = (q 1).toInt := z_60
          have kp_66 := Kp.call kp_52 kc_55 (by decide)
          generalize H1 = H at hI hS ⊢
          refine W.widen (k := 0) (n := 0) (Nat.le_of_ble_eq_true rfl) (Nat.le_of_ble_eq_true rfl) ?_
          refine lv_aload_n hx hb dX12_join_76 rfl (lv_at hl 0 rfl) ?_
          refine lv_aload_n hx hb dX12_join_77 rfl (lv_at hl 0 rfl) ?_
          refine va_calll (va_runV (As := []) (rest := [.ref h0]) ⟨hx, hb, hml, hown, hts⟩ (c_X12_heavy l dC dI g A hG f_53 h0 q1_56 i_h0 k_57 z_58) (cwV 0 hts (gi_V (fun w_ h0_ => ⟨List.mem_cons_of_mem _ (List.mem_append_right _ (List.mem_append_right _ (List.mem_append_right _ (List.mem_append_right _ (List.mem_append_right _ (List.mem_append_right _ (List.mem_append_right _ (List.mem_append_right _ (List.mem_append_right _ (List.mem_append_left _ h0_)))))))))), (tb_c_X12_heavy w_ h0_).2⟩) (List.mem_cons_of_mem _ (List.mem_append_left _ (List.mem_of_getElem? (i := 23) rfl))) (List.mem_cons_of_mem _ (List.mem_append_left _ (List.mem_of_getElem? (i := 24) rfl))) (List.mem_cons_of_mem _ (List.mem_append_left _ (List.mem_of_getElem? (i := 25) rfl))) (List.mem_cons_of_mem _ (List.mem_append_left _ (List.mem_of_getElem? (i := 4) rfl)))) rfl rfl rfl (by decide +kernel) ⟨Nat.le_of_ble_eq_true rfl, Nat.le_of_ble_eq_true rfl⟩) ⟨fun a U g mk q => ⟨q.1, q.2.calling rfl rfl⟩, k_recv hK hI i_h0.1 k_63 (ci := 12) rfl, fun U hU hW => ⟨rfl, kIn.of hI hK hE hS hU hW⟩⟩ rfl rfl hl.1 rfl (lv_room (Nat.le_of_ble_eq_true rfl)) dX12_join_78 ⟨Nat.le_of_ble_eq_true rfl, Nat.le_of_ble_eq_true rfl⟩) hS (fun q _ h => h) (fun q h => h) (fun r_68 u t H1 locs ht hvm w_67 hB hz1 hk1 hS => ?_)
          have hI : Iv dC dI g A f_53 t.heap := hB
          rw [ht] at hI
          generalize H1 = H at hI hS ⊢
          refine W.widen (k := 0) (n := 0) (Nat.le_of_ble_eq_true rfl) (Nat.le_of_ble_eq_true rfl) ?_
          have w_67 : 0 ≤ r_68.toInt ∧ r_68.toInt ≤ 96 ∧ ∀ t : Nat, (t : Int) < (q1_56 0).toInt → (q1_56 (6 + 43 * t + 2)).toInt = 1 → 1 ≤ r_68.toInt := w_67
          refine lv_l2i (v := r_68.toInt32) hx hb dX12_join_81 rfl ?_
          refine lv_topi (fun v_69 ev_69 => ?_)
          have tv_69 := k_l2i r_68
          rw [← ev_69] at tv_69
          refine va_calli (va_runV (As := [.int v_69]) (rest := []) ⟨hx, hb, hml, hown, hts⟩ (c_X12_tell l dC dI g A hG f_53 h0 v_69 (0 : Int32) z1 w10_43 z12 z13 z14 z15 z16 z17 z18 z23 z24 z25 z26 i_h0 k_63 (by first | omega | (simp only [k_c0]; omega)) (by first | omega | (simp only [k_c0]; omega)) (by first | omega | (simp only [k_c0]; omega))) (cwV 1 hts (gi_V (fun w_ h0_ => ⟨List.mem_cons_of_mem _ (List.mem_append_right _ (List.mem_append_right _ (List.mem_append_right _ (List.mem_append_right _ (List.mem_append_right _ (List.mem_append_right _ (List.mem_append_right _ (List.mem_append_right _ (List.mem_append_right _ (List.mem_append_right _ (List.mem_append_left _ h0_))))))))))), (tb_c_X12_tell w_ h0_).2⟩) (List.mem_cons_of_mem _ (List.mem_append_left _ (List.mem_of_getElem? (i := 26) rfl))) (List.mem_cons_of_mem _ (List.mem_append_left _ (List.mem_of_getElem? (i := 27) rfl))) (List.mem_cons_of_mem _ (List.mem_append_left _ (List.mem_of_getElem? (i := 28) rfl))) (List.mem_cons_of_mem _ (List.mem_append_left _ (List.mem_of_getElem? (i := 4) rfl)))) rfl rfl rfl (by decide +kernel) ⟨Nat.le_of_ble_eq_true rfl, Nat.le_of_ble_eq_true rfl⟩) ⟨fun a U g mk q => ⟨q.1, q.2.calling rfl rfl⟩, k_recv hK hI i_h0.1 k_63 (ci := 12) rfl, fun U hU hW => ⟨rfl, kIn.of hI hK hE hS hU hW⟩⟩ rfl rfl hl.1 rfl (lv_room (Nat.le_of_ble_eq_true rfl)) dX12_join_82 ⟨Nat.le_of_ble_eq_true rfl, Nat.le_of_ble_eq_true rfl⟩) hS (fun q _ h => h) (fun q h => h) (fun r_72 u t H1 locs ht hvm w_71 hB hz1 hk1 hS => ?_)
          obtain ⟨f_70, hI, kc_73, k_74⟩ := hB
          rw [ht] at hI
          have k_75 : f_70 (gr g h0 7) = .inl (gc g 1, 1812, .inr (.inl im)) := Kp.at kc_73 i_4 (by decide) k_61
          have k_76 : f_70 (gr g h0 8) = .inl (gc g 3, 2, .inl kt) := Kp.at kc_73 i_5 (by decide) k_62
          have k_77 : f_70 (gr g h0 5) = .inl (gc g 1, 9060, .inr (.inl u1_44)) := Kp.at kc_73 i_3 (by decide) k_64
          have k_78 : f_70 (gr g h0 4) = .inl (gc g 1, 906, .inr (.inl q1_56)) := Kp.at kc_73 i_1 (by decide) k_57
          have k_74 : f_70 h0 = .inr (12, [.int (0 : Int32), .int 0, .ref (gr g h0 2), .ref (gr g h0 3), .ref (gr g h0 4), .ref (gr g h0 5), .ref (gr g h0 6), .ref (gr g h0 7), .ref (gr g h0 8), .ref (gr g h0 9), .int w10_43, .ref (gr g h0 11), .int z12, .int z13, .int z14, .int z15, .long z16, .int z17, .int z18, .ref (gr g h0 19), .ref (gr g h0 20), .ref (gr g h0 21), .ref (gr g h0 22), .int z23, .long z24, .long z25, .long z26]) := k_74
          have kp_79 := Kp.call kp_66 kc_73 (by decide)
          generalize H1 = H at hI hS ⊢
          refine W.widen (k := 0) (n := 0) (Nat.le_of_ble_eq_true rfl) (Nat.le_of_ble_eq_true rfl) ?_
          have w_71 : r_72.toInt = v_69.toInt := w_71
          exact W.iret (v := r_72) hx hb hr (fun t ht hW => ⟨⟨r_72, (), rfl, trivial, ⟨f_70, k_ret ht hI, kp_79, (0 : Int32), 0, w10_43, z12, z13, z14, z15, z16, z17, z18, z23, z24, z25, z26, q1_56, u1_44, im, kt, k_74, (by first | omega | decide), (by first | omega | decide), (by first | omega | decide), k_78, z_58, k_77, k_75, k_76, z_48⟩⟩, hS.F ht⟩) hS.2.2 dX12_join_85
        · have c_39 := kc_eq rfl (by decide : Int32.toInt 0 = 0) c_39
          refine lv_aload_n hx hb dX12_join_59 rfl (lv_at hl 0 rfl) ?_
          refine lv_bipush (v := (-5)) hx hb dX12_join_60 (by decide) ?_
          refine va_calli (va_runV (As := [.int (-5)]) (rest := []) ⟨hx, hb, hml, hown, hts⟩ (c_X12_refuse l dC dI g A hG f_6 h0 (-5) 0 z1 z10 z12 z13 z14 z15 z16 z17 z18 z23 z24 z25 z26 i_h0 k_9 (by first | omega | (simp only [k_c0]; omega)) (by first | omega | (simp only [k_c0]; omega)) (by first | omega | (simp only [k_c0]; omega)) (by decide)) (cwV 1 hts (gi_V (fun w_ h0_ => ⟨List.mem_cons_of_mem _ (List.mem_append_right _ (List.mem_append_right _ (List.mem_append_right _ (List.mem_append_right _ (List.mem_append_left _ h0_))))), (tb_c_X12_refuse w_ h0_).2⟩) (List.mem_cons_of_mem _ (List.mem_append_left _ (List.mem_of_getElem? (i := 8) rfl))) (List.mem_cons_of_mem _ (List.mem_append_left _ (List.mem_of_getElem? (i := 9) rfl))) (List.mem_cons_of_mem _ (List.mem_append_left _ (List.mem_of_getElem? (i := 10) rfl))) (List.mem_cons_of_mem _ (List.mem_append_left _ (List.mem_of_getElem? (i := 4) rfl)))) rfl rfl rfl (by decide +kernel) ⟨Nat.le_of_ble_eq_true rfl, Nat.le_of_ble_eq_true rfl⟩) ⟨fun a U g mk q => ⟨q.1, q.2.calling rfl rfl⟩, k_recv hK hI i_h0.1 k_9 (ci := 12) rfl, fun U hU hW => ⟨rfl, kIn.of hI hK hE hS hU hW⟩⟩ rfl rfl hl.1 rfl (lv_room (Nat.le_of_ble_eq_true rfl)) dX12_join_62 ⟨Nat.le_of_ble_eq_true rfl, Nat.le_of_ble_eq_true rfl⟩) hS (fun q _ h => h) (fun q h => h) (fun r_82 u t H1 locs ht hvm w_81 hB hz1 hk1 hS => ?_)
          obtain ⟨f_80, hI, kc_83, k_84⟩ := hB
          rw [ht] at hI
          have k_85 : f_80 (gr g h0 4) = .inl (gc g 1, 906, .inr (.inl q)) := Kp.at kc_83 i_1 (by decide) k_10
          have k_86 : f_80 (gr g h0 5) = .inl (gc g 1, 9060, .inr (.inl u)) := Kp.at kc_83 i_3 (by decide) k_11
          have k_87 : f_80 (gr g h0 7) = .inl (gc g 1, 1812, .inr (.inl im)) := Kp.at kc_83 i_4 (by decide) k_12
          have k_88 : f_80 (gr g h0 8) = .inl (gc g 3, 2, .inl kt) := Kp.at kc_83 i_5 (by decide) k_13
          have k_84 : f_80 h0 = .inr (12, [.int (0 : Int32), .int (-5 : Int32), .ref (gr g h0 2), .ref (gr g h0 3), .ref (gr g h0 4), .ref (gr g h0 5), .ref (gr g h0 6), .ref (gr g h0 7), .ref (gr g h0 8), .ref (gr g h0 9), .int z10, .ref (gr g h0 11), .int z12, .int z13, .int z14, .int z15, .long z16, .int z17, .int z18, .ref (gr g h0 19), .ref (gr g h0 20), .ref (gr g h0 21), .ref (gr g h0 22), .int z23, .long z24, .long z25, .long z26]) := k_84
          have kp_89 := Kp.call kp_8 kc_83 (by decide)
          generalize H1 = H at hI hS ⊢
          refine W.widen (k := 0) (n := 0) (Nat.le_of_ble_eq_true rfl) (Nat.le_of_ble_eq_true rfl) ?_
          have w_81 : r_82.toInt = (-5 : Int32).toInt := w_81
          have g_90 : Int32.toInt ((-5)) = (-5) := by decide
          exact W.iret (v := r_82) hx hb hr (fun t ht hW => ⟨⟨r_82, (), rfl, trivial, ⟨f_80, k_ret ht hI, kp_89, (0 : Int32), (-5 : Int32), z10, z12, z13, z14, z15, z16, z17, z18, z23, z24, z25, z26, q, u, im, kt, k_84, (by first | omega | decide), (by first | omega | decide), (by first | omega | decide), k_85, hc1_ok, k_86, k_87, k_88, hU⟩⟩, hS.F ht⟩) hS.2.2 dX12_join_65
      · have c_36 := kn_eq rfl (by decide : Int32.toInt 0 = 0) c_36
        exact J_44  _ _ _ hI hS  (lv_sub hl [0, 1] rfl)
  · have c_16 := kc_eq rfl (by decide : Int32.toInt 0 = 0) c_16
    refine lv_aload_n hx hb dX12_join_13 rfl (lv_at hl 0 rfl) ?_
    refine lv_bipush (v := (-2)) hx hb dX12_join_14 (by decide) ?_
    refine va_calli (va_runV (As := [.int (-2)]) (rest := []) ⟨hx, hb, hml, hown, hts⟩ (c_X12_refuse l dC dI g A hG f_6 h0 (-2) 0 z1 z10 z12 z13 z14 z15 z16 z17 z18 z23 z24 z25 z26 i_h0 k_9 (by first | omega | (simp only [k_c0]; omega)) (by first | omega | (simp only [k_c0]; omega)) (by first | omega | (simp only [k_c0]; omega)) (by decide)) (cwV 1 hts (gi_V (fun w_ h0_ => ⟨List.mem_cons_of_mem _ (List.mem_append_right _ (List.mem_append_right _ (List.mem_append_right _ (List.mem_append_right _ (List.mem_append_left _ h0_))))), (tb_c_X12_refuse w_ h0_).2⟩) (List.mem_cons_of_mem _ (List.mem_append_left _ (List.mem_of_getElem? (i := 8) rfl))) (List.mem_cons_of_mem _ (List.mem_append_left _ (List.mem_of_getElem? (i := 9) rfl))) (List.mem_cons_of_mem _ (List.mem_append_left _ (List.mem_of_getElem? (i := 10) rfl))) (List.mem_cons_of_mem _ (List.mem_append_left _ (List.mem_of_getElem? (i := 4) rfl)))) rfl rfl rfl (by decide +kernel) ⟨Nat.le_of_ble_eq_true rfl, Nat.le_of_ble_eq_true rfl⟩) ⟨fun a U g mk q => ⟨q.1, q.2.calling rfl rfl⟩, k_recv hK hI i_h0.1 k_9 (ci := 12) rfl, fun U hU hW => ⟨rfl, kIn.of hI hK hE hS hU hW⟩⟩ rfl rfl hl.1 rfl (lv_room (Nat.le_of_ble_eq_true rfl)) dX12_join_16 ⟨Nat.le_of_ble_eq_true rfl, Nat.le_of_ble_eq_true rfl⟩) hS (fun q _ h => h) (fun q h => h) (fun r_93 u t H1 locs ht hvm w_92 hB hz1 hk1 hS => ?_)
    obtain ⟨f_91, hI, kc_94, k_95⟩ := hB
    rw [ht] at hI
    have k_96 : f_91 (gr g h0 4) = .inl (gc g 1, 906, .inr (.inl q)) := Kp.at kc_94 i_1 (by decide) k_10
    have k_97 : f_91 (gr g h0 5) = .inl (gc g 1, 9060, .inr (.inl u)) := Kp.at kc_94 i_3 (by decide) k_11
    have k_98 : f_91 (gr g h0 7) = .inl (gc g 1, 1812, .inr (.inl im)) := Kp.at kc_94 i_4 (by decide) k_12
    have k_99 : f_91 (gr g h0 8) = .inl (gc g 3, 2, .inl kt) := Kp.at kc_94 i_5 (by decide) k_13
    have k_95 : f_91 h0 = .inr (12, [.int (0 : Int32), .int (-2 : Int32), .ref (gr g h0 2), .ref (gr g h0 3), .ref (gr g h0 4), .ref (gr g h0 5), .ref (gr g h0 6), .ref (gr g h0 7), .ref (gr g h0 8), .ref (gr g h0 9), .int z10, .ref (gr g h0 11), .int z12, .int z13, .int z14, .int z15, .long z16, .int z17, .int z18, .ref (gr g h0 19), .ref (gr g h0 20), .ref (gr g h0 21), .ref (gr g h0 22), .int z23, .long z24, .long z25, .long z26]) := k_95
    have kp_100 := Kp.call kp_8 kc_94 (by decide)
    generalize H1 = H at hI hS ⊢
    refine W.widen (k := 0) (n := 0) (Nat.le_of_ble_eq_true rfl) (Nat.le_of_ble_eq_true rfl) ?_
    have w_92 : r_93.toInt = (-2 : Int32).toInt := w_92
    have g_101 : Int32.toInt ((-2)) = (-2) := by decide
    exact W.iret (v := r_93) hx hb hr (fun t ht hW => ⟨⟨r_93, (), rfl, trivial, ⟨f_91, k_ret ht hI, kp_100, (0 : Int32), (-2 : Int32), z10, z12, z13, z14, z15, z16, z17, z18, z23, z24, z25, z26, q, u, im, kt, k_95, (by first | omega | decide), (by first | omega | decide), (by first | omega | decide), k_96, hc1_ok, k_97, k_98, k_99, hU⟩⟩, hS.F ht⟩) hS.2.2 dX12_join_19
theorem tw_968 : q_g (.code yX12_leave cX12_leave 2 (some .int)) := ⟨(List.mem_append_right _ (List.mem_of_getElem? (i := 1282) (by decide +kernel))), good_of_word (by decide +kernel)⟩
def ow_c_X12_leave : List Cond := [.fieldLink RX12 67 "DeadlineShareModel" "thrown" "I", .methodLink RX12 142 yX12_isTask, .instanceMethod yX12_isTask, .selects RX12 yX12_isTask yX12_isTask, .initialized RX12, .fieldLink RX12 16 "DeadlineShareModel" "row" "[J", .methodLink RX12 87 yX12_at, .static yX12_at, .methodLink RX12 139 yX12_remember, .instanceMethod yX12_remember, .selects RX12 yX12_remember yX12_remember, .methodLink RX12 154 yX12_leaves, .instanceMethod yX12_leaves, .selects RX12 yX12_leaves yX12_leaves, .methodLink RX12 105 yX12_heavy, .instanceMethod yX12_heavy, .selects RX12 yX12_heavy yX12_heavy, .methodLink RX12 80 yX12_tell, .instanceMethod yX12_tell, .selects RX12 yX12_tell yX12_tell, .methodLink RX12 76 yX12_refuse, .instanceMethod yX12_refuse, .selects RX12 yX12_refuse yX12_refuse]
def wq_c_X12_leave : List Cond := .code yX12_leave cX12_leave 2 (some .int) :: (ow_c_X12_leave ++ (u_ws RX12 TX12 27 ++ (wq_c_X12_isTask ++ (wq_c_X12_at ++ (wq_c_X12_remember ++ (wq_c_X12_leaves ++ (wq_c_X12_heavy ++ (wq_c_X12_tell ++ (wq_c_X12_refuse ++ ([] : List Cond))))))))))
theorem tb_c_X12_leave : ∀ w ∈ wq_c_X12_leave, q_g w := by
  unfold wq_c_X12_leave ow_c_X12_leave
  exact q_cons tw_968 (q_app (q_cons tw_927 (q_cons tw_951 (q_cons tw_950 (q_cons tw_949 (q_cons tw_728 (q_cons tw_731 (q_cons tw_734 (q_cons tw_733 (q_cons tw_963 (q_cons tw_962 (q_cons tw_961 (q_cons tw_834 (q_cons tw_833 (q_cons tw_832 (q_cons tw_752 (q_cons tw_751 (q_cons tw_750 (q_cons tw_960 (q_cons tw_959 (q_cons tw_958 (q_cons tw_966 (q_cons tw_965 (q_cons tw_964 q_nil))))))))))))))))))))))) (q_app tu_X12 (q_app tb_c_X12_isTask (q_app tb_c_X12_at (q_app tb_c_X12_remember (q_app tb_c_X12_leaves (q_app tb_c_X12_heavy (q_app tb_c_X12_tell (q_app tb_c_X12_refuse q_nil)))))))))
set_option maxHeartbeats 4000000 in
set_option maxRecDepth 100000 in
theorem c_X12_leave (l : Launch) (dC : Nat → ClassId) (dI : Nat → Nat → Nat) (g : kG) (A : Nat → Prop) (hG : kWf g) (f : Nat → va_E) (h0 : Nat) (p1 : Int32) (z0 : Int32) (z1 : Int32) (z10 : Int32) (z12 : Int32) (z13 : Int32) (z14 : Int32) (z15 : Int32) (z16 : Int64) (z17 : Int32) (z18 : Int32) (z23 : Int32) (z24 : Int64) (z25 : Int64) (z26 : Int64) (q : Nat → Int64) (u : Nat → Int64) (im : Nat → Int64) (kt : Nat → Int32) (i_h0 : ik g 12 h0) (hc0 : f h0 = .inr (12, [.int z0, .int z1, .ref (gr g h0 2), .ref (gr g h0 3), .ref (gr g h0 4), .ref (gr g h0 5), .ref (gr g h0 6), .ref (gr g h0 7), .ref (gr g h0 8), .ref (gr g h0 9), .int z10, .ref (gr g h0 11), .int z12, .int z13, .int z14, .int z15, .long z16, .int z17, .int z18, .ref (gr g h0 19), .ref (gr g h0 20), .ref (gr g h0 21), .ref (gr g h0 22), .int z23, .long z24, .long z25, .long z26])) (hc0_10 : 0 ≤ z10.toInt ∧ z10.toInt ≤ 10) (hc0_12 : 0 ≤ z12.toInt ∧ z12.toInt ≤ 200) (hc0_23 : 0 ≤ z23.toInt ∧ z23.toInt ≤ 8) (hc1 : f (gr g h0 4) = .inl (gc g 1, 906, .inr (.inl q))) (hc1_ok : RowOK q) (hc2 : f (gr g h0 5) = .inl (gc g 1, 9060, .inr (.inl u))) (hc3 : f (gr g h0 7) = .inl (gc g 1, 1812, .inr (.inl im))) (hc4 : f (gr g h0 8) = .inl (gc g 3, 2, .inl kt)) (hU : UIq z10 u im kt) : Met l yX12_leave wq_c_X12_leave ({ frames := 5, cells := 0, slots := 0, locals := 107 } : Room) (va_Pc [.ref h0, .int p1] (fun U => kIn dC dI g A f U)) (va_Qi (fun (r : Int32) (_ : Unit) => True) (fun (_ : Unit) t => ∃ f1 : Nat → va_E, Iv dC dI g A f1 t.heap ∧ Kp g [12, 30, 32, 33, 37] f f1 ∧ ∃ (w0 : Int32) (w1 : Int32) (w10 : Int32) (w12 : Int32) (w13 : Int32) (w14 : Int32) (w15 : Int32) (w16 : Int64) (w17 : Int32) (w18 : Int32) (w23 : Int32) (w24 : Int64) (w25 : Int64) (w26 : Int64) (q1 : Nat → Int64) (u1 : Nat → Int64) (im1 : Nat → Int64) (ik1 : Nat → Int32), (f1 h0 = .inr (12, [.int w0, .int w1, .ref (gr g h0 2), .ref (gr g h0 3), .ref (gr g h0 4), .ref (gr g h0 5), .ref (gr g h0 6), .ref (gr g h0 7), .ref (gr g h0 8), .ref (gr g h0 9), .int w10, .ref (gr g h0 11), .int w12, .int w13, .int w14, .int w15, .long w16, .int w17, .int w18, .ref (gr g h0 19), .ref (gr g h0 20), .ref (gr g h0 21), .ref (gr g h0 22), .int w23, .long w24, .long w25, .long w26])) ∧ (0 ≤ w10.toInt ∧ w10.toInt ≤ 10) ∧ (0 ≤ w12.toInt ∧ w12.toInt ≤ 200) ∧ (0 ≤ w23.toInt ∧ w23.toInt ≤ 8) ∧ (f1 (gr g h0 4) = .inl (gc g 1, 906, .inr (.inl q1))) ∧ (RowOK q1) ∧ (f1 (gr g h0 5) = .inl (gc g 1, 9060, .inr (.inl u1))) ∧ (f1 (gr g h0 7) = .inl (gc g 1, 1812, .inr (.inl im1))) ∧ (f1 (gr g h0 8) = .inl (gc g 3, 2, .inl ik1)) ∧ (UIq w10 u1 im1 ik1)) A) 0 0 A := by
  refine Met.ofW (cc := cX12_leave) (maxL := 2) (ret := (some .int)) (by decide) rfl ?_
  intro p e s m args below meth c s₁ B hml hv
  obtain ⟨rfl, hI, hK, hE⟩ := hv
  have hx := B.exec
  have hb := B.bytes
  have hr := B.returns
  have hts := atoms_spec (ws := wq_c_X12_leave) B.pre
  have hown : s.vm.findClass RX12 = some m.cls := findClass_of_methodNamed B.named
  have hlocks := B.notSynchronized
  have hS : va_S A s.heap s.heap [] := va_S.rf
  have hk0 : Kp g [12, 30, 32, 33, 37] f f := Kp.rf
  have hl := lv_entry ([.ref h0, .int p1]) (n := 2) (Nat.le_of_ble_eq_true rfl)
  rw [lg_entry_eq]
  generalize (lg_sl ([.ref h0, .int p1]) ++ List.replicate (2 - (lg_sl ([.ref h0, .int p1])).length) Slot.unset).toArray = ls at hl ⊢
  have hl : lv_has ls 2 [(0, .ref h0), (1, .int p1)] := hl
  have i_1 := kw_12_4 hG i_h0
  have d_2 := rk_hd hc1_ok
  have i_3 := kw_12_5 hG i_h0
  have i_4 := kw_12_7 hG i_h0
  have i_5 := kw_12_8 hG i_h0
  refine lv_aload_n hx hb dX12_leave_0 rfl (lv_at hl 0 rfl) ?_
  refine lv_iconst (v := 0) hx hb dX12_leave_1 (by decide) ?_
  refine k_put (ci := 12) (v := .int 0) (ty := .int) (C := RX12) (T := TX12) (N := 27) hx hb hts (fun _ h0_ => List.mem_cons_of_mem _ (List.mem_append_right _ (List.mem_append_left _ h0_))) tyX12 tyX12_ok nmX12 hown hK hI hS i_h0.1 hc0 rfl 0 (by decide) (hts (.fieldLink RX12 67 "DeadlineShareModel" "thrown" "I") (List.mem_cons_of_mem _ (List.mem_append_left _ (List.mem_of_getElem? (i := 0) rfl)))) (fun _ h9 => h9) rfl (by decide +kernel) rfl rfl (Nat.le_of_ble_eq_true rfl) rfl (cl_12 i_h0 (by omega) (by omega) (by omega)) dX12_leave_2 (fun f_6 H locs e_7 hI hS => ?_)
  have k_9 : f_6 h0 = .inr (12, [.int 0, .int z1, .ref (gr g h0 2), .ref (gr g h0 3), .ref (gr g h0 4), .ref (gr g h0 5), .ref (gr g h0 6), .ref (gr g h0 7), .ref (gr g h0 8), .ref (gr g h0 9), .int z10, .ref (gr g h0 11), .int z12, .int z13, .int z14, .int z15, .long z16, .int z17, .int z18, .ref (gr g h0 19), .ref (gr g h0 20), .ref (gr g h0 21), .ref (gr g h0 22), .int z23, .long z24, .long z25, .long z26]) := by rw [e_7]; exact va_up_self _ _ _
  have k_10 : f_6 (gr g h0 4) = .inl (gc g 1, 906, .inr (.inl q)) := by rw [e_7, va_up_ne _ _ (ik_ne i_1 i_h0 (by decide))]; exact hc1
  have k_11 : f_6 (gr g h0 5) = .inl (gc g 1, 9060, .inr (.inl u)) := by rw [e_7, va_up_ne _ _ (ik_ne i_3 i_h0 (by decide))]; exact hc2
  have k_12 : f_6 (gr g h0 7) = .inl (gc g 1, 1812, .inr (.inl im)) := by rw [e_7, va_up_ne _ _ (ik_ne i_4 i_h0 (by decide))]; exact hc3
  have k_13 : f_6 (gr g h0 8) = .inl (gc g 3, 2, .inl kt) := by rw [e_7, va_up_ne _ _ (ik_ne i_5 i_h0 (by decide))]; exact hc4
  have kp_8 := Kp.put hk0 i_h0 (by decide) e_7
  refine lv_aload_n hx hb dX12_leave_5 rfl (lv_at hl 0 rfl) ?_
  refine lv_iload_n hx hb dX12_leave_6 rfl (lv_at hl 1 rfl) ?_
  refine va_calli (va_runV (As := [.int p1]) (rest := []) ⟨hx, hb, hml, hown, hts⟩ (c_X12_isTask l dC dI g A hG f_6 h0 p1 q i_h0 k_10 hc1_ok) (cwV 1 hts (gi_V (fun w_ h0_ => ⟨List.mem_cons_of_mem _ (List.mem_append_right _ (List.mem_append_right _ (List.mem_append_left _ h0_))), (tb_c_X12_isTask w_ h0_).2⟩) (List.mem_cons_of_mem _ (List.mem_append_left _ (List.mem_of_getElem? (i := 1) rfl))) (List.mem_cons_of_mem _ (List.mem_append_left _ (List.mem_of_getElem? (i := 2) rfl))) (List.mem_cons_of_mem _ (List.mem_append_left _ (List.mem_of_getElem? (i := 3) rfl))) (List.mem_cons_of_mem _ (List.mem_append_left _ (List.mem_of_getElem? (i := 4) rfl)))) rfl rfl rfl (by decide +kernel) ⟨Nat.le_of_ble_eq_true rfl, Nat.le_of_ble_eq_true rfl⟩) ⟨fun a U g mk q => ⟨q.1, q.2.calling rfl rfl⟩, k_recv hK hI i_h0.1 k_9 (ci := 12) rfl, fun U hU hW => ⟨rfl, kIn.of hI hK hE hS hU hW⟩⟩ rfl rfl hl.1 rfl (lv_room (Nat.le_of_ble_eq_true rfl)) dX12_leave_7 ⟨Nat.le_of_ble_eq_true rfl, Nat.le_of_ble_eq_true rfl⟩) hS (fun q _ h => h) (fun q h => h) (fun r_15 u t H1 locs ht hvm w_14 hB hz1 hk1 hS => ?_)
  have hI : Iv dC dI g A f_6 t.heap := hB
  rw [ht] at hI
  generalize H1 = H at hI hS ⊢
  refine W.widen (k := 0) (n := 0) (Nat.le_of_ble_eq_true rfl) (Nat.le_of_ble_eq_true rfl) ?_
  have w_14 : (r_15.toInt = 0 ∨ r_15.toInt = 1) ∧ (r_15.toInt = 0 ∨ (0 ≤ p1.toInt ∧ p1.toInt < (q 0).toInt)) := w_14
  refine lv_if_ne (tgt := 20) hx hb dX12_leave_10 (by decide) (fun c_16 => ?_) (fun c_16 => ?_)
  · have c_16 := kn_eq rfl (by decide : Int32.toInt 0 = 0) c_16
    refine lv_aload_n hx hb dX12_leave_20 rfl (lv_at hl 0 rfl) ?_
    refine k_get (ci := 12) (v := .ref (gr g h0 4)) (C := RX12) (T := TX12) (N := 27) hx hb hts (fun _ h0_ => List.mem_cons_of_mem _ (List.mem_append_right _ (List.mem_append_left _ h0_))) hown hK hI i_h0.1 k_9 rfl 4 (by decide) (hts (.fieldLink RX12 16 "DeadlineShareModel" "row" "[J") (List.mem_cons_of_mem _ (List.mem_append_left _ (List.mem_of_getElem? (i := 5) rfl)))) (fun _ h9 => h9) rfl dX12_leave_21 ?_
    obtain ⟨m_19, em_19, tm_19⟩ := k_nat (x := p1) (by omega)
    refine lv_iload_n hx hb dX12_leave_24 rfl (lv_at hl 1 rfl) ?_
    refine k_topi (y := nI m_19) em_19 ?_
    refine va_calli (va_runS (As := [.int (nI m_19)]) (rest := [.ref (gr g h0 4)]) ⟨hx, hb, hml, hown, hts⟩ (c_X12_at l dC dI g A hG f_6 m_19) (va_cwS 1 hts (gi_S (fun w_ h0_ => ⟨List.mem_cons_of_mem _ (List.mem_append_right _ (List.mem_append_right _ (List.mem_append_right _ (List.mem_append_left _ h0_)))), (tb_c_X12_at w_ h0_).2⟩) (List.mem_cons_of_mem _ (List.mem_append_left _ (List.mem_of_getElem? (i := 6) rfl))) (List.mem_cons_of_mem _ (List.mem_append_left _ (List.mem_of_getElem? (i := 7) rfl))) (List.mem_cons_of_mem _ (List.mem_append_left _ (List.mem_of_getElem? (i := 4) rfl)))) rfl rfl rfl (by decide +kernel) ⟨Nat.le_of_ble_eq_true rfl, Nat.le_of_ble_eq_true rfl⟩) ⟨fun a U g mk q => ⟨q.1, q.2.calling rfl rfl⟩, fun U hU hW => ⟨rfl, kIn.of hI hK hE hS hU hW⟩⟩ rfl rfl hl.1 rfl (lv_room (Nat.le_of_ble_eq_true rfl)) dX12_leave_25 ⟨Nat.le_of_ble_eq_true rfl, Nat.le_of_ble_eq_true rfl⟩) hS (fun q _ h => h) (fun q h => h) (fun r_21 u t H1 locs ht hvm w_20 hB hz1 hk1 hS => ?_)
    have hI : Iv dC dI g A f_6 t.heap := hB
    rw [ht] at hI
    generalize H1 = H at hI hS ⊢
    refine W.widen (k := 0) (n := 0) (Nat.le_of_ble_eq_true rfl) (Nat.le_of_ble_eq_true rfl) ?_
    have w_20 : r_21 = nI (6 + 43 * m_19) := w_20
    refine k_topi (y := nI (6 + 43 * m_19)) w_20 ?_
    refine lv_iconst (v := 2) hx hb dX12_leave_28 (by decide) ?_
    refine lv_iadd hx hb dX12_leave_29 ?_
    refine k_topi (y := nI (6 + 43 * m_19 + 2)) ((nI_add (6 + 43 * m_19) 2).trans (congrArg nI (by omega))) ?_
    refine k_lald hx hb hK hI i_1.1 1 k_10 rfl (vp_in_nI (by omega) (by omega)) dX12_leave_30 ?_
    refine k_topl (y := q (6 + 43 * m_19 + 2)) (congrArg q (nI_clamp (by omega))) ?_
    refine lv_lconst (v := 0) hx hb dX12_leave_31 (by decide) ?_
    refine W.lcmp hx hb dX12_leave_32 ?_
    refine lv_if_ne (tgt := 43) hx hb dX12_leave_33 (by decide) (fun c_22 => ?_) (fun c_22 => ?_)
    · have c_22 := ln_eq rfl (by decide : Int64.toInt 0 = 0) (fun h9 => c_22 ((lg_cmp_eq _ _).mpr h9))
      refine lv_aload_n hx hb dX12_leave_43 rfl (lv_at hl 0 rfl) ?_
      refine lv_iconst (v := 2) hx hb dX12_leave_44 (by decide) ?_
      refine va_callv (va_runV (As := [.int 2]) (rest := []) ⟨hx, hb, hml, hown, hts⟩ (c_X12_remember l dC dI g A hG f_6 h0 2 0 z1 z10 z12 z13 z14 z15 z16 z17 z18 z23 z24 z25 z26 q u im kt i_h0 k_9 (by first | omega | (simp only [k_c0]; omega)) (by first | omega | (simp only [k_c0]; omega)) (by first | omega | (simp only [k_c0]; omega)) k_10 hc1_ok k_11 k_12 k_13 (by decide)) (cwV 1 hts (gi_V (fun w_ h0_ => ⟨List.mem_cons_of_mem _ (List.mem_append_right _ (List.mem_append_right _ (List.mem_append_right _ (List.mem_append_right _ (List.mem_append_left _ h0_))))), (tb_c_X12_remember w_ h0_).2⟩) (List.mem_cons_of_mem _ (List.mem_append_left _ (List.mem_of_getElem? (i := 8) rfl))) (List.mem_cons_of_mem _ (List.mem_append_left _ (List.mem_of_getElem? (i := 9) rfl))) (List.mem_cons_of_mem _ (List.mem_append_left _ (List.mem_of_getElem? (i := 10) rfl))) (List.mem_cons_of_mem _ (List.mem_append_left _ (List.mem_of_getElem? (i := 4) rfl)))) rfl rfl rfl (by decide +kernel) ⟨Nat.le_of_ble_eq_true rfl, Nat.le_of_ble_eq_true rfl⟩) ⟨fun a U g mk q => ⟨q.1, q.2.calling rfl rfl⟩, k_recv hK hI i_h0.1 k_9 (ci := 12) rfl, fun U hU hW => ⟨rfl, kIn.of hI hK hE hS hU hW⟩⟩ rfl rfl hl.1 rfl (lv_room (Nat.le_of_ble_eq_true rfl)) dX12_leave_45 ⟨Nat.le_of_ble_eq_true rfl, Nat.le_of_ble_eq_true rfl⟩) hS (fun q _ h => h) (fun q h => h) (fun u t H1 locs ht hvm _ hB hz1 hk1 hS => ?_)
      obtain ⟨f_23, hI, kc_25, w10_26, u1_27, k_28, z_29, k_30, z_31⟩ := hB
      rw [ht] at hI
      have k_32 : f_23 (gr g h0 4) = .inl (gc g 1, 906, .inr (.inl q)) := Kp.at kc_25 i_1 (by decide) k_10
      have k_33 : f_23 (gr g h0 7) = .inl (gc g 1, 1812, .inr (.inl im)) := Kp.at kc_25 i_4 (by decide) k_12
      have k_34 : f_23 (gr g h0 8) = .inl (gc g 3, 2, .inl kt) := Kp.at kc_25 i_5 (by decide) k_13
      have k_28 : f_23 h0 = .inr (12, [.int (0 : Int32), .int z1, .ref (gr g h0 2), .ref (gr g h0 3), .ref (gr g h0 4), .ref (gr g h0 5), .ref (gr g h0 6), .ref (gr g h0 7), .ref (gr g h0 8), .ref (gr g h0 9), .int w10_26, .ref (gr g h0 11), .int z12, .int z13, .int z14, .int z15, .long z16, .int z17, .int z18, .ref (gr g h0 19), .ref (gr g h0 20), .ref (gr g h0 21), .ref (gr g h0 22), .int z23, .long z24, .long z25, .long z26]) := k_28
      have z_29 : 0 ≤ w10_26.toInt ∧ w10_26.toInt ≤ 10 := z_29
      have z_31 : UIq w10_26 u1_27 im kt := z_31
      have kp_35 := Kp.call kp_8 kc_25 (by decide)
      generalize H1 = H at hI hS ⊢
      refine W.widen (k := 0) (n := 0) (Nat.le_of_ble_eq_true rfl) (Nat.le_of_ble_eq_true rfl) ?_
      refine lv_aload_n hx hb dX12_leave_48 rfl (lv_at hl 0 rfl) ?_
      refine lv_iload_n hx hb dX12_leave_49 rfl (lv_at hl 1 rfl) ?_
      refine k_topi (y := nI m_19) em_19 ?_
      refine va_callv (va_runV (As := [.int (nI m_19)]) (rest := []) ⟨hx, hb, hml, hown, hts⟩ (c_X12_leaves l dC dI g A hG f_23 h0 m_19 q i_h0 k_32 hc1_ok (by first | omega | decide | (simp only [k_c0, k_c1, k_cm1]; omega))) (cwV 1 hts (gi_V (fun w_ h0_ => ⟨List.mem_cons_of_mem _ (List.mem_append_right _ (List.mem_append_right _ (List.mem_append_right _ (List.mem_append_right _ (List.mem_append_right _ (List.mem_append_left _ h0_)))))), (tb_c_X12_leaves w_ h0_).2⟩) (List.mem_cons_of_mem _ (List.mem_append_left _ (List.mem_of_getElem? (i := 11) rfl))) (List.mem_cons_of_mem _ (List.mem_append_left _ (List.mem_of_getElem? (i := 12) rfl))) (List.mem_cons_of_mem _ (List.mem_append_left _ (List.mem_of_getElem? (i := 13) rfl))) (List.mem_cons_of_mem _ (List.mem_append_left _ (List.mem_of_getElem? (i := 4) rfl)))) rfl rfl rfl (by decide +kernel) ⟨Nat.le_of_ble_eq_true rfl, Nat.le_of_ble_eq_true rfl⟩) ⟨fun a U g mk q => ⟨q.1, q.2.calling rfl rfl⟩, k_recv hK hI i_h0.1 k_28 (ci := 12) rfl, fun U hU hW => ⟨rfl, kIn.of hI hK hE hS hU hW⟩⟩ rfl rfl hl.1 rfl (lv_room (Nat.le_of_ble_eq_true rfl)) dX12_leave_50 ⟨Nat.le_of_ble_eq_true rfl, Nat.le_of_ble_eq_true rfl⟩) hS (fun q _ h => h) (fun q h => h) (fun u t H1 locs ht hvm _ hB hz1 hk1 hS => ?_)
      obtain ⟨f_36, hI, kc_38, q1_39, k_40, z_41, z_42, z_43⟩ := hB
      rw [ht] at hI
      have k_44 : f_36 (gr g h0 7) = .inl (gc g 1, 1812, .inr (.inl im)) := Kp.at kc_38 i_4 (by decide) k_33
      have k_45 : f_36 (gr g h0 8) = .inl (gc g 3, 2, .inl kt) := Kp.at kc_38 i_5 (by decide) k_34
      have k_46 : f_36 h0 = .inr (12, [.int (0 : Int32), .int z1, .ref (gr g h0 2), .ref (gr g h0 3), .ref (gr g h0 4), .ref (gr g h0 5), .ref (gr g h0 6), .ref (gr g h0 7), .ref (gr g h0 8), .ref (gr g h0 9), .int w10_26, .ref (gr g h0 11), .int z12, .int z13, .int z14, .int z15, .long z16, .int z17, .int z18, .ref (gr g h0 19), .ref (gr g h0 20), .ref (gr g h0 21), .ref (gr g h0 22), .int z23, .long z24, .long z25, .long z26]) := Kp.at kc_38 i_h0 (by decide) k_28
      have k_47 : f_36 (gr g h0 5) = .inl (gc g 1, 9060, .inr (.inl u1_27)) := Kp.at kc_38 i_3 (by decide) k_30
      have z_41 : RowOK q1_39 := z_41
      have d_48 := rk_hd z_41
      have z_42 : (q1_39 0).toInt = (q 0).toInt := z_42
      have z_43 : (q1_39 1).toInt = (q 1).toInt := z_43
      have kp_49 := Kp.call kp_35 kc_38 (by decide)
      generalize H1 = H at hI hS ⊢
      refine W.widen (k := 0) (n := 0) (Nat.le_of_ble_eq_true rfl) (Nat.le_of_ble_eq_true rfl) ?_
      refine lv_aload_n hx hb dX12_leave_53 rfl (lv_at hl 0 rfl) ?_
      refine k_get (ci := 12) (v := .ref (gr g h0 4)) (C := RX12) (T := TX12) (N := 27) hx hb hts (fun _ h0_ => List.mem_cons_of_mem _ (List.mem_append_right _ (List.mem_append_left _ h0_))) hown hK hI i_h0.1 k_46 rfl 4 (by decide) (hts (.fieldLink RX12 16 "DeadlineShareModel" "row" "[J") (List.mem_cons_of_mem _ (List.mem_append_left _ (List.mem_of_getElem? (i := 5) rfl)))) (fun _ h9 => h9) rfl dX12_leave_54 ?_
      refine lv_iload_n hx hb dX12_leave_57 rfl (lv_at hl 1 rfl) ?_
      refine k_topi (y := nI m_19) em_19 ?_
      refine va_calli (va_runS (As := [.int (nI m_19)]) (rest := [.ref (gr g h0 4)]) ⟨hx, hb, hml, hown, hts⟩ (c_X12_at l dC dI g A hG f_36 m_19) (va_cwS 1 hts (gi_S (fun w_ h0_ => ⟨List.mem_cons_of_mem _ (List.mem_append_right _ (List.mem_append_right _ (List.mem_append_right _ (List.mem_append_left _ h0_)))), (tb_c_X12_at w_ h0_).2⟩) (List.mem_cons_of_mem _ (List.mem_append_left _ (List.mem_of_getElem? (i := 6) rfl))) (List.mem_cons_of_mem _ (List.mem_append_left _ (List.mem_of_getElem? (i := 7) rfl))) (List.mem_cons_of_mem _ (List.mem_append_left _ (List.mem_of_getElem? (i := 4) rfl)))) rfl rfl rfl (by decide +kernel) ⟨Nat.le_of_ble_eq_true rfl, Nat.le_of_ble_eq_true rfl⟩) ⟨fun a U g mk q => ⟨q.1, q.2.calling rfl rfl⟩, fun U hU hW => ⟨rfl, kIn.of hI hK hE hS hU hW⟩⟩ rfl rfl hl.1 rfl (lv_room (Nat.le_of_ble_eq_true rfl)) dX12_leave_58 ⟨Nat.le_of_ble_eq_true rfl, Nat.le_of_ble_eq_true rfl⟩) hS (fun q _ h => h) (fun q h => h) (fun r_53 u t H1 locs ht hvm w_52 hB hz1 hk1 hS => ?_)
      have hI : Iv dC dI g A f_36 t.heap := hB
      rw [ht] at hI
      generalize H1 = H at hI hS ⊢
      refine W.widen (k := 0) (n := 0) (Nat.le_of_ble_eq_true rfl) (Nat.le_of_ble_eq_true rfl) ?_
      have w_52 : r_53 = nI (6 + 43 * m_19) := w_52
      refine k_topi (y := nI (6 + 43 * m_19)) w_52 ?_
      refine lv_bipush (v := 13) hx hb dX12_leave_61 (by decide) ?_
      refine lv_iadd hx hb dX12_leave_63 ?_
      refine k_topi (y := nI (6 + 43 * m_19 + 13)) ((nI_add (6 + 43 * m_19) 13).trans (congrArg nI (by omega))) ?_
      refine lv_lconst (v := 0) hx hb dX12_leave_64 (by decide) ?_
      refine k_last hx hb hK hI hS i_1.1 1 k_40 rfl (vp_in_nI (by omega) (by omega)) (cl_32 i_1) dX12_leave_65 (fun f_54 H locs e_55 hI hS => ?_)
      generalize eq_56 : vp_updL q1_39 (Int32.toNatClampNeg (nI (6 + 43 * m_19 + 13))) 0 = q_56 at e_55
      have k_58 : f_54 (gr g h0 7) = .inl (gc g 1, 1812, .inr (.inl im)) := by rw [e_55, va_up_ne _ _ (ik_ne i_4 i_1 (by decide))]; exact k_44
      have k_59 : f_54 (gr g h0 8) = .inl (gc g 3, 2, .inl kt) := by rw [e_55, va_up_ne _ _ (ik_ne i_5 i_1 (by decide))]; exact k_45
      have k_60 : f_54 h0 = .inr (12, [.int (0 : Int32), .int z1, .ref (gr g h0 2), .ref (gr g h0 3), .ref (gr g h0 4), .ref (gr g h0 5), .ref (gr g h0 6), .ref (gr g h0 7), .ref (gr g h0 8), .ref (gr g h0 9), .int w10_26, .ref (gr g h0 11), .int z12, .int z13, .int z14, .int z15, .long z16, .int z17, .int z18, .ref (gr g h0 19), .ref (gr g h0 20), .ref (gr g h0 21), .ref (gr g h0 22), .int z23, .long z24, .long z25, .long z26]) := by rw [e_55, va_up_ne _ _ (ik_ne i_h0 i_1 (by decide))]; exact k_46
      have k_61 : f_54 (gr g h0 5) = .inl (gc g 1, 9060, .inr (.inl u1_27)) := by rw [e_55, va_up_ne _ _ (ik_ne i_3 i_1 (by decide))]; exact k_47
      have k_62 : f_54 (gr g h0 4) = .inl (gc g 1, 906, .inr (.inl q_56)) := by rw [e_55]; exact va_up_self _ _ _
      have kp_57 := Kp.put kp_49 i_1 (by decide) e_55
      have u_63 : vp_updL q1_39 (6 + 43 * m_19 + 13) 0 = q_56 := by rw [← eq_56, show Int32.toNatClampNeg (nI (6 + 43 * m_19 + 13)) = 6 + 43 * m_19 + 13 from (nI_clamp (by omega))]
      have ok_64 : RowOK q_56 := by rw [← u_63]; exact rk_upd z_41 (by rw [show Int64.toInt 0 = 0 from by decide]; refine ⟨⟨by omega, by omega, by omega, by omega, by omega⟩, fun t9 ht9 => ⟨by omega, by omega, by omega, by omega, by omega, by omega⟩, fun t9 k9 ht9 hk9 => ⟨by omega, by omega, by omega⟩, by omega⟩)
      have d_65 := rk_hd ok_64
      have n_66 : (q_56 0).toInt = (q1_39 0).toInt := by rw [← u_63, pk_uLn (by omega)]
      have n_67 : (q_56 1).toInt = (q1_39 1).toInt := by rw [← u_63, pk_uLn (by omega)]
      have n_68 : (q_56 3).toInt = (q1_39 3).toInt := by rw [← u_63, pk_uLn (by omega)]
      have n_69 : (q_56 4).toInt = (q1_39 4).toInt := by rw [← u_63, pk_uLn (by omega)]
      have n_70 : (q_56 5).toInt = (q1_39 5).toInt := by rw [← u_63, pk_uLn (by omega)]
      refine lv_aload_n hx hb dX12_leave_66 rfl (lv_at hl 0 rfl) ?_
      refine lv_aload_n hx hb dX12_leave_67 rfl (lv_at hl 0 rfl) ?_
      refine va_calll (va_runV (As := []) (rest := [.ref h0]) ⟨hx, hb, hml, hown, hts⟩ (c_X12_heavy l dC dI g A hG f_54 h0 q_56 i_h0 k_62 ok_64) (cwV 0 hts (gi_V (fun w_ h0_ => ⟨List.mem_cons_of_mem _ (List.mem_append_right _ (List.mem_append_right _ (List.mem_append_right _ (List.mem_append_right _ (List.mem_append_right _ (List.mem_append_right _ (List.mem_append_left _ h0_))))))), (tb_c_X12_heavy w_ h0_).2⟩) (List.mem_cons_of_mem _ (List.mem_append_left _ (List.mem_of_getElem? (i := 14) rfl))) (List.mem_cons_of_mem _ (List.mem_append_left _ (List.mem_of_getElem? (i := 15) rfl))) (List.mem_cons_of_mem _ (List.mem_append_left _ (List.mem_of_getElem? (i := 16) rfl))) (List.mem_cons_of_mem _ (List.mem_append_left _ (List.mem_of_getElem? (i := 4) rfl)))) rfl rfl rfl (by decide +kernel) ⟨Nat.le_of_ble_eq_true rfl, Nat.le_of_ble_eq_true rfl⟩) ⟨fun a U g mk q => ⟨q.1, q.2.calling rfl rfl⟩, k_recv hK hI i_h0.1 k_60 (ci := 12) rfl, fun U hU hW => ⟨rfl, kIn.of hI hK hE hS hU hW⟩⟩ rfl rfl hl.1 rfl (lv_room (Nat.le_of_ble_eq_true rfl)) dX12_leave_68 ⟨Nat.le_of_ble_eq_true rfl, Nat.le_of_ble_eq_true rfl⟩) hS (fun q _ h => h) (fun q h => h) (fun r_72 u t H1 locs ht hvm w_71 hB hz1 hk1 hS => ?_)
      have hI : Iv dC dI g A f_54 t.heap := hB
      rw [ht] at hI
      generalize H1 = H at hI hS ⊢
      refine W.widen (k := 0) (n := 0) (Nat.le_of_ble_eq_true rfl) (Nat.le_of_ble_eq_true rfl) ?_
      have w_71 : 0 ≤ r_72.toInt ∧ r_72.toInt ≤ 96 ∧ ∀ t : Nat, (t : Int) < (q_56 0).toInt → (q_56 (6 + 43 * t + 2)).toInt = 1 → 1 ≤ r_72.toInt := w_71
      refine lv_l2i (v := r_72.toInt32) hx hb dX12_leave_71 rfl ?_
      refine lv_topi (fun v_73 ev_73 => ?_)
      have tv_73 := k_l2i r_72
      rw [← ev_73] at tv_73
      refine va_calli (va_runV (As := [.int v_73]) (rest := []) ⟨hx, hb, hml, hown, hts⟩ (c_X12_tell l dC dI g A hG f_54 h0 v_73 (0 : Int32) z1 w10_26 z12 z13 z14 z15 z16 z17 z18 z23 z24 z25 z26 i_h0 k_60 (by first | omega | (simp only [k_c0]; omega)) (by first | omega | (simp only [k_c0]; omega)) (by first | omega | (simp only [k_c0]; omega))) (cwV 1 hts (gi_V (fun w_ h0_ => ⟨List.mem_cons_of_mem _ (List.mem_append_right _ (List.mem_append_right _ (List.mem_append_right _ (List.mem_append_right _ (List.mem_append_right _ (List.mem_append_right _ (List.mem_append_right _ (List.mem_append_left _ h0_)))))))), (tb_c_X12_tell w_ h0_).2⟩) (List.mem_cons_of_mem _ (List.mem_append_left _ (List.mem_of_getElem? (i := 17) rfl))) (List.mem_cons_of_mem _ (List.mem_append_left _ (List.mem_of_getElem? (i := 18) rfl))) (List.mem_cons_of_mem _ (List.mem_append_left _ (List.mem_of_getElem? (i := 19) rfl))) (List.mem_cons_of_mem _ (List.mem_append_left _ (List.mem_of_getElem? (i := 4) rfl)))) rfl rfl rfl (by decide +kernel) ⟨Nat.le_of_ble_eq_true rfl, Nat.le_of_ble_eq_true rfl⟩) ⟨fun a U g mk q => ⟨q.1, q.2.calling rfl rfl⟩, k_recv hK hI i_h0.1 k_60 (ci := 12) rfl, fun U hU hW => ⟨rfl, kIn.of hI hK hE hS hU hW⟩⟩ rfl rfl hl.1 rfl (lv_room (Nat.le_of_ble_eq_true rfl)) dX12_leave_72 ⟨Nat.le_of_ble_eq_true rfl, Nat.le_of_ble_eq_true rfl⟩) hS (fun q _ h => h) (fun q h => h) (fun r_76 u t H1 locs ht hvm w_75 hB hz1 hk1 hS => ?_)
      obtain ⟨f_74, hI, kc_77, k_78⟩ := hB
      rw [ht] at hI
      have k_79 : f_74 (gr g h0 7) = .inl (gc g 1, 1812, .inr (.inl im)) := Kp.at kc_77 i_4 (by decide) k_58
      have k_80 : f_74 (gr g h0 8) = .inl (gc g 3, 2, .inl kt) := Kp.at kc_77 i_5 (by decide) k_59
      have k_81 : f_74 (gr g h0 5) = .inl (gc g 1, 9060, .inr (.inl u1_27)) := Kp.at kc_77 i_3 (by decide) k_61
      have k_82 : f_74 (gr g h0 4) = .inl (gc g 1, 906, .inr (.inl q_56)) := Kp.at kc_77 i_1 (by decide) k_62
      have k_78 : f_74 h0 = .inr (12, [.int (0 : Int32), .int 0, .ref (gr g h0 2), .ref (gr g h0 3), .ref (gr g h0 4), .ref (gr g h0 5), .ref (gr g h0 6), .ref (gr g h0 7), .ref (gr g h0 8), .ref (gr g h0 9), .int w10_26, .ref (gr g h0 11), .int z12, .int z13, .int z14, .int z15, .long z16, .int z17, .int z18, .ref (gr g h0 19), .ref (gr g h0 20), .ref (gr g h0 21), .ref (gr g h0 22), .int z23, .long z24, .long z25, .long z26]) := k_78
      have kp_83 := Kp.call kp_57 kc_77 (by decide)
      generalize H1 = H at hI hS ⊢
      refine W.widen (k := 0) (n := 0) (Nat.le_of_ble_eq_true rfl) (Nat.le_of_ble_eq_true rfl) ?_
      have w_75 : r_76.toInt = v_73.toInt := w_75
      exact W.iret (v := r_76) hx hb hr (fun t ht hW => ⟨⟨r_76, (), rfl, trivial, ⟨f_74, k_ret ht hI, kp_83, (0 : Int32), 0, w10_26, z12, z13, z14, z15, z16, z17, z18, z23, z24, z25, z26, q_56, u1_27, im, kt, k_78, (by first | omega | decide), (by first | omega | decide), (by first | omega | decide), k_82, ok_64, k_81, k_79, k_80, z_31⟩⟩, hS.F ht⟩) hS.2.2 dX12_leave_75
    · have c_22 := lc_eq rfl (by decide : Int64.toInt 0 = 0) ((lg_cmp_eq _ _).mp c_22)
      refine lv_aload_n hx hb dX12_leave_36 rfl (lv_at hl 0 rfl) ?_
      refine lv_bipush (v := (-4)) hx hb dX12_leave_37 (by decide) ?_
      refine va_calli (va_runV (As := [.int (-4)]) (rest := []) ⟨hx, hb, hml, hown, hts⟩ (c_X12_refuse l dC dI g A hG f_6 h0 (-4) 0 z1 z10 z12 z13 z14 z15 z16 z17 z18 z23 z24 z25 z26 i_h0 k_9 (by first | omega | (simp only [k_c0]; omega)) (by first | omega | (simp only [k_c0]; omega)) (by first | omega | (simp only [k_c0]; omega)) (by decide)) (cwV 1 hts (gi_V (fun w_ h0_ => ⟨List.mem_cons_of_mem _ (List.mem_append_right _ (List.mem_append_right _ (List.mem_append_right _ (List.mem_append_right _ (List.mem_append_right _ (List.mem_append_right _ (List.mem_append_right _ (List.mem_append_right _ (List.mem_append_left _ h0_))))))))), (tb_c_X12_refuse w_ h0_).2⟩) (List.mem_cons_of_mem _ (List.mem_append_left _ (List.mem_of_getElem? (i := 20) rfl))) (List.mem_cons_of_mem _ (List.mem_append_left _ (List.mem_of_getElem? (i := 21) rfl))) (List.mem_cons_of_mem _ (List.mem_append_left _ (List.mem_of_getElem? (i := 22) rfl))) (List.mem_cons_of_mem _ (List.mem_append_left _ (List.mem_of_getElem? (i := 4) rfl)))) rfl rfl rfl (by decide +kernel) ⟨Nat.le_of_ble_eq_true rfl, Nat.le_of_ble_eq_true rfl⟩) ⟨fun a U g mk q => ⟨q.1, q.2.calling rfl rfl⟩, k_recv hK hI i_h0.1 k_9 (ci := 12) rfl, fun U hU hW => ⟨rfl, kIn.of hI hK hE hS hU hW⟩⟩ rfl rfl hl.1 rfl (lv_room (Nat.le_of_ble_eq_true rfl)) dX12_leave_39 ⟨Nat.le_of_ble_eq_true rfl, Nat.le_of_ble_eq_true rfl⟩) hS (fun q _ h => h) (fun q h => h) (fun r_86 u t H1 locs ht hvm w_85 hB hz1 hk1 hS => ?_)
      obtain ⟨f_84, hI, kc_87, k_88⟩ := hB
      rw [ht] at hI
      have k_89 : f_84 (gr g h0 4) = .inl (gc g 1, 906, .inr (.inl q)) := Kp.at kc_87 i_1 (by decide) k_10
      have k_90 : f_84 (gr g h0 5) = .inl (gc g 1, 9060, .inr (.inl u)) := Kp.at kc_87 i_3 (by decide) k_11
      have k_91 : f_84 (gr g h0 7) = .inl (gc g 1, 1812, .inr (.inl im)) := Kp.at kc_87 i_4 (by decide) k_12
      have k_92 : f_84 (gr g h0 8) = .inl (gc g 3, 2, .inl kt) := Kp.at kc_87 i_5 (by decide) k_13
      have k_88 : f_84 h0 = .inr (12, [.int (0 : Int32), .int (-4 : Int32), .ref (gr g h0 2), .ref (gr g h0 3), .ref (gr g h0 4), .ref (gr g h0 5), .ref (gr g h0 6), .ref (gr g h0 7), .ref (gr g h0 8), .ref (gr g h0 9), .int z10, .ref (gr g h0 11), .int z12, .int z13, .int z14, .int z15, .long z16, .int z17, .int z18, .ref (gr g h0 19), .ref (gr g h0 20), .ref (gr g h0 21), .ref (gr g h0 22), .int z23, .long z24, .long z25, .long z26]) := k_88
      have kp_93 := Kp.call kp_8 kc_87 (by decide)
      generalize H1 = H at hI hS ⊢
      refine W.widen (k := 0) (n := 0) (Nat.le_of_ble_eq_true rfl) (Nat.le_of_ble_eq_true rfl) ?_
      have w_85 : r_86.toInt = (-4 : Int32).toInt := w_85
      have g_94 : Int32.toInt ((-4)) = (-4) := by decide
      exact W.iret (v := r_86) hx hb hr (fun t ht hW => ⟨⟨r_86, (), rfl, trivial, ⟨f_84, k_ret ht hI, kp_93, (0 : Int32), (-4 : Int32), z10, z12, z13, z14, z15, z16, z17, z18, z23, z24, z25, z26, q, u, im, kt, k_88, (by first | omega | decide), (by first | omega | decide), (by first | omega | decide), k_89, hc1_ok, k_90, k_91, k_92, hU⟩⟩, hS.F ht⟩) hS.2.2 dX12_leave_42
  · have c_16 := kc_eq rfl (by decide : Int32.toInt 0 = 0) c_16
    refine lv_aload_n hx hb dX12_leave_13 rfl (lv_at hl 0 rfl) ?_
    refine lv_bipush (v := (-2)) hx hb dX12_leave_14 (by decide) ?_
    refine va_calli (va_runV (As := [.int (-2)]) (rest := []) ⟨hx, hb, hml, hown, hts⟩ (c_X12_refuse l dC dI g A hG f_6 h0 (-2) 0 z1 z10 z12 z13 z14 z15 z16 z17 z18 z23 z24 z25 z26 i_h0 k_9 (by first | omega | (simp only [k_c0]; omega)) (by first | omega | (simp only [k_c0]; omega)) (by first | omega | (simp only [k_c0]; omega)) (by decide)) (cwV 1 hts (gi_V (fun w_ h0_ => ⟨List.mem_cons_of_mem _ (List.mem_append_right _ (List.mem_append_right _ (List.mem_append_right _ (List.mem_append_right _ (List.mem_append_right _ (List.mem_append_right _ (List.mem_append_right _ (List.mem_append_right _ (List.mem_append_left _ h0_))))))))), (tb_c_X12_refuse w_ h0_).2⟩) (List.mem_cons_of_mem _ (List.mem_append_left _ (List.mem_of_getElem? (i := 20) rfl))) (List.mem_cons_of_mem _ (List.mem_append_left _ (List.mem_of_getElem? (i := 21) rfl))) (List.mem_cons_of_mem _ (List.mem_append_left _ (List.mem_of_getElem? (i := 22) rfl))) (List.mem_cons_of_mem _ (List.mem_append_left _ (List.mem_of_getElem? (i := 4) rfl)))) rfl rfl rfl (by decide +kernel) ⟨Nat.le_of_ble_eq_true rfl, Nat.le_of_ble_eq_true rfl⟩) ⟨fun a U g mk q => ⟨q.1, q.2.calling rfl rfl⟩, k_recv hK hI i_h0.1 k_9 (ci := 12) rfl, fun U hU hW => ⟨rfl, kIn.of hI hK hE hS hU hW⟩⟩ rfl rfl hl.1 rfl (lv_room (Nat.le_of_ble_eq_true rfl)) dX12_leave_16 ⟨Nat.le_of_ble_eq_true rfl, Nat.le_of_ble_eq_true rfl⟩) hS (fun q _ h => h) (fun q h => h) (fun r_97 u t H1 locs ht hvm w_96 hB hz1 hk1 hS => ?_)
    obtain ⟨f_95, hI, kc_98, k_99⟩ := hB
    rw [ht] at hI
    have k_100 : f_95 (gr g h0 4) = .inl (gc g 1, 906, .inr (.inl q)) := Kp.at kc_98 i_1 (by decide) k_10
    have k_101 : f_95 (gr g h0 5) = .inl (gc g 1, 9060, .inr (.inl u)) := Kp.at kc_98 i_3 (by decide) k_11
    have k_102 : f_95 (gr g h0 7) = .inl (gc g 1, 1812, .inr (.inl im)) := Kp.at kc_98 i_4 (by decide) k_12
    have k_103 : f_95 (gr g h0 8) = .inl (gc g 3, 2, .inl kt) := Kp.at kc_98 i_5 (by decide) k_13
    have k_99 : f_95 h0 = .inr (12, [.int (0 : Int32), .int (-2 : Int32), .ref (gr g h0 2), .ref (gr g h0 3), .ref (gr g h0 4), .ref (gr g h0 5), .ref (gr g h0 6), .ref (gr g h0 7), .ref (gr g h0 8), .ref (gr g h0 9), .int z10, .ref (gr g h0 11), .int z12, .int z13, .int z14, .int z15, .long z16, .int z17, .int z18, .ref (gr g h0 19), .ref (gr g h0 20), .ref (gr g h0 21), .ref (gr g h0 22), .int z23, .long z24, .long z25, .long z26]) := k_99
    have kp_104 := Kp.call kp_8 kc_98 (by decide)
    generalize H1 = H at hI hS ⊢
    refine W.widen (k := 0) (n := 0) (Nat.le_of_ble_eq_true rfl) (Nat.le_of_ble_eq_true rfl) ?_
    have w_96 : r_97.toInt = (-2 : Int32).toInt := w_96
    have g_105 : Int32.toInt ((-2)) = (-2) := by decide
    exact W.iret (v := r_97) hx hb hr (fun t ht hW => ⟨⟨r_97, (), rfl, trivial, ⟨f_95, k_ret ht hI, kp_104, (0 : Int32), (-2 : Int32), z10, z12, z13, z14, z15, z16, z17, z18, z23, z24, z25, z26, q, u, im, kt, k_99, (by first | omega | decide), (by first | omega | decide), (by first | omega | decide), k_100, hc1_ok, k_101, k_102, k_103, hU⟩⟩, hS.F ht⟩) hS.2.2 dX12_leave_19
theorem tw_969 : q_g (.code yX12_weigh cX12_weigh 4 (some .int)) := ⟨(List.mem_append_right _ (List.mem_of_getElem? (i := 1294) (by decide +kernel))), good_of_word (by decide +kernel)⟩
def ow_c_X12_weigh : List Cond := [.fieldLink RX12 67 "DeadlineShareModel" "thrown" "I", .constantLong RX12 135 (8), .methodLink RX12 83 yX12_in, .static yX12_in, .initialized RX12, .methodLink RX12 142 yX12_isTask, .instanceMethod yX12_isTask, .selects RX12 yX12_isTask yX12_isTask, .methodLink RX12 94 yX12_weight, .instanceMethod yX12_weight, .selects RX12 yX12_weight yX12_weight, .methodLink RX12 90 yX12_isOn, .instanceMethod yX12_isOn, .selects RX12 yX12_isOn yX12_isOn, .methodLink RX12 139 yX12_remember, .instanceMethod yX12_remember, .selects RX12 yX12_remember yX12_remember, .methodLink RX12 157 yX12_weighs, .instanceMethod yX12_weighs, .selects RX12 yX12_weighs yX12_weighs, .methodLink RX12 80 yX12_tell, .instanceMethod yX12_tell, .selects RX12 yX12_tell yX12_tell, .methodLink RX12 105 yX12_heavy, .instanceMethod yX12_heavy, .selects RX12 yX12_heavy yX12_heavy, .constantLong RX12 110 (24), .methodLink RX12 76 yX12_refuse, .instanceMethod yX12_refuse, .selects RX12 yX12_refuse yX12_refuse]
def wq_c_X12_weigh : List Cond := .code yX12_weigh cX12_weigh 4 (some .int) :: (ow_c_X12_weigh ++ (u_ws RX12 TX12 27 ++ (wq_c_X12_in ++ (wq_c_X12_isTask ++ (wq_c_X12_weight ++ (wq_c_X12_isOn ++ (wq_c_X12_remember ++ (wq_c_X12_weighs ++ (wq_c_X12_tell ++ (wq_c_X12_heavy ++ (wq_c_X12_refuse ++ ([] : List Cond))))))))))))
theorem tb_c_X12_weigh : ∀ w ∈ wq_c_X12_weigh, q_g w := by
  unfold wq_c_X12_weigh ow_c_X12_weigh
  exact q_cons tw_969 (q_app (q_cons tw_927 (q_cons tw_956 (q_cons tw_730 (q_cons tw_729 (q_cons tw_728 (q_cons tw_951 (q_cons tw_950 (q_cons tw_949 (q_cons tw_741 (q_cons tw_740 (q_cons tw_739 (q_cons tw_744 (q_cons tw_743 (q_cons tw_742 (q_cons tw_963 (q_cons tw_962 (q_cons tw_961 (q_cons tw_828 (q_cons tw_827 (q_cons tw_826 (q_cons tw_960 (q_cons tw_959 (q_cons tw_958 (q_cons tw_752 (q_cons tw_751 (q_cons tw_750 (q_cons tw_760 (q_cons tw_966 (q_cons tw_965 (q_cons tw_964 q_nil)))))))))))))))))))))))))))))) (q_app tu_X12 (q_app tb_c_X12_in (q_app tb_c_X12_isTask (q_app tb_c_X12_weight (q_app tb_c_X12_isOn (q_app tb_c_X12_remember (q_app tb_c_X12_weighs (q_app tb_c_X12_tell (q_app tb_c_X12_heavy (q_app tb_c_X12_refuse q_nil)))))))))))
set_option maxHeartbeats 4000000 in
set_option maxRecDepth 100000 in
theorem c_X12_weigh (l : Launch) (dC : Nat → ClassId) (dI : Nat → Nat → Nat) (g : kG) (A : Nat → Prop) (hG : kWf g) (f : Nat → va_E) (h0 : Nat) (p1 : Int32) (p2 : Int32) (z0 : Int32) (z1 : Int32) (z10 : Int32) (z12 : Int32) (z13 : Int32) (z14 : Int32) (z15 : Int32) (z16 : Int64) (z17 : Int32) (z18 : Int32) (z23 : Int32) (z24 : Int64) (z25 : Int64) (z26 : Int64) (q : Nat → Int64) (u : Nat → Int64) (im : Nat → Int64) (kt : Nat → Int32) (i_h0 : ik g 12 h0) (hc0 : f h0 = .inr (12, [.int z0, .int z1, .ref (gr g h0 2), .ref (gr g h0 3), .ref (gr g h0 4), .ref (gr g h0 5), .ref (gr g h0 6), .ref (gr g h0 7), .ref (gr g h0 8), .ref (gr g h0 9), .int z10, .ref (gr g h0 11), .int z12, .int z13, .int z14, .int z15, .long z16, .int z17, .int z18, .ref (gr g h0 19), .ref (gr g h0 20), .ref (gr g h0 21), .ref (gr g h0 22), .int z23, .long z24, .long z25, .long z26])) (hc0_10 : 0 ≤ z10.toInt ∧ z10.toInt ≤ 10) (hc0_12 : 0 ≤ z12.toInt ∧ z12.toInt ≤ 200) (hc0_23 : 0 ≤ z23.toInt ∧ z23.toInt ≤ 8) (hc1 : f (gr g h0 4) = .inl (gc g 1, 906, .inr (.inl q))) (hc1_ok : RowOK q) (hc2 : f (gr g h0 5) = .inl (gc g 1, 9060, .inr (.inl u))) (hc3 : f (gr g h0 7) = .inl (gc g 1, 1812, .inr (.inl im))) (hc4 : f (gr g h0 8) = .inl (gc g 3, 2, .inl kt)) (hU : UIq z10 u im kt) : Met l yX12_weigh wq_c_X12_weigh ({ frames := 5, cells := 0, slots := 0, locals := 111 } : Room) (va_Pc [.ref h0, .int p1, .int p2] (fun U => kIn dC dI g A f U)) (va_Qi (fun (r : Int32) (_ : Unit) => True) (fun (_ : Unit) t => ∃ f1 : Nat → va_E, Iv dC dI g A f1 t.heap ∧ Kp g [12, 30, 32, 33, 37] f f1 ∧ ∃ (w0 : Int32) (w1 : Int32) (w10 : Int32) (w12 : Int32) (w13 : Int32) (w14 : Int32) (w15 : Int32) (w16 : Int64) (w17 : Int32) (w18 : Int32) (w23 : Int32) (w24 : Int64) (w25 : Int64) (w26 : Int64) (q1 : Nat → Int64) (u1 : Nat → Int64) (im1 : Nat → Int64) (ik1 : Nat → Int32), (f1 h0 = .inr (12, [.int w0, .int w1, .ref (gr g h0 2), .ref (gr g h0 3), .ref (gr g h0 4), .ref (gr g h0 5), .ref (gr g h0 6), .ref (gr g h0 7), .ref (gr g h0 8), .ref (gr g h0 9), .int w10, .ref (gr g h0 11), .int w12, .int w13, .int w14, .int w15, .long w16, .int w17, .int w18, .ref (gr g h0 19), .ref (gr g h0 20), .ref (gr g h0 21), .ref (gr g h0 22), .int w23, .long w24, .long w25, .long w26])) ∧ (0 ≤ w10.toInt ∧ w10.toInt ≤ 10) ∧ (0 ≤ w12.toInt ∧ w12.toInt ≤ 200) ∧ (0 ≤ w23.toInt ∧ w23.toInt ≤ 8) ∧ (f1 (gr g h0 4) = .inl (gc g 1, 906, .inr (.inl q1))) ∧ (RowOK q1) ∧ (f1 (gr g h0 5) = .inl (gc g 1, 9060, .inr (.inl u1))) ∧ (f1 (gr g h0 7) = .inl (gc g 1, 1812, .inr (.inl im1))) ∧ (f1 (gr g h0 8) = .inl (gc g 3, 2, .inl ik1)) ∧ (UIq w10 u1 im1 ik1)) A) 0 0 A := by
  refine Met.ofW (cc := cX12_weigh) (maxL := 4) (ret := (some .int)) (by decide) rfl ?_
  intro p e s m args below meth c s₁ B hml hv
  obtain ⟨rfl, hI, hK, hE⟩ := hv
  have hx := B.exec
  have hb := B.bytes
  have hr := B.returns
  have hts := atoms_spec (ws := wq_c_X12_weigh) B.pre
  have hown : s.vm.findClass RX12 = some m.cls := findClass_of_methodNamed B.named
  have hlocks := B.notSynchronized
  have hS : va_S A s.heap s.heap [] := va_S.rf
  have hk0 : Kp g [12, 30, 32, 33, 37] f f := Kp.rf
  have hl := lv_entry ([.ref h0, .int p1, .int p2]) (n := 4) (Nat.le_of_ble_eq_true rfl)
  rw [lg_entry_eq]
  generalize (lg_sl ([.ref h0, .int p1, .int p2]) ++ List.replicate (4 - (lg_sl ([.ref h0, .int p1, .int p2])).length) Slot.unset).toArray = ls at hl ⊢
  have hl : lv_has ls 4 [(0, .ref h0), (1, .int p1), (2, .int p2)] := hl
  have i_1 := kw_12_4 hG i_h0
  have d_2 := rk_hd hc1_ok
  have i_3 := kw_12_5 hG i_h0
  have i_4 := kw_12_7 hG i_h0
  have i_5 := kw_12_8 hG i_h0
  refine lv_aload_n hx hb dX12_weigh_0 rfl (lv_at hl 0 rfl) ?_
  refine lv_iconst (v := 0) hx hb dX12_weigh_1 (by decide) ?_
  refine k_put (ci := 12) (v := .int 0) (ty := .int) (C := RX12) (T := TX12) (N := 27) hx hb hts (fun _ h0_ => List.mem_cons_of_mem _ (List.mem_append_right _ (List.mem_append_left _ h0_))) tyX12 tyX12_ok nmX12 hown hK hI hS i_h0.1 hc0 rfl 0 (by decide) (hts (.fieldLink RX12 67 "DeadlineShareModel" "thrown" "I") (List.mem_cons_of_mem _ (List.mem_append_left _ (List.mem_of_getElem? (i := 0) rfl)))) (fun _ h9 => h9) rfl (by decide +kernel) rfl rfl (Nat.le_of_ble_eq_true rfl) rfl (cl_12 i_h0 (by omega) (by omega) (by omega)) dX12_weigh_2 (fun f_6 H locs e_7 hI hS => ?_)
  have k_9 : f_6 h0 = .inr (12, [.int 0, .int z1, .ref (gr g h0 2), .ref (gr g h0 3), .ref (gr g h0 4), .ref (gr g h0 5), .ref (gr g h0 6), .ref (gr g h0 7), .ref (gr g h0 8), .ref (gr g h0 9), .int z10, .ref (gr g h0 11), .int z12, .int z13, .int z14, .int z15, .long z16, .int z17, .int z18, .ref (gr g h0 19), .ref (gr g h0 20), .ref (gr g h0 21), .ref (gr g h0 22), .int z23, .long z24, .long z25, .long z26]) := by rw [e_7]; exact va_up_self _ _ _
  have k_10 : f_6 (gr g h0 4) = .inl (gc g 1, 906, .inr (.inl q)) := by rw [e_7, va_up_ne _ _ (ik_ne i_1 i_h0 (by decide))]; exact hc1
  have k_11 : f_6 (gr g h0 5) = .inl (gc g 1, 9060, .inr (.inl u)) := by rw [e_7, va_up_ne _ _ (ik_ne i_3 i_h0 (by decide))]; exact hc2
  have k_12 : f_6 (gr g h0 7) = .inl (gc g 1, 1812, .inr (.inl im)) := by rw [e_7, va_up_ne _ _ (ik_ne i_4 i_h0 (by decide))]; exact hc3
  have k_13 : f_6 (gr g h0 8) = .inl (gc g 3, 2, .inl kt) := by rw [e_7, va_up_ne _ _ (ik_ne i_5 i_h0 (by decide))]; exact hc4
  have kp_8 := Kp.put hk0 i_h0 (by decide) e_7
  refine lv_iload_n hx hb dX12_weigh_5 rfl (lv_at hl 2 rfl) ?_
  refine lv_i2l (v := p2.toInt64) hx hb dX12_weigh_6 rfl ?_
  have t_14 := Int32.toInt_toInt64 p2
  refine lv_lconst (v := 1) hx hb dX12_weigh_7 (by decide) ?_
  refine lv_ldc2 hx hb hown (hts (.constantLong RX12 135 (8)) (List.mem_cons_of_mem _ (List.mem_append_left _ (List.mem_of_getElem? (i := 1) rfl)))) dX12_weigh_8 ?_
  refine va_calli (va_runS (As := [.long p2.toInt64, .long 1, .long 8]) (rest := []) ⟨hx, hb, hml, hown, hts⟩ (c_X12_in l dC dI g A hG f_6 p2.toInt64 1 8) (va_cwS 3 hts (gi_S (fun w_ h0_ => ⟨List.mem_cons_of_mem _ (List.mem_append_right _ (List.mem_append_right _ (List.mem_append_left _ h0_))), (tb_c_X12_in w_ h0_).2⟩) (List.mem_cons_of_mem _ (List.mem_append_left _ (List.mem_of_getElem? (i := 2) rfl))) (List.mem_cons_of_mem _ (List.mem_append_left _ (List.mem_of_getElem? (i := 3) rfl))) (List.mem_cons_of_mem _ (List.mem_append_left _ (List.mem_of_getElem? (i := 4) rfl)))) rfl rfl rfl (by decide +kernel) ⟨Nat.le_of_ble_eq_true rfl, Nat.le_of_ble_eq_true rfl⟩) ⟨fun a U g mk q => ⟨q.1, q.2.calling rfl rfl⟩, fun U hU hW => ⟨rfl, kIn.of hI hK hE hS hU hW⟩⟩ rfl rfl hl.1 rfl (lv_room (Nat.le_of_ble_eq_true rfl)) dX12_weigh_11 ⟨Nat.le_of_ble_eq_true rfl, Nat.le_of_ble_eq_true rfl⟩) hS (fun q _ h => h) (fun q h => h) (fun r_16 u t H1 locs ht hvm w_15 hB hz1 hk1 hS => ?_)
  have hI : Iv dC dI g A f_6 t.heap := hB
  rw [ht] at hI
  generalize H1 = H at hI hS ⊢
  refine W.widen (k := 0) (n := 0) (Nat.le_of_ble_eq_true rfl) (Nat.le_of_ble_eq_true rfl) ?_
  have w_15 : (r_16.toInt = 0 ∧ (p2.toInt64.toInt < (1 : Int64).toInt ∨ (8 : Int64).toInt < p2.toInt64.toInt)) ∨ (r_16.toInt = 1 ∧ (1 : Int64).toInt ≤ p2.toInt64.toInt ∧ p2.toInt64.toInt ≤ (8 : Int64).toInt) := w_15
  have g_17 : Int64.toInt (1) = 1 := by decide
  have g_18 : Int64.toInt (8) = 8 := by decide
  refine lv_if_ne (tgt := 23) hx hb dX12_weigh_14 (by decide) (fun c_19 => ?_) (fun c_19 => ?_)
  · have c_19 := kn_eq rfl (by decide : Int32.toInt 0 = 0) c_19
    refine lv_aload_n hx hb dX12_weigh_23 rfl (lv_at hl 0 rfl) ?_
    refine lv_iload_n hx hb dX12_weigh_24 rfl (lv_at hl 1 rfl) ?_
    refine va_calli (va_runV (As := [.int p1]) (rest := []) ⟨hx, hb, hml, hown, hts⟩ (c_X12_isTask l dC dI g A hG f_6 h0 p1 q i_h0 k_10 hc1_ok) (cwV 1 hts (gi_V (fun w_ h0_ => ⟨List.mem_cons_of_mem _ (List.mem_append_right _ (List.mem_append_right _ (List.mem_append_right _ (List.mem_append_left _ h0_)))), (tb_c_X12_isTask w_ h0_).2⟩) (List.mem_cons_of_mem _ (List.mem_append_left _ (List.mem_of_getElem? (i := 5) rfl))) (List.mem_cons_of_mem _ (List.mem_append_left _ (List.mem_of_getElem? (i := 6) rfl))) (List.mem_cons_of_mem _ (List.mem_append_left _ (List.mem_of_getElem? (i := 7) rfl))) (List.mem_cons_of_mem _ (List.mem_append_left _ (List.mem_of_getElem? (i := 4) rfl)))) rfl rfl rfl (by decide +kernel) ⟨Nat.le_of_ble_eq_true rfl, Nat.le_of_ble_eq_true rfl⟩) ⟨fun a U g mk q => ⟨q.1, q.2.calling rfl rfl⟩, k_recv hK hI i_h0.1 k_9 (ci := 12) rfl, fun U hU hW => ⟨rfl, kIn.of hI hK hE hS hU hW⟩⟩ rfl rfl hl.1 rfl (lv_room (Nat.le_of_ble_eq_true rfl)) dX12_weigh_25 ⟨Nat.le_of_ble_eq_true rfl, Nat.le_of_ble_eq_true rfl⟩) hS (fun q _ h => h) (fun q h => h) (fun r_21 u t H1 locs ht hvm w_20 hB hz1 hk1 hS => ?_)
    have hI : Iv dC dI g A f_6 t.heap := hB
    rw [ht] at hI
    generalize H1 = H at hI hS ⊢
    refine W.widen (k := 0) (n := 0) (Nat.le_of_ble_eq_true rfl) (Nat.le_of_ble_eq_true rfl) ?_
    have w_20 : (r_21.toInt = 0 ∨ r_21.toInt = 1) ∧ (r_21.toInt = 0 ∨ (0 ≤ p1.toInt ∧ p1.toInt < (q 0).toInt)) := w_20
    refine lv_if_ne (tgt := 38) hx hb dX12_weigh_28 (by decide) (fun c_22 => ?_) (fun c_22 => ?_)
    · have c_22 := kn_eq rfl (by decide : Int32.toInt 0 = 0) c_22
      refine lv_aload_n hx hb dX12_weigh_38 rfl (lv_at hl 0 rfl) ?_
      obtain ⟨m_23, em_23, tm_23⟩ := k_nat (x := p1) (by omega)
      refine lv_iload_n hx hb dX12_weigh_39 rfl (lv_at hl 1 rfl) ?_
      refine k_topi (y := nI m_23) em_23 ?_
      refine va_calll (va_runV (As := [.int (nI m_23)]) (rest := []) ⟨hx, hb, hml, hown, hts⟩ (c_X12_weight l dC dI g A hG f_6 h0 m_23 q i_h0 k_10 hc1_ok (by first | omega | decide | (simp only [k_c0, k_c1, k_cm1]; omega))) (cwV 1 hts (gi_V (fun w_ h0_ => ⟨List.mem_cons_of_mem _ (List.mem_append_right _ (List.mem_append_right _ (List.mem_append_right _ (List.mem_append_right _ (List.mem_append_left _ h0_))))), (tb_c_X12_weight w_ h0_).2⟩) (List.mem_cons_of_mem _ (List.mem_append_left _ (List.mem_of_getElem? (i := 8) rfl))) (List.mem_cons_of_mem _ (List.mem_append_left _ (List.mem_of_getElem? (i := 9) rfl))) (List.mem_cons_of_mem _ (List.mem_append_left _ (List.mem_of_getElem? (i := 10) rfl))) (List.mem_cons_of_mem _ (List.mem_append_left _ (List.mem_of_getElem? (i := 4) rfl)))) rfl rfl rfl (by decide +kernel) ⟨Nat.le_of_ble_eq_true rfl, Nat.le_of_ble_eq_true rfl⟩) ⟨fun a U g mk q => ⟨q.1, q.2.calling rfl rfl⟩, k_recv hK hI i_h0.1 k_9 (ci := 12) rfl, fun U hU hW => ⟨rfl, kIn.of hI hK hE hS hU hW⟩⟩ rfl rfl hl.1 rfl (lv_room (Nat.le_of_ble_eq_true rfl)) dX12_weigh_40 ⟨Nat.le_of_ble_eq_true rfl, Nat.le_of_ble_eq_true rfl⟩) hS (fun q _ h => h) (fun q h => h) (fun r_25 u t H1 locs ht hvm w_24 hB hz1 hk1 hS => ?_)
      have hI : Iv dC dI g A f_6 t.heap := hB
      rw [ht] at hI
      generalize H1 = H at hI hS ⊢
      refine W.widen (k := 0) (n := 0) (Nat.le_of_ble_eq_true rfl) (Nat.le_of_ble_eq_true rfl) ?_
      have w_24 : r_25 = q (6 + 43 * m_23) := w_24
      refine k_topl (y := q (6 + 43 * m_23)) w_24 ?_
      have d_26 := rk_0 hc1_ok (t := m_23) (by omega)
      refine lv_l2i (v := (q (6 + 43 * m_23)).toInt32) hx hb dX12_weigh_43 rfl ?_
      refine lv_topi (fun v_27 ev_27 => ?_)
      have tv_27 := k_l2i (q (6 + 43 * m_23))
      rw [← ev_27] at tv_27
      refine lv_istore_n (lv' := [(3, .int v_27), (0, .ref h0), (1, .int p1), (2, .int p2)]) hx hb dX12_weigh_44 rfl hl (by decide) rfl (fun ls hl => ?_)
      refine lv_iload_n hx hb dX12_weigh_45 rfl (lv_at hl 0 rfl) ?_
      refine lv_iload_n hx hb dX12_weigh_46 rfl (lv_at hl 3 rfl) ?_
      refine lv_icmp_ne (tgt := 57) hx hb dX12_weigh_47 (by decide) (fun c_28 => ?_) (fun c_28 => ?_)
      · have c_28 := kn_eq rfl rfl c_28
        refine lv_aload_n hx hb dX12_weigh_57 rfl (lv_at hl 1 rfl) ?_
        refine lv_iload_n hx hb dX12_weigh_58 rfl (lv_at hl 2 rfl) ?_
        refine k_topi (y := nI m_23) em_23 ?_
        refine va_calli (va_runV (As := [.int (nI m_23)]) (rest := []) ⟨hx, hb, hml, hown, hts⟩ (c_X12_isOn l dC dI g A hG f_6 h0 m_23 q i_h0 k_10 hc1_ok (by first | omega | decide | (simp only [k_c0, k_c1, k_cm1]; omega))) (cwV 1 hts (gi_V (fun w_ h0_ => ⟨List.mem_cons_of_mem _ (List.mem_append_right _ (List.mem_append_right _ (List.mem_append_right _ (List.mem_append_right _ (List.mem_append_right _ (List.mem_append_left _ h0_)))))), (tb_c_X12_isOn w_ h0_).2⟩) (List.mem_cons_of_mem _ (List.mem_append_left _ (List.mem_of_getElem? (i := 11) rfl))) (List.mem_cons_of_mem _ (List.mem_append_left _ (List.mem_of_getElem? (i := 12) rfl))) (List.mem_cons_of_mem _ (List.mem_append_left _ (List.mem_of_getElem? (i := 13) rfl))) (List.mem_cons_of_mem _ (List.mem_append_left _ (List.mem_of_getElem? (i := 4) rfl)))) rfl rfl rfl (by decide +kernel) ⟨Nat.le_of_ble_eq_true rfl, Nat.le_of_ble_eq_true rfl⟩) ⟨fun a U g mk q => ⟨q.1, q.2.calling rfl rfl⟩, k_recv hK hI i_h0.1 k_9 (ci := 12) rfl, fun U hU hW => ⟨rfl, kIn.of hI hK hE hS hU hW⟩⟩ rfl rfl hl.1 rfl (lv_room (Nat.le_of_ble_eq_true rfl)) dX12_weigh_59 ⟨Nat.le_of_ble_eq_true rfl, Nat.le_of_ble_eq_true rfl⟩) hS (fun q _ h => h) (fun q h => h) (fun r_30 u t H1 locs ht hvm w_29 hB hz1 hk1 hS => ?_)
        have hI : Iv dC dI g A f_6 t.heap := hB
        rw [ht] at hI
        generalize H1 = H at hI hS ⊢
        refine W.widen (k := 0) (n := 0) (Nat.le_of_ble_eq_true rfl) (Nat.le_of_ble_eq_true rfl) ?_
        have w_29 : (r_30.toInt = 0 ∧ (q (6 + 43 * m_23 + 2)).toInt ≠ 1) ∨ (r_30.toInt = 1 ∧ (q (6 + 43 * m_23 + 2)).toInt = 1) := w_29
        have J_89 : ∀ (H : Heap) (locs : List Loc) (ls : Array Slot), Iv dC dI g A f_6 H → va_S A s.heap H locs → lv_has ls 4 [(3, .int v_27), (0, .ref h0), (1, .int p1), (2, .int p2)] → W p l e (headSpec wq_c_X12_weigh ({ frames := 5, cells := 0, slots := 0, locals := 111 } : Room)).room s m ([.ref h0, .int p1, .int p2].toArray) below meth c H locs 0 0 (MQ below (va_Qi (fun (r : Int32) (_ : Unit) => True) (fun (_ : Unit) t => ∃ f1 : Nat → va_E, Iv dC dI g A f1 t.heap ∧ Kp g [12, 30, 32, 33, 37] f f1 ∧ ∃ (w0 : Int32) (w1 : Int32) (w10 : Int32) (w12 : Int32) (w13 : Int32) (w14 : Int32) (w15 : Int32) (w16 : Int64) (w17 : Int32) (w18 : Int32) (w23 : Int32) (w24 : Int64) (w25 : Int64) (w26 : Int64) (q1 : Nat → Int64) (u1 : Nat → Int64) (im1 : Nat → Int64) (ik1 : Nat → Int32), (f1 h0 = .inr (12, [.int w0, .int w1, .ref (gr g h0 2), .ref (gr g h0 3), .ref (gr g h0 4), .ref (gr g h0 5), .ref (gr g h0 6), .ref (gr g h0 7), .ref (gr g h0 8), .ref (gr g h0 9), .int w10, .ref (gr g h0 11), .int w12, .int w13, .int w14, .int w15, .long w16, .int w17, .int w18, .ref (gr g h0 19), .ref (gr g h0 20), .ref (gr g h0 21), .ref (gr g h0 22), .int w23, .long w24, .long w25, .long w26])) ∧ (0 ≤ w10.toInt ∧ w10.toInt ≤ 10) ∧ (0 ≤ w12.toInt ∧ w12.toInt ≤ 200) ∧ (0 ≤ w23.toInt ∧ w23.toInt ≤ 8) ∧ (f1 (gr g h0 4) = .inl (gc g 1, 906, .inr (.inl q1))) ∧ (RowOK q1) ∧ (f1 (gr g h0 5) = .inl (gc g 1, 9060, .inr (.inl u1))) ∧ (f1 (gr g h0 7) = .inl (gc g 1, 1812, .inr (.inl im1))) ∧ (f1 (gr g h0 8) = .inl (gc g 3, 2, .inl ik1)) ∧ (UIq w10 u1 im1 ik1)) A) ([.ref h0, .int p1, .int p2].toArray) s 0 0 A) (F0 m 89 ls []) := by
          intro H locs ls hI hS  hl
          refine lv_aload_n hx hb dX12_weigh_89 rfl (lv_at hl 1 rfl) ?_
          refine lv_iconst (v := 3) hx hb dX12_weigh_90 (by decide) ?_
          refine va_callv (va_runV (As := [.int 3]) (rest := []) ⟨hx, hb, hml, hown, hts⟩ (c_X12_remember l dC dI g A hG f_6 h0 3 0 z1 z10 z12 z13 z14 z15 z16 z17 z18 z23 z24 z25 z26 q u im kt i_h0 k_9 (by first | omega | (simp only [k_c0]; omega)) (by first | omega | (simp only [k_c0]; omega)) (by first | omega | (simp only [k_c0]; omega)) k_10 hc1_ok k_11 k_12 k_13 (by decide)) (cwV 1 hts (gi_V (fun w_ h0_ => ⟨List.mem_cons_of_mem _ (List.mem_append_right _ (List.mem_append_right _ (List.mem_append_right _ (List.mem_append_right _ (List.mem_append_right _ (List.mem_append_right _ (List.mem_append_left _ h0_))))))), (tb_c_X12_remember w_ h0_).2⟩) (List.mem_cons_of_mem _ (List.mem_append_left _ (List.mem_of_getElem? (i := 14) rfl))) (List.mem_cons_of_mem _ (List.mem_append_left _ (List.mem_of_getElem? (i := 15) rfl))) (List.mem_cons_of_mem _ (List.mem_append_left _ (List.mem_of_getElem? (i := 16) rfl))) (List.mem_cons_of_mem _ (List.mem_append_left _ (List.mem_of_getElem? (i := 4) rfl)))) rfl rfl rfl (by decide +kernel) ⟨Nat.le_of_ble_eq_true rfl, Nat.le_of_ble_eq_true rfl⟩) ⟨fun a U g mk q => ⟨q.1, q.2.calling rfl rfl⟩, k_recv hK hI i_h0.1 k_9 (ci := 12) rfl, fun U hU hW => ⟨rfl, kIn.of hI hK hE hS hU hW⟩⟩ rfl rfl hl.1 rfl (lv_room (Nat.le_of_ble_eq_true rfl)) dX12_weigh_91 ⟨Nat.le_of_ble_eq_true rfl, Nat.le_of_ble_eq_true rfl⟩) hS (fun q _ h => h) (fun q h => h) (fun u t H1 locs ht hvm _ hB hz1 hk1 hS => ?_)
          obtain ⟨f_31, hI, kc_33, w10_34, u1_35, k_36, z_37, k_38, z_39⟩ := hB
          rw [ht] at hI
          have k_40 : f_31 (gr g h0 4) = .inl (gc g 1, 906, .inr (.inl q)) := Kp.at kc_33 i_1 (by decide) k_10
          have k_41 : f_31 (gr g h0 7) = .inl (gc g 1, 1812, .inr (.inl im)) := Kp.at kc_33 i_4 (by decide) k_12
          have k_42 : f_31 (gr g h0 8) = .inl (gc g 3, 2, .inl kt) := Kp.at kc_33 i_5 (by decide) k_13
          have k_36 : f_31 h0 = .inr (12, [.int (0 : Int32), .int z1, .ref (gr g h0 2), .ref (gr g h0 3), .ref (gr g h0 4), .ref (gr g h0 5), .ref (gr g h0 6), .ref (gr g h0 7), .ref (gr g h0 8), .ref (gr g h0 9), .int w10_34, .ref (gr g h0 11), .int z12, .int z13, .int z14, .int z15, .long z16, .int z17, .int z18, .ref (gr g h0 19), .ref (gr g h0 20), .ref (gr g h0 21), .ref (gr g h0 22), .int z23, .long z24, .long z25, .long z26]) := k_36
          have z_37 : 0 ≤ w10_34.toInt ∧ w10_34.toInt ≤ 10 := z_37
          have z_39 : UIq w10_34 u1_35 im kt := z_39
          have kp_43 := Kp.call kp_8 kc_33 (by decide)
          generalize H1 = H at hI hS ⊢
          refine W.widen (k := 0) (n := 0) (Nat.le_of_ble_eq_true rfl) (Nat.le_of_ble_eq_true rfl) ?_
          refine lv_aload_n hx hb dX12_weigh_94 rfl (lv_at hl 1 rfl) ?_
          refine lv_iload_n hx hb dX12_weigh_95 rfl (lv_at hl 2 rfl) ?_
          refine k_topi (y := nI m_23) em_23 ?_
          refine lv_iload_n hx hb dX12_weigh_96 rfl (lv_at hl 3 rfl) ?_
          refine lv_i2l (v := p2.toInt64) hx hb dX12_weigh_97 rfl ?_
          have t_44 := Int32.toInt_toInt64 p2
          refine va_calli (va_runV (As := [.int (nI m_23), .long p2.toInt64]) (rest := []) ⟨hx, hb, hml, hown, hts⟩ (c_X12_weighs l dC dI g A hG f_31 h0 m_23 p2.toInt64 q i_h0 k_40 hc1_ok (by first | omega | decide | (simp only [k_c0, k_c1, k_cm1]; omega)) (by first | omega | decide | (simp only [k_c0, k_c1, k_cm1]; omega))) (cwV 2 hts (gi_V (fun w_ h0_ => ⟨List.mem_cons_of_mem _ (List.mem_append_right _ (List.mem_append_right _ (List.mem_append_right _ (List.mem_append_right _ (List.mem_append_right _ (List.mem_append_right _ (List.mem_append_right _ (List.mem_append_left _ h0_)))))))), (tb_c_X12_weighs w_ h0_).2⟩) (List.mem_cons_of_mem _ (List.mem_append_left _ (List.mem_of_getElem? (i := 17) rfl))) (List.mem_cons_of_mem _ (List.mem_append_left _ (List.mem_of_getElem? (i := 18) rfl))) (List.mem_cons_of_mem _ (List.mem_append_left _ (List.mem_of_getElem? (i := 19) rfl))) (List.mem_cons_of_mem _ (List.mem_append_left _ (List.mem_of_getElem? (i := 4) rfl)))) rfl rfl rfl (by decide +kernel) ⟨Nat.le_of_ble_eq_true rfl, Nat.le_of_ble_eq_true rfl⟩) ⟨fun a U g mk q => ⟨q.1, q.2.calling rfl rfl⟩, k_recv hK hI i_h0.1 k_36 (ci := 12) rfl, fun U hU hW => ⟨rfl, kIn.of hI hK hE hS hU hW⟩⟩ rfl rfl hl.1 rfl (lv_room (Nat.le_of_ble_eq_true rfl)) dX12_weigh_98 ⟨Nat.le_of_ble_eq_true rfl, Nat.le_of_ble_eq_true rfl⟩) hS (fun q _ h => h) (fun q h => h) (fun r_47 u t H1 locs ht hvm w_46 hB hz1 hk1 hS => ?_)
          obtain ⟨f_45, hI, kc_48, q1_49, k_50, z_51, z_52, z_53, z_54⟩ := hB
          rw [ht] at hI
          have k_55 : f_45 (gr g h0 7) = .inl (gc g 1, 1812, .inr (.inl im)) := Kp.at kc_48 i_4 (by decide) k_41
          have k_56 : f_45 (gr g h0 8) = .inl (gc g 3, 2, .inl kt) := Kp.at kc_48 i_5 (by decide) k_42
          have k_57 : f_45 h0 = .inr (12, [.int (0 : Int32), .int z1, .ref (gr g h0 2), .ref (gr g h0 3), .ref (gr g h0 4), .ref (gr g h0 5), .ref (gr g h0 6), .ref (gr g h0 7), .ref (gr g h0 8), .ref (gr g h0 9), .int w10_34, .ref (gr g h0 11), .int z12, .int z13, .int z14, .int z15, .long z16, .int z17, .int z18, .ref (gr g h0 19), .ref (gr g h0 20), .ref (gr g h0 21), .ref (gr g h0 22), .int z23, .long z24, .long z25, .long z26]) := Kp.at kc_48 i_h0 (by decide) k_36
          have k_58 : f_45 (gr g h0 5) = .inl (gc g 1, 9060, .inr (.inl u1_35)) := Kp.at kc_48 i_3 (by decide) k_38
          have z_51 : RowOK q1_49 := z_51
          have d_59 := rk_hd z_51
          have z_52 : (q1_49 0).toInt = (q 0).toInt := z_52
          have z_53 : (q1_49 1).toInt = (q 1).toInt := z_53
          have z_54 : ∀ j : Nat, 11 ≤ j → j < 43 → q1_49 (6 + 43 * m_23 + j) = q (6 + 43 * m_23 + j) := z_54
          have kp_60 := Kp.call kp_43 kc_48 (by decide)
          generalize H1 = H at hI hS ⊢
          refine W.widen (k := 0) (n := 0) (Nat.le_of_ble_eq_true rfl) (Nat.le_of_ble_eq_true rfl) ?_
          refine lv_pop hx hb dX12_weigh_101 rfl ?_
          refine lv_aload_n hx hb dX12_weigh_102 rfl (lv_at hl 1 rfl) ?_
          refine lv_iload_n hx hb dX12_weigh_103 rfl (lv_at hl 0 rfl) ?_
          refine va_calli (va_runV (As := [.int v_27]) (rest := []) ⟨hx, hb, hml, hown, hts⟩ (c_X12_tell l dC dI g A hG f_45 h0 v_27 (0 : Int32) z1 w10_34 z12 z13 z14 z15 z16 z17 z18 z23 z24 z25 z26 i_h0 k_57 (by first | omega | (simp only [k_c0]; omega)) (by first | omega | (simp only [k_c0]; omega)) (by first | omega | (simp only [k_c0]; omega))) (cwV 1 hts (gi_V (fun w_ h0_ => ⟨List.mem_cons_of_mem _ (List.mem_append_right _ (List.mem_append_right _ (List.mem_append_right _ (List.mem_append_right _ (List.mem_append_right _ (List.mem_append_right _ (List.mem_append_right _ (List.mem_append_right _ (List.mem_append_left _ h0_))))))))), (tb_c_X12_tell w_ h0_).2⟩) (List.mem_cons_of_mem _ (List.mem_append_left _ (List.mem_of_getElem? (i := 20) rfl))) (List.mem_cons_of_mem _ (List.mem_append_left _ (List.mem_of_getElem? (i := 21) rfl))) (List.mem_cons_of_mem _ (List.mem_append_left _ (List.mem_of_getElem? (i := 22) rfl))) (List.mem_cons_of_mem _ (List.mem_append_left _ (List.mem_of_getElem? (i := 4) rfl)))) rfl rfl rfl (by decide +kernel) ⟨Nat.le_of_ble_eq_true rfl, Nat.le_of_ble_eq_true rfl⟩) ⟨fun a U g mk q => ⟨q.1, q.2.calling rfl rfl⟩, k_recv hK hI i_h0.1 k_57 (ci := 12) rfl, fun U hU hW => ⟨rfl, kIn.of hI hK hE hS hU hW⟩⟩ rfl rfl hl.1 rfl (lv_room (Nat.le_of_ble_eq_true rfl)) dX12_weigh_104 ⟨Nat.le_of_ble_eq_true rfl, Nat.le_of_ble_eq_true rfl⟩) hS (fun q _ h => h) (fun q h => h) (fun r_63 u t H1 locs ht hvm w_62 hB hz1 hk1 hS => ?_)
          obtain ⟨f_61, hI, kc_64, k_65⟩ := hB
          rw [ht] at hI
          have k_66 : f_61 (gr g h0 7) = .inl (gc g 1, 1812, .inr (.inl im)) := Kp.at kc_64 i_4 (by decide) k_55
          have k_67 : f_61 (gr g h0 8) = .inl (gc g 3, 2, .inl kt) := Kp.at kc_64 i_5 (by decide) k_56
          have k_68 : f_61 (gr g h0 5) = .inl (gc g 1, 9060, .inr (.inl u1_35)) := Kp.at kc_64 i_3 (by decide) k_58
          have k_69 : f_61 (gr g h0 4) = .inl (gc g 1, 906, .inr (.inl q1_49)) := Kp.at kc_64 i_1 (by decide) k_50
          have k_65 : f_61 h0 = .inr (12, [.int (0 : Int32), .int 0, .ref (gr g h0 2), .ref (gr g h0 3), .ref (gr g h0 4), .ref (gr g h0 5), .ref (gr g h0 6), .ref (gr g h0 7), .ref (gr g h0 8), .ref (gr g h0 9), .int w10_34, .ref (gr g h0 11), .int z12, .int z13, .int z14, .int z15, .long z16, .int z17, .int z18, .ref (gr g h0 19), .ref (gr g h0 20), .ref (gr g h0 21), .ref (gr g h0 22), .int z23, .long z24, .long z25, .long z26]) := k_65
          have kp_70 := Kp.call kp_60 kc_64 (by decide)
          generalize H1 = H at hI hS ⊢
          refine W.widen (k := 0) (n := 0) (Nat.le_of_ble_eq_true rfl) (Nat.le_of_ble_eq_true rfl) ?_
          have w_62 : r_63.toInt = v_27.toInt := w_62
          exact W.iret (v := r_63) hx hb hr (fun t ht hW => ⟨⟨r_63, (), rfl, trivial, ⟨f_61, k_ret ht hI, kp_70, (0 : Int32), 0, w10_34, z12, z13, z14, z15, z16, z17, z18, z23, z24, z25, z26, q1_49, u1_35, im, kt, k_65, (by first | omega | decide), (by first | omega | decide), (by first | omega | decide), k_69, z_51, k_68, k_66, k_67, z_39⟩⟩, hS.F ht⟩) hS.2.2 dX12_weigh_107
        refine lv_if_eq (tgt := 89) hx hb dX12_weigh_62 (by decide) (fun c_71 => ?_) (fun c_71 => ?_)
        · have c_71 := kc_eq rfl (by decide : Int32.toInt 0 = 0) c_71
          exact J_89  _ _ _ hI hS  (lv_sub hl [0, 1, 2, 3] rfl)
        · have c_71 := kn_eq rfl (by decide : Int32.toInt 0 = 0) c_71
          refine lv_aload_n hx hb dX12_weigh_65 rfl (lv_at hl 1 rfl) ?_
          refine va_calll (va_runV (As := []) (rest := []) ⟨hx, hb, hml, hown, hts⟩ (c_X12_heavy l dC dI g A hG f_6 h0 q i_h0 k_10 hc1_ok) (cwV 0 hts (gi_V (fun w_ h0_ => ⟨List.mem_cons_of_mem _ (List.mem_append_right _ (List.mem_append_right _ (List.mem_append_right _ (List.mem_append_right _ (List.mem_append_right _ (List.mem_append_right _ (List.mem_append_right _ (List.mem_append_right _ (List.mem_append_right _ (List.mem_append_left _ h0_)))))))))), (tb_c_X12_heavy w_ h0_).2⟩) (List.mem_cons_of_mem _ (List.mem_append_left _ (List.mem_of_getElem? (i := 23) rfl))) (List.mem_cons_of_mem _ (List.mem_append_left _ (List.mem_of_getElem? (i := 24) rfl))) (List.mem_cons_of_mem _ (List.mem_append_left _ (List.mem_of_getElem? (i := 25) rfl))) (List.mem_cons_of_mem _ (List.mem_append_left _ (List.mem_of_getElem? (i := 4) rfl)))) rfl rfl rfl (by decide +kernel) ⟨Nat.le_of_ble_eq_true rfl, Nat.le_of_ble_eq_true rfl⟩) ⟨fun a U g mk q => ⟨q.1, q.2.calling rfl rfl⟩, k_recv hK hI i_h0.1 k_9 (ci := 12) rfl, fun U hU hW => ⟨rfl, kIn.of hI hK hE hS hU hW⟩⟩ rfl rfl hl.1 rfl (lv_room (Nat.le_of_ble_eq_true rfl)) dX12_weigh_66 ⟨Nat.le_of_ble_eq_true rfl, Nat.le_of_ble_eq_true rfl⟩) hS (fun q _ h => h) (fun q h => h) (fun r_73 u t H1 locs ht hvm w_72 hB hz1 hk1 hS => ?_)
          have hI : Iv dC dI g A f_6 t.heap := hB
          rw [ht] at hI
          generalize H1 = H at hI hS ⊢
          refine W.widen (k := 0) (n := 0) (Nat.le_of_ble_eq_true rfl) (Nat.le_of_ble_eq_true rfl) ?_
          have w_72 : 0 ≤ r_73.toInt ∧ r_73.toInt ≤ 96 ∧ ∀ t : Nat, (t : Int) < (q 0).toInt → (q (6 + 43 * t + 2)).toInt = 1 → 1 ≤ r_73.toInt := w_72
          refine lv_iload_n hx hb dX12_weigh_69 rfl (lv_at hl 0 rfl) ?_
          refine lv_i2l (v := v_27.toInt64) hx hb dX12_weigh_70 rfl ?_
          have t_74 := Int32.toInt_toInt64 v_27
          refine lv_lsub hx hb dX12_weigh_71 ?_
          refine lv_topl (fun v_75 ev_75 => ?_)
          have tv_75 := l_sb r_73 v_27.toInt64
          rw [← ev_75] at tv_75
          refine lv_iload_n hx hb dX12_weigh_72 rfl (lv_at hl 3 rfl) ?_
          refine lv_i2l (v := p2.toInt64) hx hb dX12_weigh_73 rfl ?_
          have t_76 := Int32.toInt_toInt64 p2
          refine lv_ladd hx hb dX12_weigh_74 ?_
          refine lv_topl (fun v_77 ev_77 => ?_)
          have tv_77 := l_ad v_75 p2.toInt64
          rw [← ev_77] at tv_77
          refine lv_ldc2 hx hb hown (hts (.constantLong RX12 110 (24)) (List.mem_cons_of_mem _ (List.mem_append_left _ (List.mem_of_getElem? (i := 26) rfl)))) dX12_weigh_75 ?_
          refine W.lcmp hx hb dX12_weigh_78 ?_
          refine lv_if_le (tgt := 89) hx hb dX12_weigh_79 (by decide) (fun c_78 => ?_) (fun c_78 => ?_)
          · have c_78 := lc_le rfl (by decide : Int64.toInt 24 = 24) ((lg_cmp_le _ _).mp c_78)
            exact J_89  _ _ _ hI hS  (lv_sub hl [0, 1, 2, 3] rfl)
          · have c_78 := ln_le rfl (by decide : Int64.toInt 24 = 24) (fun h9 => c_78 ((lg_cmp_le _ _).mpr h9))
            refine lv_aload_n hx hb dX12_weigh_82 rfl (lv_at hl 1 rfl) ?_
            refine lv_bipush (v := (-5)) hx hb dX12_weigh_83 (by decide) ?_
            refine va_calli (va_runV (As := [.int (-5)]) (rest := []) ⟨hx, hb, hml, hown, hts⟩ (c_X12_refuse l dC dI g A hG f_6 h0 (-5) 0 z1 z10 z12 z13 z14 z15 z16 z17 z18 z23 z24 z25 z26 i_h0 k_9 (by first | omega | (simp only [k_c0]; omega)) (by first | omega | (simp only [k_c0]; omega)) (by first | omega | (simp only [k_c0]; omega)) (by decide)) (cwV 1 hts (gi_V (fun w_ h0_ => ⟨List.mem_cons_of_mem _ (List.mem_append_right _ (List.mem_append_right _ (List.mem_append_right _ (List.mem_append_right _ (List.mem_append_right _ (List.mem_append_right _ (List.mem_append_right _ (List.mem_append_right _ (List.mem_append_right _ (List.mem_append_right _ (List.mem_append_left _ h0_))))))))))), (tb_c_X12_refuse w_ h0_).2⟩) (List.mem_cons_of_mem _ (List.mem_append_left _ (List.mem_of_getElem? (i := 27) rfl))) (List.mem_cons_of_mem _ (List.mem_append_left _ (List.mem_of_getElem? (i := 28) rfl))) (List.mem_cons_of_mem _ (List.mem_append_left _ (List.mem_of_getElem? (i := 29) rfl))) (List.mem_cons_of_mem _ (List.mem_append_left _ (List.mem_of_getElem? (i := 4) rfl)))) rfl rfl rfl (by decide +kernel) ⟨Nat.le_of_ble_eq_true rfl, Nat.le_of_ble_eq_true rfl⟩) ⟨fun a U g mk q => ⟨q.1, q.2.calling rfl rfl⟩, k_recv hK hI i_h0.1 k_9 (ci := 12) rfl, fun U hU hW => ⟨rfl, kIn.of hI hK hE hS hU hW⟩⟩ rfl rfl hl.1 rfl (lv_room (Nat.le_of_ble_eq_true rfl)) dX12_weigh_85 ⟨Nat.le_of_ble_eq_true rfl, Nat.le_of_ble_eq_true rfl⟩) hS (fun q _ h => h) (fun q h => h) (fun r_81 u t H1 locs ht hvm w_80 hB hz1 hk1 hS => ?_)
            obtain ⟨f_79, hI, kc_82, k_83⟩ := hB
            rw [ht] at hI
            have k_84 : f_79 (gr g h0 4) = .inl (gc g 1, 906, .inr (.inl q)) := Kp.at kc_82 i_1 (by decide) k_10
            have k_85 : f_79 (gr g h0 5) = .inl (gc g 1, 9060, .inr (.inl u)) := Kp.at kc_82 i_3 (by decide) k_11
            have k_86 : f_79 (gr g h0 7) = .inl (gc g 1, 1812, .inr (.inl im)) := Kp.at kc_82 i_4 (by decide) k_12
            have k_87 : f_79 (gr g h0 8) = .inl (gc g 3, 2, .inl kt) := Kp.at kc_82 i_5 (by decide) k_13
            have k_83 : f_79 h0 = .inr (12, [.int (0 : Int32), .int (-5 : Int32), .ref (gr g h0 2), .ref (gr g h0 3), .ref (gr g h0 4), .ref (gr g h0 5), .ref (gr g h0 6), .ref (gr g h0 7), .ref (gr g h0 8), .ref (gr g h0 9), .int z10, .ref (gr g h0 11), .int z12, .int z13, .int z14, .int z15, .long z16, .int z17, .int z18, .ref (gr g h0 19), .ref (gr g h0 20), .ref (gr g h0 21), .ref (gr g h0 22), .int z23, .long z24, .long z25, .long z26]) := k_83
            have kp_88 := Kp.call kp_8 kc_82 (by decide)
            generalize H1 = H at hI hS ⊢
            refine W.widen (k := 0) (n := 0) (Nat.le_of_ble_eq_true rfl) (Nat.le_of_ble_eq_true rfl) ?_
            have w_80 : r_81.toInt = (-5 : Int32).toInt := w_80
            have g_89 : Int32.toInt ((-5)) = (-5) := by decide
            exact W.iret (v := r_81) hx hb hr (fun t ht hW => ⟨⟨r_81, (), rfl, trivial, ⟨f_79, k_ret ht hI, kp_88, (0 : Int32), (-5 : Int32), z10, z12, z13, z14, z15, z16, z17, z18, z23, z24, z25, z26, q, u, im, kt, k_83, (by first | omega | decide), (by first | omega | decide), (by first | omega | decide), k_84, hc1_ok, k_85, k_86, k_87, hU⟩⟩, hS.F ht⟩) hS.2.2 dX12_weigh_88
      · have c_28 := kc_eq rfl rfl c_28
        refine lv_aload_n hx hb dX12_weigh_50 rfl (lv_at hl 1 rfl) ?_
        refine lv_bipush (v := (-4)) hx hb dX12_weigh_51 (by decide) ?_
        refine va_calli (va_runV (As := [.int (-4)]) (rest := []) ⟨hx, hb, hml, hown, hts⟩ (c_X12_refuse l dC dI g A hG f_6 h0 (-4) 0 z1 z10 z12 z13 z14 z15 z16 z17 z18 z23 z24 z25 z26 i_h0 k_9 (by first | omega | (simp only [k_c0]; omega)) (by first | omega | (simp only [k_c0]; omega)) (by first | omega | (simp only [k_c0]; omega)) (by decide)) (cwV 1 hts (gi_V (fun w_ h0_ => ⟨List.mem_cons_of_mem _ (List.mem_append_right _ (List.mem_append_right _ (List.mem_append_right _ (List.mem_append_right _ (List.mem_append_right _ (List.mem_append_right _ (List.mem_append_right _ (List.mem_append_right _ (List.mem_append_right _ (List.mem_append_right _ (List.mem_append_left _ h0_))))))))))), (tb_c_X12_refuse w_ h0_).2⟩) (List.mem_cons_of_mem _ (List.mem_append_left _ (List.mem_of_getElem? (i := 27) rfl))) (List.mem_cons_of_mem _ (List.mem_append_left _ (List.mem_of_getElem? (i := 28) rfl))) (List.mem_cons_of_mem _ (List.mem_append_left _ (List.mem_of_getElem? (i := 29) rfl))) (List.mem_cons_of_mem _ (List.mem_append_left _ (List.mem_of_getElem? (i := 4) rfl)))) rfl rfl rfl (by decide +kernel) ⟨Nat.le_of_ble_eq_true rfl, Nat.le_of_ble_eq_true rfl⟩) ⟨fun a U g mk q => ⟨q.1, q.2.calling rfl rfl⟩, k_recv hK hI i_h0.1 k_9 (ci := 12) rfl, fun U hU hW => ⟨rfl, kIn.of hI hK hE hS hU hW⟩⟩ rfl rfl hl.1 rfl (lv_room (Nat.le_of_ble_eq_true rfl)) dX12_weigh_53 ⟨Nat.le_of_ble_eq_true rfl, Nat.le_of_ble_eq_true rfl⟩) hS (fun q _ h => h) (fun q h => h) (fun r_92 u t H1 locs ht hvm w_91 hB hz1 hk1 hS => ?_)
        obtain ⟨f_90, hI, kc_93, k_94⟩ := hB
        rw [ht] at hI
        have k_95 : f_90 (gr g h0 4) = .inl (gc g 1, 906, .inr (.inl q)) := Kp.at kc_93 i_1 (by decide) k_10
        have k_96 : f_90 (gr g h0 5) = .inl (gc g 1, 9060, .inr (.inl u)) := Kp.at kc_93 i_3 (by decide) k_11
        have k_97 : f_90 (gr g h0 7) = .inl (gc g 1, 1812, .inr (.inl im)) := Kp.at kc_93 i_4 (by decide) k_12
        have k_98 : f_90 (gr g h0 8) = .inl (gc g 3, 2, .inl kt) := Kp.at kc_93 i_5 (by decide) k_13
        have k_94 : f_90 h0 = .inr (12, [.int (0 : Int32), .int (-4 : Int32), .ref (gr g h0 2), .ref (gr g h0 3), .ref (gr g h0 4), .ref (gr g h0 5), .ref (gr g h0 6), .ref (gr g h0 7), .ref (gr g h0 8), .ref (gr g h0 9), .int z10, .ref (gr g h0 11), .int z12, .int z13, .int z14, .int z15, .long z16, .int z17, .int z18, .ref (gr g h0 19), .ref (gr g h0 20), .ref (gr g h0 21), .ref (gr g h0 22), .int z23, .long z24, .long z25, .long z26]) := k_94
        have kp_99 := Kp.call kp_8 kc_93 (by decide)
        generalize H1 = H at hI hS ⊢
        refine W.widen (k := 0) (n := 0) (Nat.le_of_ble_eq_true rfl) (Nat.le_of_ble_eq_true rfl) ?_
        have w_91 : r_92.toInt = (-4 : Int32).toInt := w_91
        have g_100 : Int32.toInt ((-4)) = (-4) := by decide
        exact W.iret (v := r_92) hx hb hr (fun t ht hW => ⟨⟨r_92, (), rfl, trivial, ⟨f_90, k_ret ht hI, kp_99, (0 : Int32), (-4 : Int32), z10, z12, z13, z14, z15, z16, z17, z18, z23, z24, z25, z26, q, u, im, kt, k_94, (by first | omega | decide), (by first | omega | decide), (by first | omega | decide), k_95, hc1_ok, k_96, k_97, k_98, hU⟩⟩, hS.F ht⟩) hS.2.2 dX12_weigh_56
    · have c_22 := kc_eq rfl (by decide : Int32.toInt 0 = 0) c_22
      refine lv_aload_n hx hb dX12_weigh_31 rfl (lv_at hl 0 rfl) ?_
      refine lv_bipush (v := (-2)) hx hb dX12_weigh_32 (by decide) ?_
      refine va_calli (va_runV (As := [.int (-2)]) (rest := []) ⟨hx, hb, hml, hown, hts⟩ (c_X12_refuse l dC dI g A hG f_6 h0 (-2) 0 z1 z10 z12 z13 z14 z15 z16 z17 z18 z23 z24 z25 z26 i_h0 k_9 (by first | omega | (simp only [k_c0]; omega)) (by first | omega | (simp only [k_c0]; omega)) (by first | omega | (simp only [k_c0]; omega)) (by decide)) (cwV 1 hts (gi_V (fun w_ h0_ => ⟨List.mem_cons_of_mem _ (List.mem_append_right _ (List.mem_append_right _ (List.mem_append_right _ (List.mem_append_right _ (List.mem_append_right _ (List.mem_append_right _ (List.mem_append_right _ (List.mem_append_right _ (List.mem_append_right _ (List.mem_append_right _ (List.mem_append_left _ h0_))))))))))), (tb_c_X12_refuse w_ h0_).2⟩) (List.mem_cons_of_mem _ (List.mem_append_left _ (List.mem_of_getElem? (i := 27) rfl))) (List.mem_cons_of_mem _ (List.mem_append_left _ (List.mem_of_getElem? (i := 28) rfl))) (List.mem_cons_of_mem _ (List.mem_append_left _ (List.mem_of_getElem? (i := 29) rfl))) (List.mem_cons_of_mem _ (List.mem_append_left _ (List.mem_of_getElem? (i := 4) rfl)))) rfl rfl rfl (by decide +kernel) ⟨Nat.le_of_ble_eq_true rfl, Nat.le_of_ble_eq_true rfl⟩) ⟨fun a U g mk q => ⟨q.1, q.2.calling rfl rfl⟩, k_recv hK hI i_h0.1 k_9 (ci := 12) rfl, fun U hU hW => ⟨rfl, kIn.of hI hK hE hS hU hW⟩⟩ rfl rfl hl.1 rfl (lv_room (Nat.le_of_ble_eq_true rfl)) dX12_weigh_34 ⟨Nat.le_of_ble_eq_true rfl, Nat.le_of_ble_eq_true rfl⟩) hS (fun q _ h => h) (fun q h => h) (fun r_103 u t H1 locs ht hvm w_102 hB hz1 hk1 hS => ?_)
      obtain ⟨f_101, hI, kc_104, k_105⟩ := hB
      rw [ht] at hI
      have k_106 : f_101 (gr g h0 4) = .inl (gc g 1, 906, .inr (.inl q)) := Kp.at kc_104 i_1 (by decide) k_10
      have k_107 : f_101 (gr g h0 5) = .inl (gc g 1, 9060, .inr (.inl u)) := Kp.at kc_104 i_3 (by decide) k_11
      have k_108 : f_101 (gr g h0 7) = .inl (gc g 1, 1812, .inr (.inl im)) := Kp.at kc_104 i_4 (by decide) k_12
      have k_109 : f_101 (gr g h0 8) = .inl (gc g 3, 2, .inl kt) := Kp.at kc_104 i_5 (by decide) k_13
      have k_105 : f_101 h0 = .inr (12, [.int (0 : Int32), .int (-2 : Int32), .ref (gr g h0 2), .ref (gr g h0 3), .ref (gr g h0 4), .ref (gr g h0 5), .ref (gr g h0 6), .ref (gr g h0 7), .ref (gr g h0 8), .ref (gr g h0 9), .int z10, .ref (gr g h0 11), .int z12, .int z13, .int z14, .int z15, .long z16, .int z17, .int z18, .ref (gr g h0 19), .ref (gr g h0 20), .ref (gr g h0 21), .ref (gr g h0 22), .int z23, .long z24, .long z25, .long z26]) := k_105
      have kp_110 := Kp.call kp_8 kc_104 (by decide)
      generalize H1 = H at hI hS ⊢
      refine W.widen (k := 0) (n := 0) (Nat.le_of_ble_eq_true rfl) (Nat.le_of_ble_eq_true rfl) ?_
      have w_102 : r_103.toInt = (-2 : Int32).toInt := w_102
      have g_111 : Int32.toInt ((-2)) = (-2) := by decide
      exact W.iret (v := r_103) hx hb hr (fun t ht hW => ⟨⟨r_103, (), rfl, trivial, ⟨f_101, k_ret ht hI, kp_110, (0 : Int32), (-2 : Int32), z10, z12, z13, z14, z15, z16, z17, z18, z23, z24, z25, z26, q, u, im, kt, k_105, (by first | omega | decide), (by first | omega | decide), (by first | omega | decide), k_106, hc1_ok, k_107, k_108, k_109, hU⟩⟩, hS.F ht⟩) hS.2.2 dX12_weigh_37
  · have c_19 := kc_eq rfl (by decide : Int32.toInt 0 = 0) c_19
    refine lv_aload_n hx hb dX12_weigh_17 rfl (lv_at hl 0 rfl) ?_
    refine lv_iconst (v := (-1)) hx hb dX12_weigh_18 (by decide) ?_
    refine va_calli (va_runV (As := [.int (-1)]) (rest := []) ⟨hx, hb, hml, hown, hts⟩ (c_X12_refuse l dC dI g A hG f_6 h0 (-1) 0 z1 z10 z12 z13 z14 z15 z16 z17 z18 z23 z24 z25 z26 i_h0 k_9 (by first | omega | (simp only [k_c0]; omega)) (by first | omega | (simp only [k_c0]; omega)) (by first | omega | (simp only [k_c0]; omega)) (by decide)) (cwV 1 hts (gi_V (fun w_ h0_ => ⟨List.mem_cons_of_mem _ (List.mem_append_right _ (List.mem_append_right _ (List.mem_append_right _ (List.mem_append_right _ (List.mem_append_right _ (List.mem_append_right _ (List.mem_append_right _ (List.mem_append_right _ (List.mem_append_right _ (List.mem_append_right _ (List.mem_append_left _ h0_))))))))))), (tb_c_X12_refuse w_ h0_).2⟩) (List.mem_cons_of_mem _ (List.mem_append_left _ (List.mem_of_getElem? (i := 27) rfl))) (List.mem_cons_of_mem _ (List.mem_append_left _ (List.mem_of_getElem? (i := 28) rfl))) (List.mem_cons_of_mem _ (List.mem_append_left _ (List.mem_of_getElem? (i := 29) rfl))) (List.mem_cons_of_mem _ (List.mem_append_left _ (List.mem_of_getElem? (i := 4) rfl)))) rfl rfl rfl (by decide +kernel) ⟨Nat.le_of_ble_eq_true rfl, Nat.le_of_ble_eq_true rfl⟩) ⟨fun a U g mk q => ⟨q.1, q.2.calling rfl rfl⟩, k_recv hK hI i_h0.1 k_9 (ci := 12) rfl, fun U hU hW => ⟨rfl, kIn.of hI hK hE hS hU hW⟩⟩ rfl rfl hl.1 rfl (lv_room (Nat.le_of_ble_eq_true rfl)) dX12_weigh_19 ⟨Nat.le_of_ble_eq_true rfl, Nat.le_of_ble_eq_true rfl⟩) hS (fun q _ h => h) (fun q h => h) (fun r_114 u t H1 locs ht hvm w_113 hB hz1 hk1 hS => ?_)
    obtain ⟨f_112, hI, kc_115, k_116⟩ := hB
    rw [ht] at hI
    have k_117 : f_112 (gr g h0 4) = .inl (gc g 1, 906, .inr (.inl q)) := Kp.at kc_115 i_1 (by decide) k_10
    have k_118 : f_112 (gr g h0 5) = .inl (gc g 1, 9060, .inr (.inl u)) := Kp.at kc_115 i_3 (by decide) k_11
    have k_119 : f_112 (gr g h0 7) = .inl (gc g 1, 1812, .inr (.inl im)) := Kp.at kc_115 i_4 (by decide) k_12
    have k_120 : f_112 (gr g h0 8) = .inl (gc g 3, 2, .inl kt) := Kp.at kc_115 i_5 (by decide) k_13
    have k_116 : f_112 h0 = .inr (12, [.int (0 : Int32), .int (-1 : Int32), .ref (gr g h0 2), .ref (gr g h0 3), .ref (gr g h0 4), .ref (gr g h0 5), .ref (gr g h0 6), .ref (gr g h0 7), .ref (gr g h0 8), .ref (gr g h0 9), .int z10, .ref (gr g h0 11), .int z12, .int z13, .int z14, .int z15, .long z16, .int z17, .int z18, .ref (gr g h0 19), .ref (gr g h0 20), .ref (gr g h0 21), .ref (gr g h0 22), .int z23, .long z24, .long z25, .long z26]) := k_116
    have kp_121 := Kp.call kp_8 kc_115 (by decide)
    generalize H1 = H at hI hS ⊢
    refine W.widen (k := 0) (n := 0) (Nat.le_of_ble_eq_true rfl) (Nat.le_of_ble_eq_true rfl) ?_
    have w_113 : r_114.toInt = (-1 : Int32).toInt := w_113
    have g_122 : Int32.toInt ((-1)) = (-1) := by decide
    exact W.iret (v := r_114) hx hb hr (fun t ht hW => ⟨⟨r_114, (), rfl, trivial, ⟨f_112, k_ret ht hI, kp_121, (0 : Int32), (-1 : Int32), z10, z12, z13, z14, z15, z16, z17, z18, z23, z24, z25, z26, q, u, im, kt, k_116, (by first | omega | decide), (by first | omega | decide), (by first | omega | decide), k_117, hc1_ok, k_118, k_119, k_120, hU⟩⟩, hS.F ht⟩) hS.2.2 dX12_weigh_22
theorem tw_970 : q_g (.constantLong RX12 137 (20)) := ⟨(List.mem_append_right _ (List.mem_of_getElem? (i := 1222) (by decide +kernel))), good_of_word (by decide +kernel)⟩
theorem tw_971 : q_g (.code yX12_slice cX12_slice 4 (some .int)) := ⟨(List.mem_append_right _ (List.mem_of_getElem? (i := 1302) (by decide +kernel))), good_of_word (by decide +kernel)⟩
def ow_c_X12_slice : List Cond := [.fieldLink RX12 67 "DeadlineShareModel" "thrown" "I", .constantLong RX12 137 (20), .methodLink RX12 83 yX12_in, .static yX12_in, .initialized RX12, .methodLink RX12 142 yX12_isTask, .instanceMethod yX12_isTask, .selects RX12 yX12_isTask yX12_isTask, .fieldLink RX12 16 "DeadlineShareModel" "row" "[J", .methodLink RX12 87 yX12_at, .static yX12_at, .methodLink RX12 139 yX12_remember, .instanceMethod yX12_remember, .selects RX12 yX12_remember yX12_remember, .methodLink RX12 161 yX12_slices, .instanceMethod yX12_slices, .selects RX12 yX12_slices yX12_slices, .methodLink RX12 80 yX12_tell, .instanceMethod yX12_tell, .selects RX12 yX12_tell yX12_tell, .methodLink RX12 76 yX12_refuse, .instanceMethod yX12_refuse, .selects RX12 yX12_refuse yX12_refuse]
def wq_c_X12_slice : List Cond := .code yX12_slice cX12_slice 4 (some .int) :: (ow_c_X12_slice ++ (u_ws RX12 TX12 27 ++ (wq_c_X12_in ++ (wq_c_X12_isTask ++ (wq_c_X12_at ++ (wq_c_X12_remember ++ (wq_c_X12_slices ++ (wq_c_X12_tell ++ (wq_c_X12_refuse ++ ([] : List Cond))))))))))
theorem tb_c_X12_slice : ∀ w ∈ wq_c_X12_slice, q_g w := by
  unfold wq_c_X12_slice ow_c_X12_slice
  exact q_cons tw_971 (q_app (q_cons tw_927 (q_cons tw_970 (q_cons tw_730 (q_cons tw_729 (q_cons tw_728 (q_cons tw_951 (q_cons tw_950 (q_cons tw_949 (q_cons tw_731 (q_cons tw_734 (q_cons tw_733 (q_cons tw_963 (q_cons tw_962 (q_cons tw_961 (q_cons tw_831 (q_cons tw_830 (q_cons tw_829 (q_cons tw_960 (q_cons tw_959 (q_cons tw_958 (q_cons tw_966 (q_cons tw_965 (q_cons tw_964 q_nil))))))))))))))))))))))) (q_app tu_X12 (q_app tb_c_X12_in (q_app tb_c_X12_isTask (q_app tb_c_X12_at (q_app tb_c_X12_remember (q_app tb_c_X12_slices (q_app tb_c_X12_tell (q_app tb_c_X12_refuse q_nil)))))))))
set_option maxHeartbeats 4000000 in
set_option maxRecDepth 100000 in
theorem c_X12_slice (l : Launch) (dC : Nat → ClassId) (dI : Nat → Nat → Nat) (g : kG) (A : Nat → Prop) (hG : kWf g) (f : Nat → va_E) (h0 : Nat) (p1 : Int32) (p2 : Int32) (z0 : Int32) (z1 : Int32) (z10 : Int32) (z12 : Int32) (z13 : Int32) (z14 : Int32) (z15 : Int32) (z16 : Int64) (z17 : Int32) (z18 : Int32) (z23 : Int32) (z24 : Int64) (z25 : Int64) (z26 : Int64) (q : Nat → Int64) (u : Nat → Int64) (im : Nat → Int64) (kt : Nat → Int32) (i_h0 : ik g 12 h0) (hc0 : f h0 = .inr (12, [.int z0, .int z1, .ref (gr g h0 2), .ref (gr g h0 3), .ref (gr g h0 4), .ref (gr g h0 5), .ref (gr g h0 6), .ref (gr g h0 7), .ref (gr g h0 8), .ref (gr g h0 9), .int z10, .ref (gr g h0 11), .int z12, .int z13, .int z14, .int z15, .long z16, .int z17, .int z18, .ref (gr g h0 19), .ref (gr g h0 20), .ref (gr g h0 21), .ref (gr g h0 22), .int z23, .long z24, .long z25, .long z26])) (hc0_10 : 0 ≤ z10.toInt ∧ z10.toInt ≤ 10) (hc0_12 : 0 ≤ z12.toInt ∧ z12.toInt ≤ 200) (hc0_23 : 0 ≤ z23.toInt ∧ z23.toInt ≤ 8) (hc1 : f (gr g h0 4) = .inl (gc g 1, 906, .inr (.inl q))) (hc1_ok : RowOK q) (hc2 : f (gr g h0 5) = .inl (gc g 1, 9060, .inr (.inl u))) (hc3 : f (gr g h0 7) = .inl (gc g 1, 1812, .inr (.inl im))) (hc4 : f (gr g h0 8) = .inl (gc g 3, 2, .inl kt)) (hU : UIq z10 u im kt) : Met l yX12_slice wq_c_X12_slice ({ frames := 2, cells := 0, slots := 0, locals := 46 } : Room) (va_Pc [.ref h0, .int p1, .int p2] (fun U => kIn dC dI g A f U)) (va_Qi (fun (r : Int32) (_ : Unit) => True) (fun (_ : Unit) t => ∃ f1 : Nat → va_E, Iv dC dI g A f1 t.heap ∧ Kp g [12, 30, 32, 33, 37] f f1 ∧ ∃ (w0 : Int32) (w1 : Int32) (w10 : Int32) (w12 : Int32) (w13 : Int32) (w14 : Int32) (w15 : Int32) (w16 : Int64) (w17 : Int32) (w18 : Int32) (w23 : Int32) (w24 : Int64) (w25 : Int64) (w26 : Int64) (q1 : Nat → Int64) (u1 : Nat → Int64) (im1 : Nat → Int64) (ik1 : Nat → Int32), (f1 h0 = .inr (12, [.int w0, .int w1, .ref (gr g h0 2), .ref (gr g h0 3), .ref (gr g h0 4), .ref (gr g h0 5), .ref (gr g h0 6), .ref (gr g h0 7), .ref (gr g h0 8), .ref (gr g h0 9), .int w10, .ref (gr g h0 11), .int w12, .int w13, .int w14, .int w15, .long w16, .int w17, .int w18, .ref (gr g h0 19), .ref (gr g h0 20), .ref (gr g h0 21), .ref (gr g h0 22), .int w23, .long w24, .long w25, .long w26])) ∧ (0 ≤ w10.toInt ∧ w10.toInt ≤ 10) ∧ (0 ≤ w12.toInt ∧ w12.toInt ≤ 200) ∧ (0 ≤ w23.toInt ∧ w23.toInt ≤ 8) ∧ (f1 (gr g h0 4) = .inl (gc g 1, 906, .inr (.inl q1))) ∧ (RowOK q1) ∧ (f1 (gr g h0 5) = .inl (gc g 1, 9060, .inr (.inl u1))) ∧ (f1 (gr g h0 7) = .inl (gc g 1, 1812, .inr (.inl im1))) ∧ (f1 (gr g h0 8) = .inl (gc g 3, 2, .inl ik1)) ∧ (UIq w10 u1 im1 ik1)) A) 0 0 A := by
  refine Met.ofW (cc := cX12_slice) (maxL := 4) (ret := (some .int)) (by decide) rfl ?_
  intro p e s m args below meth c s₁ B hml hv
  obtain ⟨rfl, hI, hK, hE⟩ := hv
  have hx := B.exec
  have hb := B.bytes
  have hr := B.returns
  have hts := atoms_spec (ws := wq_c_X12_slice) B.pre
  have hown : s.vm.findClass RX12 = some m.cls := findClass_of_methodNamed B.named
  have hlocks := B.notSynchronized
  have hS : va_S A s.heap s.heap [] := va_S.rf
  have hk0 : Kp g [12, 30, 32, 33, 37] f f := Kp.rf
  have hl := lv_entry ([.ref h0, .int p1, .int p2]) (n := 4) (Nat.le_of_ble_eq_true rfl)
  rw [lg_entry_eq]
  generalize (lg_sl ([.ref h0, .int p1, .int p2]) ++ List.replicate (4 - (lg_sl ([.ref h0, .int p1, .int p2])).length) Slot.unset).toArray = ls at hl ⊢
  have hl : lv_has ls 4 [(0, .ref h0), (1, .int p1), (2, .int p2)] := hl
  have i_1 := kw_12_4 hG i_h0
  have d_2 := rk_hd hc1_ok
  have i_3 := kw_12_5 hG i_h0
  have i_4 := kw_12_7 hG i_h0
  have i_5 := kw_12_8 hG i_h0
  refine lv_aload_n hx hb dX12_slice_0 rfl (lv_at hl 0 rfl) ?_
  refine lv_iconst (v := 0) hx hb dX12_slice_1 (by decide) ?_
  refine k_put (ci := 12) (v := .int 0) (ty := .int) (C := RX12) (T := TX12) (N := 27) hx hb hts (fun _ h0_ => List.mem_cons_of_mem _ (List.mem_append_right _ (List.mem_append_left _ h0_))) tyX12 tyX12_ok nmX12 hown hK hI hS i_h0.1 hc0 rfl 0 (by decide) (hts (.fieldLink RX12 67 "DeadlineShareModel" "thrown" "I") (List.mem_cons_of_mem _ (List.mem_append_left _ (List.mem_of_getElem? (i := 0) rfl)))) (fun _ h9 => h9) rfl (by decide +kernel) rfl rfl (Nat.le_of_ble_eq_true rfl) rfl (cl_12 i_h0 (by omega) (by omega) (by omega)) dX12_slice_2 (fun f_6 H locs e_7 hI hS => ?_)
  have k_9 : f_6 h0 = .inr (12, [.int 0, .int z1, .ref (gr g h0 2), .ref (gr g h0 3), .ref (gr g h0 4), .ref (gr g h0 5), .ref (gr g h0 6), .ref (gr g h0 7), .ref (gr g h0 8), .ref (gr g h0 9), .int z10, .ref (gr g h0 11), .int z12, .int z13, .int z14, .int z15, .long z16, .int z17, .int z18, .ref (gr g h0 19), .ref (gr g h0 20), .ref (gr g h0 21), .ref (gr g h0 22), .int z23, .long z24, .long z25, .long z26]) := by rw [e_7]; exact va_up_self _ _ _
  have k_10 : f_6 (gr g h0 4) = .inl (gc g 1, 906, .inr (.inl q)) := by rw [e_7, va_up_ne _ _ (ik_ne i_1 i_h0 (by decide))]; exact hc1
  have k_11 : f_6 (gr g h0 5) = .inl (gc g 1, 9060, .inr (.inl u)) := by rw [e_7, va_up_ne _ _ (ik_ne i_3 i_h0 (by decide))]; exact hc2
  have k_12 : f_6 (gr g h0 7) = .inl (gc g 1, 1812, .inr (.inl im)) := by rw [e_7, va_up_ne _ _ (ik_ne i_4 i_h0 (by decide))]; exact hc3
  have k_13 : f_6 (gr g h0 8) = .inl (gc g 3, 2, .inl kt) := by rw [e_7, va_up_ne _ _ (ik_ne i_5 i_h0 (by decide))]; exact hc4
  have kp_8 := Kp.put hk0 i_h0 (by decide) e_7
  refine lv_iload_n hx hb dX12_slice_5 rfl (lv_at hl 2 rfl) ?_
  refine lv_i2l (v := p2.toInt64) hx hb dX12_slice_6 rfl ?_
  have t_14 := Int32.toInt_toInt64 p2
  refine lv_lconst (v := 1) hx hb dX12_slice_7 (by decide) ?_
  refine lv_ldc2 hx hb hown (hts (.constantLong RX12 137 (20)) (List.mem_cons_of_mem _ (List.mem_append_left _ (List.mem_of_getElem? (i := 1) rfl)))) dX12_slice_8 ?_
  refine va_calli (va_runS (As := [.long p2.toInt64, .long 1, .long 20]) (rest := []) ⟨hx, hb, hml, hown, hts⟩ (c_X12_in l dC dI g A hG f_6 p2.toInt64 1 20) (va_cwS 3 hts (gi_S (fun w_ h0_ => ⟨List.mem_cons_of_mem _ (List.mem_append_right _ (List.mem_append_right _ (List.mem_append_left _ h0_))), (tb_c_X12_in w_ h0_).2⟩) (List.mem_cons_of_mem _ (List.mem_append_left _ (List.mem_of_getElem? (i := 2) rfl))) (List.mem_cons_of_mem _ (List.mem_append_left _ (List.mem_of_getElem? (i := 3) rfl))) (List.mem_cons_of_mem _ (List.mem_append_left _ (List.mem_of_getElem? (i := 4) rfl)))) rfl rfl rfl (by decide +kernel) ⟨Nat.le_of_ble_eq_true rfl, Nat.le_of_ble_eq_true rfl⟩) ⟨fun a U g mk q => ⟨q.1, q.2.calling rfl rfl⟩, fun U hU hW => ⟨rfl, kIn.of hI hK hE hS hU hW⟩⟩ rfl rfl hl.1 rfl (lv_room (Nat.le_of_ble_eq_true rfl)) dX12_slice_11 ⟨Nat.le_of_ble_eq_true rfl, Nat.le_of_ble_eq_true rfl⟩) hS (fun q _ h => h) (fun q h => h) (fun r_16 u t H1 locs ht hvm w_15 hB hz1 hk1 hS => ?_)
  have hI : Iv dC dI g A f_6 t.heap := hB
  rw [ht] at hI
  generalize H1 = H at hI hS ⊢
  refine W.widen (k := 0) (n := 0) (Nat.le_of_ble_eq_true rfl) (Nat.le_of_ble_eq_true rfl) ?_
  have w_15 : (r_16.toInt = 0 ∧ (p2.toInt64.toInt < (1 : Int64).toInt ∨ (20 : Int64).toInt < p2.toInt64.toInt)) ∨ (r_16.toInt = 1 ∧ (1 : Int64).toInt ≤ p2.toInt64.toInt ∧ p2.toInt64.toInt ≤ (20 : Int64).toInt) := w_15
  have g_17 : Int64.toInt (1) = 1 := by decide
  have g_18 : Int64.toInt (20) = 20 := by decide
  refine lv_if_ne (tgt := 23) hx hb dX12_slice_14 (by decide) (fun c_19 => ?_) (fun c_19 => ?_)
  · have c_19 := kn_eq rfl (by decide : Int32.toInt 0 = 0) c_19
    refine lv_aload_n hx hb dX12_slice_23 rfl (lv_at hl 0 rfl) ?_
    refine lv_iload_n hx hb dX12_slice_24 rfl (lv_at hl 1 rfl) ?_
    refine va_calli (va_runV (As := [.int p1]) (rest := []) ⟨hx, hb, hml, hown, hts⟩ (c_X12_isTask l dC dI g A hG f_6 h0 p1 q i_h0 k_10 hc1_ok) (cwV 1 hts (gi_V (fun w_ h0_ => ⟨List.mem_cons_of_mem _ (List.mem_append_right _ (List.mem_append_right _ (List.mem_append_right _ (List.mem_append_left _ h0_)))), (tb_c_X12_isTask w_ h0_).2⟩) (List.mem_cons_of_mem _ (List.mem_append_left _ (List.mem_of_getElem? (i := 5) rfl))) (List.mem_cons_of_mem _ (List.mem_append_left _ (List.mem_of_getElem? (i := 6) rfl))) (List.mem_cons_of_mem _ (List.mem_append_left _ (List.mem_of_getElem? (i := 7) rfl))) (List.mem_cons_of_mem _ (List.mem_append_left _ (List.mem_of_getElem? (i := 4) rfl)))) rfl rfl rfl (by decide +kernel) ⟨Nat.le_of_ble_eq_true rfl, Nat.le_of_ble_eq_true rfl⟩) ⟨fun a U g mk q => ⟨q.1, q.2.calling rfl rfl⟩, k_recv hK hI i_h0.1 k_9 (ci := 12) rfl, fun U hU hW => ⟨rfl, kIn.of hI hK hE hS hU hW⟩⟩ rfl rfl hl.1 rfl (lv_room (Nat.le_of_ble_eq_true rfl)) dX12_slice_25 ⟨Nat.le_of_ble_eq_true rfl, Nat.le_of_ble_eq_true rfl⟩) hS (fun q _ h => h) (fun q h => h) (fun r_21 u t H1 locs ht hvm w_20 hB hz1 hk1 hS => ?_)
    have hI : Iv dC dI g A f_6 t.heap := hB
    rw [ht] at hI
    generalize H1 = H at hI hS ⊢
    refine W.widen (k := 0) (n := 0) (Nat.le_of_ble_eq_true rfl) (Nat.le_of_ble_eq_true rfl) ?_
    have w_20 : (r_21.toInt = 0 ∨ r_21.toInt = 1) ∧ (r_21.toInt = 0 ∨ (0 ≤ p1.toInt ∧ p1.toInt < (q 0).toInt)) := w_20
    refine lv_if_ne (tgt := 38) hx hb dX12_slice_28 (by decide) (fun c_22 => ?_) (fun c_22 => ?_)
    · have c_22 := kn_eq rfl (by decide : Int32.toInt 0 = 0) c_22
      refine lv_aload_n hx hb dX12_slice_38 rfl (lv_at hl 0 rfl) ?_
      refine k_get (ci := 12) (v := .ref (gr g h0 4)) (C := RX12) (T := TX12) (N := 27) hx hb hts (fun _ h0_ => List.mem_cons_of_mem _ (List.mem_append_right _ (List.mem_append_left _ h0_))) hown hK hI i_h0.1 k_9 rfl 4 (by decide) (hts (.fieldLink RX12 16 "DeadlineShareModel" "row" "[J") (List.mem_cons_of_mem _ (List.mem_append_left _ (List.mem_of_getElem? (i := 8) rfl)))) (fun _ h9 => h9) rfl dX12_slice_39 ?_
      obtain ⟨m_25, em_25, tm_25⟩ := k_nat (x := p1) (by omega)
      refine lv_iload_n hx hb dX12_slice_42 rfl (lv_at hl 1 rfl) ?_
      refine k_topi (y := nI m_25) em_25 ?_
      refine va_calli (va_runS (As := [.int (nI m_25)]) (rest := [.ref (gr g h0 4)]) ⟨hx, hb, hml, hown, hts⟩ (c_X12_at l dC dI g A hG f_6 m_25) (va_cwS 1 hts (gi_S (fun w_ h0_ => ⟨List.mem_cons_of_mem _ (List.mem_append_right _ (List.mem_append_right _ (List.mem_append_right _ (List.mem_append_right _ (List.mem_append_left _ h0_))))), (tb_c_X12_at w_ h0_).2⟩) (List.mem_cons_of_mem _ (List.mem_append_left _ (List.mem_of_getElem? (i := 9) rfl))) (List.mem_cons_of_mem _ (List.mem_append_left _ (List.mem_of_getElem? (i := 10) rfl))) (List.mem_cons_of_mem _ (List.mem_append_left _ (List.mem_of_getElem? (i := 4) rfl)))) rfl rfl rfl (by decide +kernel) ⟨Nat.le_of_ble_eq_true rfl, Nat.le_of_ble_eq_true rfl⟩) ⟨fun a U g mk q => ⟨q.1, q.2.calling rfl rfl⟩, fun U hU hW => ⟨rfl, kIn.of hI hK hE hS hU hW⟩⟩ rfl rfl hl.1 rfl (lv_room (Nat.le_of_ble_eq_true rfl)) dX12_slice_43 ⟨Nat.le_of_ble_eq_true rfl, Nat.le_of_ble_eq_true rfl⟩) hS (fun q _ h => h) (fun q h => h) (fun r_27 u t H1 locs ht hvm w_26 hB hz1 hk1 hS => ?_)
      have hI : Iv dC dI g A f_6 t.heap := hB
      rw [ht] at hI
      generalize H1 = H at hI hS ⊢
      refine W.widen (k := 0) (n := 0) (Nat.le_of_ble_eq_true rfl) (Nat.le_of_ble_eq_true rfl) ?_
      have w_26 : r_27 = nI (6 + 43 * m_25) := w_26
      refine k_topi (y := nI (6 + 43 * m_25)) w_26 ?_
      refine lv_iconst (v := 1) hx hb dX12_slice_46 (by decide) ?_
      refine lv_iadd hx hb dX12_slice_47 ?_
      refine k_topi (y := nI (6 + 43 * m_25 + 1)) ((nI_add (6 + 43 * m_25) 1).trans (congrArg nI (by omega))) ?_
      refine k_lald hx hb hK hI i_1.1 1 k_10 rfl (vp_in_nI (by omega) (by omega)) dX12_slice_48 ?_
      refine k_topl (y := q (6 + 43 * m_25 + 1)) (congrArg q (nI_clamp (by omega))) ?_
      refine lv_l2i (v := (q (6 + 43 * m_25 + 1)).toInt32) hx hb dX12_slice_49 rfl ?_
      refine lv_topi (fun v_28 ev_28 => ?_)
      have tv_28 := k_l2i (q (6 + 43 * m_25 + 1))
      rw [← ev_28] at tv_28
      refine lv_istore_n (lv' := [(3, .int v_28), (0, .ref h0), (1, .int p1), (2, .int p2)]) hx hb dX12_slice_50 rfl hl (by decide) rfl (fun ls hl => ?_)
      refine lv_iload_n hx hb dX12_slice_51 rfl (lv_at hl 0 rfl) ?_
      refine lv_iload_n hx hb dX12_slice_52 rfl (lv_at hl 3 rfl) ?_
      refine lv_icmp_ne (tgt := 63) hx hb dX12_slice_53 (by decide) (fun c_29 => ?_) (fun c_29 => ?_)
      · have c_29 := kn_eq rfl rfl c_29
        refine lv_aload_n hx hb dX12_slice_63 rfl (lv_at hl 1 rfl) ?_
        refine lv_iconst (v := 4) hx hb dX12_slice_64 (by decide) ?_
        refine va_callv (va_runV (As := [.int 4]) (rest := []) ⟨hx, hb, hml, hown, hts⟩ (c_X12_remember l dC dI g A hG f_6 h0 4 0 z1 z10 z12 z13 z14 z15 z16 z17 z18 z23 z24 z25 z26 q u im kt i_h0 k_9 (by first | omega | (simp only [k_c0]; omega)) (by first | omega | (simp only [k_c0]; omega)) (by first | omega | (simp only [k_c0]; omega)) k_10 hc1_ok k_11 k_12 k_13 (by decide)) (cwV 1 hts (gi_V (fun w_ h0_ => ⟨List.mem_cons_of_mem _ (List.mem_append_right _ (List.mem_append_right _ (List.mem_append_right _ (List.mem_append_right _ (List.mem_append_right _ (List.mem_append_left _ h0_)))))), (tb_c_X12_remember w_ h0_).2⟩) (List.mem_cons_of_mem _ (List.mem_append_left _ (List.mem_of_getElem? (i := 11) rfl))) (List.mem_cons_of_mem _ (List.mem_append_left _ (List.mem_of_getElem? (i := 12) rfl))) (List.mem_cons_of_mem _ (List.mem_append_left _ (List.mem_of_getElem? (i := 13) rfl))) (List.mem_cons_of_mem _ (List.mem_append_left _ (List.mem_of_getElem? (i := 4) rfl)))) rfl rfl rfl (by decide +kernel) ⟨Nat.le_of_ble_eq_true rfl, Nat.le_of_ble_eq_true rfl⟩) ⟨fun a U g mk q => ⟨q.1, q.2.calling rfl rfl⟩, k_recv hK hI i_h0.1 k_9 (ci := 12) rfl, fun U hU hW => ⟨rfl, kIn.of hI hK hE hS hU hW⟩⟩ rfl rfl hl.1 rfl (lv_room (Nat.le_of_ble_eq_true rfl)) dX12_slice_65 ⟨Nat.le_of_ble_eq_true rfl, Nat.le_of_ble_eq_true rfl⟩) hS (fun q _ h => h) (fun q h => h) (fun u t H1 locs ht hvm _ hB hz1 hk1 hS => ?_)
        obtain ⟨f_30, hI, kc_32, w10_33, u1_34, k_35, z_36, k_37, z_38⟩ := hB
        rw [ht] at hI
        have k_39 : f_30 (gr g h0 4) = .inl (gc g 1, 906, .inr (.inl q)) := Kp.at kc_32 i_1 (by decide) k_10
        have k_40 : f_30 (gr g h0 7) = .inl (gc g 1, 1812, .inr (.inl im)) := Kp.at kc_32 i_4 (by decide) k_12
        have k_41 : f_30 (gr g h0 8) = .inl (gc g 3, 2, .inl kt) := Kp.at kc_32 i_5 (by decide) k_13
        have k_35 : f_30 h0 = .inr (12, [.int (0 : Int32), .int z1, .ref (gr g h0 2), .ref (gr g h0 3), .ref (gr g h0 4), .ref (gr g h0 5), .ref (gr g h0 6), .ref (gr g h0 7), .ref (gr g h0 8), .ref (gr g h0 9), .int w10_33, .ref (gr g h0 11), .int z12, .int z13, .int z14, .int z15, .long z16, .int z17, .int z18, .ref (gr g h0 19), .ref (gr g h0 20), .ref (gr g h0 21), .ref (gr g h0 22), .int z23, .long z24, .long z25, .long z26]) := k_35
        have z_36 : 0 ≤ w10_33.toInt ∧ w10_33.toInt ≤ 10 := z_36
        have z_38 : UIq w10_33 u1_34 im kt := z_38
        have kp_42 := Kp.call kp_8 kc_32 (by decide)
        generalize H1 = H at hI hS ⊢
        refine W.widen (k := 0) (n := 0) (Nat.le_of_ble_eq_true rfl) (Nat.le_of_ble_eq_true rfl) ?_
        refine lv_aload_n hx hb dX12_slice_68 rfl (lv_at hl 1 rfl) ?_
        refine lv_iload_n hx hb dX12_slice_69 rfl (lv_at hl 2 rfl) ?_
        refine k_topi (y := nI m_25) em_25 ?_
        refine lv_iload_n hx hb dX12_slice_70 rfl (lv_at hl 3 rfl) ?_
        refine lv_i2l (v := p2.toInt64) hx hb dX12_slice_71 rfl ?_
        have t_43 := Int32.toInt_toInt64 p2
        refine va_callv (va_runV (As := [.int (nI m_25), .long p2.toInt64]) (rest := []) ⟨hx, hb, hml, hown, hts⟩ (c_X12_slices l dC dI g A hG f_30 h0 m_25 p2.toInt64 q i_h0 k_39 hc1_ok (by first | omega | decide | (simp only [k_c0, k_c1, k_cm1]; omega))) (cwV 2 hts (gi_V (fun w_ h0_ => ⟨List.mem_cons_of_mem _ (List.mem_append_right _ (List.mem_append_right _ (List.mem_append_right _ (List.mem_append_right _ (List.mem_append_right _ (List.mem_append_right _ (List.mem_append_left _ h0_))))))), (tb_c_X12_slices w_ h0_).2⟩) (List.mem_cons_of_mem _ (List.mem_append_left _ (List.mem_of_getElem? (i := 14) rfl))) (List.mem_cons_of_mem _ (List.mem_append_left _ (List.mem_of_getElem? (i := 15) rfl))) (List.mem_cons_of_mem _ (List.mem_append_left _ (List.mem_of_getElem? (i := 16) rfl))) (List.mem_cons_of_mem _ (List.mem_append_left _ (List.mem_of_getElem? (i := 4) rfl)))) rfl rfl rfl (by decide +kernel) ⟨Nat.le_of_ble_eq_true rfl, Nat.le_of_ble_eq_true rfl⟩) ⟨fun a U g mk q => ⟨q.1, q.2.calling rfl rfl⟩, k_recv hK hI i_h0.1 k_35 (ci := 12) rfl, fun U hU hW => ⟨rfl, kIn.of hI hK hE hS hU hW⟩⟩ rfl rfl hl.1 rfl (lv_room (Nat.le_of_ble_eq_true rfl)) dX12_slice_72 ⟨Nat.le_of_ble_eq_true rfl, Nat.le_of_ble_eq_true rfl⟩) hS (fun q _ h => h) (fun q h => h) (fun u t H1 locs ht hvm _ hB hz1 hk1 hS => ?_)
        obtain ⟨f_44, hI, kc_46, q1_47, k_48, z_49, z_50, z_51, z_52⟩ := hB
        rw [ht] at hI
        have k_53 : f_44 (gr g h0 7) = .inl (gc g 1, 1812, .inr (.inl im)) := Kp.at kc_46 i_4 (by decide) k_40
        have k_54 : f_44 (gr g h0 8) = .inl (gc g 3, 2, .inl kt) := Kp.at kc_46 i_5 (by decide) k_41
        have k_55 : f_44 h0 = .inr (12, [.int (0 : Int32), .int z1, .ref (gr g h0 2), .ref (gr g h0 3), .ref (gr g h0 4), .ref (gr g h0 5), .ref (gr g h0 6), .ref (gr g h0 7), .ref (gr g h0 8), .ref (gr g h0 9), .int w10_33, .ref (gr g h0 11), .int z12, .int z13, .int z14, .int z15, .long z16, .int z17, .int z18, .ref (gr g h0 19), .ref (gr g h0 20), .ref (gr g h0 21), .ref (gr g h0 22), .int z23, .long z24, .long z25, .long z26]) := Kp.at kc_46 i_h0 (by decide) k_35
        have k_56 : f_44 (gr g h0 5) = .inl (gc g 1, 9060, .inr (.inl u1_34)) := Kp.at kc_46 i_3 (by decide) k_37
        have z_49 : RowOK q1_47 := z_49
        have d_57 := rk_hd z_49
        have z_50 : (q1_47 0).toInt = (q 0).toInt := z_50
        have z_51 : (q1_47 1).toInt = (q 1).toInt := z_51
        have z_52 : ∀ j : Nat, 11 ≤ j → j < 43 → q1_47 (6 + 43 * m_25 + j) = q (6 + 43 * m_25 + j) := z_52
        have kp_58 := Kp.call kp_42 kc_46 (by decide)
        generalize H1 = H at hI hS ⊢
        refine W.widen (k := 0) (n := 0) (Nat.le_of_ble_eq_true rfl) (Nat.le_of_ble_eq_true rfl) ?_
        refine lv_aload_n hx hb dX12_slice_75 rfl (lv_at hl 1 rfl) ?_
        refine lv_iload_n hx hb dX12_slice_76 rfl (lv_at hl 0 rfl) ?_
        refine va_calli (va_runV (As := [.int v_28]) (rest := []) ⟨hx, hb, hml, hown, hts⟩ (c_X12_tell l dC dI g A hG f_44 h0 v_28 (0 : Int32) z1 w10_33 z12 z13 z14 z15 z16 z17 z18 z23 z24 z25 z26 i_h0 k_55 (by first | omega | (simp only [k_c0]; omega)) (by first | omega | (simp only [k_c0]; omega)) (by first | omega | (simp only [k_c0]; omega))) (cwV 1 hts (gi_V (fun w_ h0_ => ⟨List.mem_cons_of_mem _ (List.mem_append_right _ (List.mem_append_right _ (List.mem_append_right _ (List.mem_append_right _ (List.mem_append_right _ (List.mem_append_right _ (List.mem_append_right _ (List.mem_append_left _ h0_)))))))), (tb_c_X12_tell w_ h0_).2⟩) (List.mem_cons_of_mem _ (List.mem_append_left _ (List.mem_of_getElem? (i := 17) rfl))) (List.mem_cons_of_mem _ (List.mem_append_left _ (List.mem_of_getElem? (i := 18) rfl))) (List.mem_cons_of_mem _ (List.mem_append_left _ (List.mem_of_getElem? (i := 19) rfl))) (List.mem_cons_of_mem _ (List.mem_append_left _ (List.mem_of_getElem? (i := 4) rfl)))) rfl rfl rfl (by decide +kernel) ⟨Nat.le_of_ble_eq_true rfl, Nat.le_of_ble_eq_true rfl⟩) ⟨fun a U g mk q => ⟨q.1, q.2.calling rfl rfl⟩, k_recv hK hI i_h0.1 k_55 (ci := 12) rfl, fun U hU hW => ⟨rfl, kIn.of hI hK hE hS hU hW⟩⟩ rfl rfl hl.1 rfl (lv_room (Nat.le_of_ble_eq_true rfl)) dX12_slice_77 ⟨Nat.le_of_ble_eq_true rfl, Nat.le_of_ble_eq_true rfl⟩) hS (fun q _ h => h) (fun q h => h) (fun r_61 u t H1 locs ht hvm w_60 hB hz1 hk1 hS => ?_)
        obtain ⟨f_59, hI, kc_62, k_63⟩ := hB
        rw [ht] at hI
        have k_64 : f_59 (gr g h0 7) = .inl (gc g 1, 1812, .inr (.inl im)) := Kp.at kc_62 i_4 (by decide) k_53
        have k_65 : f_59 (gr g h0 8) = .inl (gc g 3, 2, .inl kt) := Kp.at kc_62 i_5 (by decide) k_54
        have k_66 : f_59 (gr g h0 5) = .inl (gc g 1, 9060, .inr (.inl u1_34)) := Kp.at kc_62 i_3 (by decide) k_56
        have k_67 : f_59 (gr g h0 4) = .inl (gc g 1, 906, .inr (.inl q1_47)) := Kp.at kc_62 i_1 (by decide) k_48
        have k_63 : f_59 h0 = .inr (12, [.int (0 : Int32), .int 0, .ref (gr g h0 2), .ref (gr g h0 3), .ref (gr g h0 4), .ref (gr g h0 5), .ref (gr g h0 6), .ref (gr g h0 7), .ref (gr g h0 8), .ref (gr g h0 9), .int w10_33, .ref (gr g h0 11), .int z12, .int z13, .int z14, .int z15, .long z16, .int z17, .int z18, .ref (gr g h0 19), .ref (gr g h0 20), .ref (gr g h0 21), .ref (gr g h0 22), .int z23, .long z24, .long z25, .long z26]) := k_63
        have kp_68 := Kp.call kp_58 kc_62 (by decide)
        generalize H1 = H at hI hS ⊢
        refine W.widen (k := 0) (n := 0) (Nat.le_of_ble_eq_true rfl) (Nat.le_of_ble_eq_true rfl) ?_
        have w_60 : r_61.toInt = v_28.toInt := w_60
        exact W.iret (v := r_61) hx hb hr (fun t ht hW => ⟨⟨r_61, (), rfl, trivial, ⟨f_59, k_ret ht hI, kp_68, (0 : Int32), 0, w10_33, z12, z13, z14, z15, z16, z17, z18, z23, z24, z25, z26, q1_47, u1_34, im, kt, k_63, (by first | omega | decide), (by first | omega | decide), (by first | omega | decide), k_67, z_49, k_66, k_64, k_65, z_38⟩⟩, hS.F ht⟩) hS.2.2 dX12_slice_80
      · have c_29 := kc_eq rfl rfl c_29
        refine lv_aload_n hx hb dX12_slice_56 rfl (lv_at hl 1 rfl) ?_
        refine lv_bipush (v := (-4)) hx hb dX12_slice_57 (by decide) ?_
        refine va_calli (va_runV (As := [.int (-4)]) (rest := []) ⟨hx, hb, hml, hown, hts⟩ (c_X12_refuse l dC dI g A hG f_6 h0 (-4) 0 z1 z10 z12 z13 z14 z15 z16 z17 z18 z23 z24 z25 z26 i_h0 k_9 (by first | omega | (simp only [k_c0]; omega)) (by first | omega | (simp only [k_c0]; omega)) (by first | omega | (simp only [k_c0]; omega)) (by decide)) (cwV 1 hts (gi_V (fun w_ h0_ => ⟨List.mem_cons_of_mem _ (List.mem_append_right _ (List.mem_append_right _ (List.mem_append_right _ (List.mem_append_right _ (List.mem_append_right _ (List.mem_append_right _ (List.mem_append_right _ (List.mem_append_right _ (List.mem_append_left _ h0_))))))))), (tb_c_X12_refuse w_ h0_).2⟩) (List.mem_cons_of_mem _ (List.mem_append_left _ (List.mem_of_getElem? (i := 20) rfl))) (List.mem_cons_of_mem _ (List.mem_append_left _ (List.mem_of_getElem? (i := 21) rfl))) (List.mem_cons_of_mem _ (List.mem_append_left _ (List.mem_of_getElem? (i := 22) rfl))) (List.mem_cons_of_mem _ (List.mem_append_left _ (List.mem_of_getElem? (i := 4) rfl)))) rfl rfl rfl (by decide +kernel) ⟨Nat.le_of_ble_eq_true rfl, Nat.le_of_ble_eq_true rfl⟩) ⟨fun a U g mk q => ⟨q.1, q.2.calling rfl rfl⟩, k_recv hK hI i_h0.1 k_9 (ci := 12) rfl, fun U hU hW => ⟨rfl, kIn.of hI hK hE hS hU hW⟩⟩ rfl rfl hl.1 rfl (lv_room (Nat.le_of_ble_eq_true rfl)) dX12_slice_59 ⟨Nat.le_of_ble_eq_true rfl, Nat.le_of_ble_eq_true rfl⟩) hS (fun q _ h => h) (fun q h => h) (fun r_71 u t H1 locs ht hvm w_70 hB hz1 hk1 hS => ?_)
        obtain ⟨f_69, hI, kc_72, k_73⟩ := hB
        rw [ht] at hI
        have k_74 : f_69 (gr g h0 4) = .inl (gc g 1, 906, .inr (.inl q)) := Kp.at kc_72 i_1 (by decide) k_10
        have k_75 : f_69 (gr g h0 5) = .inl (gc g 1, 9060, .inr (.inl u)) := Kp.at kc_72 i_3 (by decide) k_11
        have k_76 : f_69 (gr g h0 7) = .inl (gc g 1, 1812, .inr (.inl im)) := Kp.at kc_72 i_4 (by decide) k_12
        have k_77 : f_69 (gr g h0 8) = .inl (gc g 3, 2, .inl kt) := Kp.at kc_72 i_5 (by decide) k_13
        have k_73 : f_69 h0 = .inr (12, [.int (0 : Int32), .int (-4 : Int32), .ref (gr g h0 2), .ref (gr g h0 3), .ref (gr g h0 4), .ref (gr g h0 5), .ref (gr g h0 6), .ref (gr g h0 7), .ref (gr g h0 8), .ref (gr g h0 9), .int z10, .ref (gr g h0 11), .int z12, .int z13, .int z14, .int z15, .long z16, .int z17, .int z18, .ref (gr g h0 19), .ref (gr g h0 20), .ref (gr g h0 21), .ref (gr g h0 22), .int z23, .long z24, .long z25, .long z26]) := k_73
        have kp_78 := Kp.call kp_8 kc_72 (by decide)
        generalize H1 = H at hI hS ⊢
        refine W.widen (k := 0) (n := 0) (Nat.le_of_ble_eq_true rfl) (Nat.le_of_ble_eq_true rfl) ?_
        have w_70 : r_71.toInt = (-4 : Int32).toInt := w_70
        have g_79 : Int32.toInt ((-4)) = (-4) := by decide
        exact W.iret (v := r_71) hx hb hr (fun t ht hW => ⟨⟨r_71, (), rfl, trivial, ⟨f_69, k_ret ht hI, kp_78, (0 : Int32), (-4 : Int32), z10, z12, z13, z14, z15, z16, z17, z18, z23, z24, z25, z26, q, u, im, kt, k_73, (by first | omega | decide), (by first | omega | decide), (by first | omega | decide), k_74, hc1_ok, k_75, k_76, k_77, hU⟩⟩, hS.F ht⟩) hS.2.2 dX12_slice_62
    · have c_22 := kc_eq rfl (by decide : Int32.toInt 0 = 0) c_22
      refine lv_aload_n hx hb dX12_slice_31 rfl (lv_at hl 0 rfl) ?_
      refine lv_bipush (v := (-2)) hx hb dX12_slice_32 (by decide) ?_
      refine va_calli (va_runV (As := [.int (-2)]) (rest := []) ⟨hx, hb, hml, hown, hts⟩ (c_X12_refuse l dC dI g A hG f_6 h0 (-2) 0 z1 z10 z12 z13 z14 z15 z16 z17 z18 z23 z24 z25 z26 i_h0 k_9 (by first | omega | (simp only [k_c0]; omega)) (by first | omega | (simp only [k_c0]; omega)) (by first | omega | (simp only [k_c0]; omega)) (by decide)) (cwV 1 hts (gi_V (fun w_ h0_ => ⟨List.mem_cons_of_mem _ (List.mem_append_right _ (List.mem_append_right _ (List.mem_append_right _ (List.mem_append_right _ (List.mem_append_right _ (List.mem_append_right _ (List.mem_append_right _ (List.mem_append_right _ (List.mem_append_left _ h0_))))))))), (tb_c_X12_refuse w_ h0_).2⟩) (List.mem_cons_of_mem _ (List.mem_append_left _ (List.mem_of_getElem? (i := 20) rfl))) (List.mem_cons_of_mem _ (List.mem_append_left _ (List.mem_of_getElem? (i := 21) rfl))) (List.mem_cons_of_mem _ (List.mem_append_left _ (List.mem_of_getElem? (i := 22) rfl))) (List.mem_cons_of_mem _ (List.mem_append_left _ (List.mem_of_getElem? (i := 4) rfl)))) rfl rfl rfl (by decide +kernel) ⟨Nat.le_of_ble_eq_true rfl, Nat.le_of_ble_eq_true rfl⟩) ⟨fun a U g mk q => ⟨q.1, q.2.calling rfl rfl⟩, k_recv hK hI i_h0.1 k_9 (ci := 12) rfl, fun U hU hW => ⟨rfl, kIn.of hI hK hE hS hU hW⟩⟩ rfl rfl hl.1 rfl (lv_room (Nat.le_of_ble_eq_true rfl)) dX12_slice_34 ⟨Nat.le_of_ble_eq_true rfl, Nat.le_of_ble_eq_true rfl⟩) hS (fun q _ h => h) (fun q h => h) (fun r_82 u t H1 locs ht hvm w_81 hB hz1 hk1 hS => ?_)
      obtain ⟨f_80, hI, kc_83, k_84⟩ := hB
      rw [ht] at hI
      have k_85 : f_80 (gr g h0 4) = .inl (gc g 1, 906, .inr (.inl q)) := Kp.at kc_83 i_1 (by decide) k_10
      have k_86 : f_80 (gr g h0 5) = .inl (gc g 1, 9060, .inr (.inl u)) := Kp.at kc_83 i_3 (by decide) k_11
      have k_87 : f_80 (gr g h0 7) = .inl (gc g 1, 1812, .inr (.inl im)) := Kp.at kc_83 i_4 (by decide) k_12
      have k_88 : f_80 (gr g h0 8) = .inl (gc g 3, 2, .inl kt) := Kp.at kc_83 i_5 (by decide) k_13
      have k_84 : f_80 h0 = .inr (12, [.int (0 : Int32), .int (-2 : Int32), .ref (gr g h0 2), .ref (gr g h0 3), .ref (gr g h0 4), .ref (gr g h0 5), .ref (gr g h0 6), .ref (gr g h0 7), .ref (gr g h0 8), .ref (gr g h0 9), .int z10, .ref (gr g h0 11), .int z12, .int z13, .int z14, .int z15, .long z16, .int z17, .int z18, .ref (gr g h0 19), .ref (gr g h0 20), .ref (gr g h0 21), .ref (gr g h0 22), .int z23, .long z24, .long z25, .long z26]) := k_84
      have kp_89 := Kp.call kp_8 kc_83 (by decide)
      generalize H1 = H at hI hS ⊢
      refine W.widen (k := 0) (n := 0) (Nat.le_of_ble_eq_true rfl) (Nat.le_of_ble_eq_true rfl) ?_
      have w_81 : r_82.toInt = (-2 : Int32).toInt := w_81
      have g_90 : Int32.toInt ((-2)) = (-2) := by decide
      exact W.iret (v := r_82) hx hb hr (fun t ht hW => ⟨⟨r_82, (), rfl, trivial, ⟨f_80, k_ret ht hI, kp_89, (0 : Int32), (-2 : Int32), z10, z12, z13, z14, z15, z16, z17, z18, z23, z24, z25, z26, q, u, im, kt, k_84, (by first | omega | decide), (by first | omega | decide), (by first | omega | decide), k_85, hc1_ok, k_86, k_87, k_88, hU⟩⟩, hS.F ht⟩) hS.2.2 dX12_slice_37
  · have c_19 := kc_eq rfl (by decide : Int32.toInt 0 = 0) c_19
    refine lv_aload_n hx hb dX12_slice_17 rfl (lv_at hl 0 rfl) ?_
    refine lv_iconst (v := (-1)) hx hb dX12_slice_18 (by decide) ?_
    refine va_calli (va_runV (As := [.int (-1)]) (rest := []) ⟨hx, hb, hml, hown, hts⟩ (c_X12_refuse l dC dI g A hG f_6 h0 (-1) 0 z1 z10 z12 z13 z14 z15 z16 z17 z18 z23 z24 z25 z26 i_h0 k_9 (by first | omega | (simp only [k_c0]; omega)) (by first | omega | (simp only [k_c0]; omega)) (by first | omega | (simp only [k_c0]; omega)) (by decide)) (cwV 1 hts (gi_V (fun w_ h0_ => ⟨List.mem_cons_of_mem _ (List.mem_append_right _ (List.mem_append_right _ (List.mem_append_right _ (List.mem_append_right _ (List.mem_append_right _ (List.mem_append_right _ (List.mem_append_right _ (List.mem_append_right _ (List.mem_append_left _ h0_))))))))), (tb_c_X12_refuse w_ h0_).2⟩) (List.mem_cons_of_mem _ (List.mem_append_left _ (List.mem_of_getElem? (i := 20) rfl))) (List.mem_cons_of_mem _ (List.mem_append_left _ (List.mem_of_getElem? (i := 21) rfl))) (List.mem_cons_of_mem _ (List.mem_append_left _ (List.mem_of_getElem? (i := 22) rfl))) (List.mem_cons_of_mem _ (List.mem_append_left _ (List.mem_of_getElem? (i := 4) rfl)))) rfl rfl rfl (by decide +kernel) ⟨Nat.le_of_ble_eq_true rfl, Nat.le_of_ble_eq_true rfl⟩) ⟨fun a U g mk q => ⟨q.1, q.2.calling rfl rfl⟩, k_recv hK hI i_h0.1 k_9 (ci := 12) rfl, fun U hU hW => ⟨rfl, kIn.of hI hK hE hS hU hW⟩⟩ rfl rfl hl.1 rfl (lv_room (Nat.le_of_ble_eq_true rfl)) dX12_slice_19 ⟨Nat.le_of_ble_eq_true rfl, Nat.le_of_ble_eq_true rfl⟩) hS (fun q _ h => h) (fun q h => h) (fun r_93 u t H1 locs ht hvm w_92 hB hz1 hk1 hS => ?_)
    obtain ⟨f_91, hI, kc_94, k_95⟩ := hB
    rw [ht] at hI
    have k_96 : f_91 (gr g h0 4) = .inl (gc g 1, 906, .inr (.inl q)) := Kp.at kc_94 i_1 (by decide) k_10
    have k_97 : f_91 (gr g h0 5) = .inl (gc g 1, 9060, .inr (.inl u)) := Kp.at kc_94 i_3 (by decide) k_11
    have k_98 : f_91 (gr g h0 7) = .inl (gc g 1, 1812, .inr (.inl im)) := Kp.at kc_94 i_4 (by decide) k_12
    have k_99 : f_91 (gr g h0 8) = .inl (gc g 3, 2, .inl kt) := Kp.at kc_94 i_5 (by decide) k_13
    have k_95 : f_91 h0 = .inr (12, [.int (0 : Int32), .int (-1 : Int32), .ref (gr g h0 2), .ref (gr g h0 3), .ref (gr g h0 4), .ref (gr g h0 5), .ref (gr g h0 6), .ref (gr g h0 7), .ref (gr g h0 8), .ref (gr g h0 9), .int z10, .ref (gr g h0 11), .int z12, .int z13, .int z14, .int z15, .long z16, .int z17, .int z18, .ref (gr g h0 19), .ref (gr g h0 20), .ref (gr g h0 21), .ref (gr g h0 22), .int z23, .long z24, .long z25, .long z26]) := k_95
    have kp_100 := Kp.call kp_8 kc_94 (by decide)
    generalize H1 = H at hI hS ⊢
    refine W.widen (k := 0) (n := 0) (Nat.le_of_ble_eq_true rfl) (Nat.le_of_ble_eq_true rfl) ?_
    have w_92 : r_93.toInt = (-1 : Int32).toInt := w_92
    have g_101 : Int32.toInt ((-1)) = (-1) := by decide
    exact W.iret (v := r_93) hx hb hr (fun t ht hW => ⟨⟨r_93, (), rfl, trivial, ⟨f_91, k_ret ht hI, kp_100, (0 : Int32), (-1 : Int32), z10, z12, z13, z14, z15, z16, z17, z18, z23, z24, z25, z26, q, u, im, kt, k_95, (by first | omega | decide), (by first | omega | decide), (by first | omega | decide), k_96, hc1_ok, k_97, k_98, k_99, hU⟩⟩, hS.F ht⟩) hS.2.2 dX12_slice_22
theorem tw_972 : q_g (.constantLong RX12 165 (99)) := ⟨(List.mem_append_right _ (List.mem_of_getElem? (i := 1311) (by decide +kernel))), good_of_word (by decide +kernel)⟩
theorem tw_973 : q_g (.code yX12_wish cX12_wish 7 (some .int)) := ⟨(List.mem_append_right _ (List.mem_of_getElem? (i := 1310) (by decide +kernel))), good_of_word (by decide +kernel)⟩
def ow_c_X12_wish : List Cond := [.fieldLink RX12 67 "DeadlineShareModel" "thrown" "I", .constantLong RX12 165 (99), .methodLink RX12 83 yX12_in, .static yX12_in, .initialized RX12, .methodLink RX12 142 yX12_isTask, .instanceMethod yX12_isTask, .selects RX12 yX12_isTask yX12_isTask, .methodLink RX12 139 yX12_remember, .instanceMethod yX12_remember, .selects RX12 yX12_remember yX12_remember, .methodLink RX12 105 yX12_heavy, .instanceMethod yX12_heavy, .selects RX12 yX12_heavy yX12_heavy, .methodLink RX12 90 yX12_isOn, .instanceMethod yX12_isOn, .selects RX12 yX12_isOn yX12_isOn, .methodLink RX12 94 yX12_weight, .instanceMethod yX12_weight, .selects RX12 yX12_weight yX12_weight, .methodLink RX12 161 yX12_slices, .instanceMethod yX12_slices, .selects RX12 yX12_slices yX12_slices, .methodLink RX12 80 yX12_tell, .instanceMethod yX12_tell, .selects RX12 yX12_tell yX12_tell, .constantLong RX12 137 (20), .methodLink RX12 76 yX12_refuse, .instanceMethod yX12_refuse, .selects RX12 yX12_refuse yX12_refuse]
def wq_c_X12_wish : List Cond := .code yX12_wish cX12_wish 7 (some .int) :: (ow_c_X12_wish ++ (u_ws RX12 TX12 27 ++ (wq_c_X12_in ++ (wq_c_X12_isTask ++ (wq_c_X12_remember ++ (wq_c_X12_heavy ++ (wq_c_X12_isOn ++ (wq_c_X12_weight ++ (wq_c_X12_slices ++ (wq_c_X12_tell ++ (wq_c_X12_refuse ++ ([] : List Cond))))))))))))
theorem tb_c_X12_wish : ∀ w ∈ wq_c_X12_wish, q_g w := by
  unfold wq_c_X12_wish ow_c_X12_wish
  exact q_cons tw_973 (q_app (q_cons tw_927 (q_cons tw_972 (q_cons tw_730 (q_cons tw_729 (q_cons tw_728 (q_cons tw_951 (q_cons tw_950 (q_cons tw_949 (q_cons tw_963 (q_cons tw_962 (q_cons tw_961 (q_cons tw_752 (q_cons tw_751 (q_cons tw_750 (q_cons tw_744 (q_cons tw_743 (q_cons tw_742 (q_cons tw_741 (q_cons tw_740 (q_cons tw_739 (q_cons tw_831 (q_cons tw_830 (q_cons tw_829 (q_cons tw_960 (q_cons tw_959 (q_cons tw_958 (q_cons tw_970 (q_cons tw_966 (q_cons tw_965 (q_cons tw_964 q_nil)))))))))))))))))))))))))))))) (q_app tu_X12 (q_app tb_c_X12_in (q_app tb_c_X12_isTask (q_app tb_c_X12_remember (q_app tb_c_X12_heavy (q_app tb_c_X12_isOn (q_app tb_c_X12_weight (q_app tb_c_X12_slices (q_app tb_c_X12_tell (q_app tb_c_X12_refuse q_nil)))))))))))
set_option maxHeartbeats 4000000 in
set_option maxRecDepth 100000 in
theorem c_X12_wish (l : Launch) (dC : Nat → ClassId) (dI : Nat → Nat → Nat) (g : kG) (A : Nat → Prop) (hG : kWf g) (f : Nat → va_E) (h0 : Nat) (p1 : Int32) (p2 : Int32) (z0 : Int32) (z1 : Int32) (z10 : Int32) (z12 : Int32) (z13 : Int32) (z14 : Int32) (z15 : Int32) (z16 : Int64) (z17 : Int32) (z18 : Int32) (z23 : Int32) (z24 : Int64) (z25 : Int64) (z26 : Int64) (q : Nat → Int64) (u : Nat → Int64) (im : Nat → Int64) (kt : Nat → Int32) (i_h0 : ik g 12 h0) (hc0 : f h0 = .inr (12, [.int z0, .int z1, .ref (gr g h0 2), .ref (gr g h0 3), .ref (gr g h0 4), .ref (gr g h0 5), .ref (gr g h0 6), .ref (gr g h0 7), .ref (gr g h0 8), .ref (gr g h0 9), .int z10, .ref (gr g h0 11), .int z12, .int z13, .int z14, .int z15, .long z16, .int z17, .int z18, .ref (gr g h0 19), .ref (gr g h0 20), .ref (gr g h0 21), .ref (gr g h0 22), .int z23, .long z24, .long z25, .long z26])) (hc0_10 : 0 ≤ z10.toInt ∧ z10.toInt ≤ 10) (hc0_12 : 0 ≤ z12.toInt ∧ z12.toInt ≤ 200) (hc0_23 : 0 ≤ z23.toInt ∧ z23.toInt ≤ 8) (hc1 : f (gr g h0 4) = .inl (gc g 1, 906, .inr (.inl q))) (hc1_ok : RowOK q) (hc2 : f (gr g h0 5) = .inl (gc g 1, 9060, .inr (.inl u))) (hc3 : f (gr g h0 7) = .inl (gc g 1, 1812, .inr (.inl im))) (hc4 : f (gr g h0 8) = .inl (gc g 3, 2, .inl kt)) (hU : UIq z10 u im kt) : Met l yX12_wish wq_c_X12_wish ({ frames := 3, cells := 0, slots := 0, locals := 64 } : Room) (va_Pc [.ref h0, .int p1, .int p2] (fun U => kIn dC dI g A f U)) (va_Qi (fun (r : Int32) (_ : Unit) => True) (fun (_ : Unit) t => ∃ f1 : Nat → va_E, Iv dC dI g A f1 t.heap ∧ Kp g [12, 30, 32, 33, 37] f f1 ∧ ∃ (w0 : Int32) (w1 : Int32) (w10 : Int32) (w12 : Int32) (w13 : Int32) (w14 : Int32) (w15 : Int32) (w16 : Int64) (w17 : Int32) (w18 : Int32) (w23 : Int32) (w24 : Int64) (w25 : Int64) (w26 : Int64) (q1 : Nat → Int64) (u1 : Nat → Int64) (im1 : Nat → Int64) (ik1 : Nat → Int32), (f1 h0 = .inr (12, [.int w0, .int w1, .ref (gr g h0 2), .ref (gr g h0 3), .ref (gr g h0 4), .ref (gr g h0 5), .ref (gr g h0 6), .ref (gr g h0 7), .ref (gr g h0 8), .ref (gr g h0 9), .int w10, .ref (gr g h0 11), .int w12, .int w13, .int w14, .int w15, .long w16, .int w17, .int w18, .ref (gr g h0 19), .ref (gr g h0 20), .ref (gr g h0 21), .ref (gr g h0 22), .int w23, .long w24, .long w25, .long w26])) ∧ (0 ≤ w10.toInt ∧ w10.toInt ≤ 10) ∧ (0 ≤ w12.toInt ∧ w12.toInt ≤ 200) ∧ (0 ≤ w23.toInt ∧ w23.toInt ≤ 8) ∧ (f1 (gr g h0 4) = .inl (gc g 1, 906, .inr (.inl q1))) ∧ (RowOK q1) ∧ (f1 (gr g h0 5) = .inl (gc g 1, 9060, .inr (.inl u1))) ∧ (f1 (gr g h0 7) = .inl (gc g 1, 1812, .inr (.inl im1))) ∧ (f1 (gr g h0 8) = .inl (gc g 3, 2, .inl ik1)) ∧ (UIq w10 u1 im1 ik1)) A) 0 0 A := by
  refine Met.ofW (cc := cX12_wish) (maxL := 7) (ret := (some .int)) (by decide) rfl ?_
  intro p e s m args below meth c s₁ B hml hv
  obtain ⟨rfl, hI, hK, hE⟩ := hv
  have hx := B.exec
  have hb := B.bytes
  have hr := B.returns
  have hts := atoms_spec (ws := wq_c_X12_wish) B.pre
  have hown : s.vm.findClass RX12 = some m.cls := findClass_of_methodNamed B.named
  have hlocks := B.notSynchronized
  have hS : va_S A s.heap s.heap [] := va_S.rf
  have hk0 : Kp g [12, 30, 32, 33, 37] f f := Kp.rf
  have hl := lv_entry ([.ref h0, .int p1, .int p2]) (n := 7) (Nat.le_of_ble_eq_true rfl)
  rw [lg_entry_eq]
  generalize (lg_sl ([.ref h0, .int p1, .int p2]) ++ List.replicate (7 - (lg_sl ([.ref h0, .int p1, .int p2])).length) Slot.unset).toArray = ls at hl ⊢
  have hl : lv_has ls 7 [(0, .ref h0), (1, .int p1), (2, .int p2)] := hl
  have i_1 := kw_12_4 hG i_h0
  have d_2 := rk_hd hc1_ok
  have i_3 := kw_12_5 hG i_h0
  have i_4 := kw_12_7 hG i_h0
  have i_5 := kw_12_8 hG i_h0
  refine lv_aload_n hx hb dX12_wish_0 rfl (lv_at hl 0 rfl) ?_
  refine lv_iconst (v := 0) hx hb dX12_wish_1 (by decide) ?_
  refine k_put (ci := 12) (v := .int 0) (ty := .int) (C := RX12) (T := TX12) (N := 27) hx hb hts (fun _ h0_ => List.mem_cons_of_mem _ (List.mem_append_right _ (List.mem_append_left _ h0_))) tyX12 tyX12_ok nmX12 hown hK hI hS i_h0.1 hc0 rfl 0 (by decide) (hts (.fieldLink RX12 67 "DeadlineShareModel" "thrown" "I") (List.mem_cons_of_mem _ (List.mem_append_left _ (List.mem_of_getElem? (i := 0) rfl)))) (fun _ h9 => h9) rfl (by decide +kernel) rfl rfl (Nat.le_of_ble_eq_true rfl) rfl (cl_12 i_h0 (by omega) (by omega) (by omega)) dX12_wish_2 (fun f_6 H locs e_7 hI hS => ?_)
  have k_9 : f_6 h0 = .inr (12, [.int 0, .int z1, .ref (gr g h0 2), .ref (gr g h0 3), .ref (gr g h0 4), .ref (gr g h0 5), .ref (gr g h0 6), .ref (gr g h0 7), .ref (gr g h0 8), .ref (gr g h0 9), .int z10, .ref (gr g h0 11), .int z12, .int z13, .int z14, .int z15, .long z16, .int z17, .int z18, .ref (gr g h0 19), .ref (gr g h0 20), .ref (gr g h0 21), .ref (gr g h0 22), .int z23, .long z24, .long z25, .long z26]) := by rw [e_7]; exact va_up_self _ _ _
  have k_10 : f_6 (gr g h0 4) = .inl (gc g 1, 906, .inr (.inl q)) := by rw [e_7, va_up_ne _ _ (ik_ne i_1 i_h0 (by decide))]; exact hc1
  have k_11 : f_6 (gr g h0 5) = .inl (gc g 1, 9060, .inr (.inl u)) := by rw [e_7, va_up_ne _ _ (ik_ne i_3 i_h0 (by decide))]; exact hc2
  have k_12 : f_6 (gr g h0 7) = .inl (gc g 1, 1812, .inr (.inl im)) := by rw [e_7, va_up_ne _ _ (ik_ne i_4 i_h0 (by decide))]; exact hc3
  have k_13 : f_6 (gr g h0 8) = .inl (gc g 3, 2, .inl kt) := by rw [e_7, va_up_ne _ _ (ik_ne i_5 i_h0 (by decide))]; exact hc4
  have kp_8 := Kp.put hk0 i_h0 (by decide) e_7
  refine lv_iload_n hx hb dX12_wish_5 rfl (lv_at hl 2 rfl) ?_
  refine lv_i2l (v := p2.toInt64) hx hb dX12_wish_6 rfl ?_
  have t_14 := Int32.toInt_toInt64 p2
  refine lv_lconst (v := 1) hx hb dX12_wish_7 (by decide) ?_
  refine lv_ldc2 hx hb hown (hts (.constantLong RX12 165 (99)) (List.mem_cons_of_mem _ (List.mem_append_left _ (List.mem_of_getElem? (i := 1) rfl)))) dX12_wish_8 ?_
  refine va_calli (va_runS (As := [.long p2.toInt64, .long 1, .long 99]) (rest := []) ⟨hx, hb, hml, hown, hts⟩ (c_X12_in l dC dI g A hG f_6 p2.toInt64 1 99) (va_cwS 3 hts (gi_S (fun w_ h0_ => ⟨List.mem_cons_of_mem _ (List.mem_append_right _ (List.mem_append_right _ (List.mem_append_left _ h0_))), (tb_c_X12_in w_ h0_).2⟩) (List.mem_cons_of_mem _ (List.mem_append_left _ (List.mem_of_getElem? (i := 2) rfl))) (List.mem_cons_of_mem _ (List.mem_append_left _ (List.mem_of_getElem? (i := 3) rfl))) (List.mem_cons_of_mem _ (List.mem_append_left _ (List.mem_of_getElem? (i := 4) rfl)))) rfl rfl rfl (by decide +kernel) ⟨Nat.le_of_ble_eq_true rfl, Nat.le_of_ble_eq_true rfl⟩) ⟨fun a U g mk q => ⟨q.1, q.2.calling rfl rfl⟩, fun U hU hW => ⟨rfl, kIn.of hI hK hE hS hU hW⟩⟩ rfl rfl hl.1 rfl (lv_room (Nat.le_of_ble_eq_true rfl)) dX12_wish_11 ⟨Nat.le_of_ble_eq_true rfl, Nat.le_of_ble_eq_true rfl⟩) hS (fun q _ h => h) (fun q h => h) (fun r_16 u t H1 locs ht hvm w_15 hB hz1 hk1 hS => ?_)
  have hI : Iv dC dI g A f_6 t.heap := hB
  rw [ht] at hI
  generalize H1 = H at hI hS ⊢
  refine W.widen (k := 0) (n := 0) (Nat.le_of_ble_eq_true rfl) (Nat.le_of_ble_eq_true rfl) ?_
  have w_15 : (r_16.toInt = 0 ∧ (p2.toInt64.toInt < (1 : Int64).toInt ∨ (99 : Int64).toInt < p2.toInt64.toInt)) ∨ (r_16.toInt = 1 ∧ (1 : Int64).toInt ≤ p2.toInt64.toInt ∧ p2.toInt64.toInt ≤ (99 : Int64).toInt) := w_15
  have g_17 : Int64.toInt (1) = 1 := by decide
  have g_18 : Int64.toInt (99) = 99 := by decide
  refine lv_if_ne (tgt := 23) hx hb dX12_wish_14 (by decide) (fun c_19 => ?_) (fun c_19 => ?_)
  · have c_19 := kn_eq rfl (by decide : Int32.toInt 0 = 0) c_19
    refine lv_aload_n hx hb dX12_wish_23 rfl (lv_at hl 0 rfl) ?_
    refine lv_iload_n hx hb dX12_wish_24 rfl (lv_at hl 1 rfl) ?_
    refine va_calli (va_runV (As := [.int p1]) (rest := []) ⟨hx, hb, hml, hown, hts⟩ (c_X12_isTask l dC dI g A hG f_6 h0 p1 q i_h0 k_10 hc1_ok) (cwV 1 hts (gi_V (fun w_ h0_ => ⟨List.mem_cons_of_mem _ (List.mem_append_right _ (List.mem_append_right _ (List.mem_append_right _ (List.mem_append_left _ h0_)))), (tb_c_X12_isTask w_ h0_).2⟩) (List.mem_cons_of_mem _ (List.mem_append_left _ (List.mem_of_getElem? (i := 5) rfl))) (List.mem_cons_of_mem _ (List.mem_append_left _ (List.mem_of_getElem? (i := 6) rfl))) (List.mem_cons_of_mem _ (List.mem_append_left _ (List.mem_of_getElem? (i := 7) rfl))) (List.mem_cons_of_mem _ (List.mem_append_left _ (List.mem_of_getElem? (i := 4) rfl)))) rfl rfl rfl (by decide +kernel) ⟨Nat.le_of_ble_eq_true rfl, Nat.le_of_ble_eq_true rfl⟩) ⟨fun a U g mk q => ⟨q.1, q.2.calling rfl rfl⟩, k_recv hK hI i_h0.1 k_9 (ci := 12) rfl, fun U hU hW => ⟨rfl, kIn.of hI hK hE hS hU hW⟩⟩ rfl rfl hl.1 rfl (lv_room (Nat.le_of_ble_eq_true rfl)) dX12_wish_25 ⟨Nat.le_of_ble_eq_true rfl, Nat.le_of_ble_eq_true rfl⟩) hS (fun q _ h => h) (fun q h => h) (fun r_21 u t H1 locs ht hvm w_20 hB hz1 hk1 hS => ?_)
    have hI : Iv dC dI g A f_6 t.heap := hB
    rw [ht] at hI
    generalize H1 = H at hI hS ⊢
    refine W.widen (k := 0) (n := 0) (Nat.le_of_ble_eq_true rfl) (Nat.le_of_ble_eq_true rfl) ?_
    have w_20 : (r_21.toInt = 0 ∨ r_21.toInt = 1) ∧ (r_21.toInt = 0 ∨ (0 ≤ p1.toInt ∧ p1.toInt < (q 0).toInt)) := w_20
    refine lv_if_ne (tgt := 38) hx hb dX12_wish_28 (by decide) (fun c_22 => ?_) (fun c_22 => ?_)
    · have c_22 := kn_eq rfl (by decide : Int32.toInt 0 = 0) c_22
      refine lv_aload_n hx hb dX12_wish_38 rfl (lv_at hl 0 rfl) ?_
      refine lv_bipush (v := 7) hx hb dX12_wish_39 (by decide) ?_
      refine va_callv (va_runV (As := [.int 7]) (rest := []) ⟨hx, hb, hml, hown, hts⟩ (c_X12_remember l dC dI g A hG f_6 h0 7 0 z1 z10 z12 z13 z14 z15 z16 z17 z18 z23 z24 z25 z26 q u im kt i_h0 k_9 (by first | omega | (simp only [k_c0]; omega)) (by first | omega | (simp only [k_c0]; omega)) (by first | omega | (simp only [k_c0]; omega)) k_10 hc1_ok k_11 k_12 k_13 (by decide)) (cwV 1 hts (gi_V (fun w_ h0_ => ⟨List.mem_cons_of_mem _ (List.mem_append_right _ (List.mem_append_right _ (List.mem_append_right _ (List.mem_append_right _ (List.mem_append_left _ h0_))))), (tb_c_X12_remember w_ h0_).2⟩) (List.mem_cons_of_mem _ (List.mem_append_left _ (List.mem_of_getElem? (i := 8) rfl))) (List.mem_cons_of_mem _ (List.mem_append_left _ (List.mem_of_getElem? (i := 9) rfl))) (List.mem_cons_of_mem _ (List.mem_append_left _ (List.mem_of_getElem? (i := 10) rfl))) (List.mem_cons_of_mem _ (List.mem_append_left _ (List.mem_of_getElem? (i := 4) rfl)))) rfl rfl rfl (by decide +kernel) ⟨Nat.le_of_ble_eq_true rfl, Nat.le_of_ble_eq_true rfl⟩) ⟨fun a U g mk q => ⟨q.1, q.2.calling rfl rfl⟩, k_recv hK hI i_h0.1 k_9 (ci := 12) rfl, fun U hU hW => ⟨rfl, kIn.of hI hK hE hS hU hW⟩⟩ rfl rfl hl.1 rfl (lv_room (Nat.le_of_ble_eq_true rfl)) dX12_wish_41 ⟨Nat.le_of_ble_eq_true rfl, Nat.le_of_ble_eq_true rfl⟩) hS (fun q _ h => h) (fun q h => h) (fun u t H1 locs ht hvm _ hB hz1 hk1 hS => ?_)
      obtain ⟨f_23, hI, kc_25, w10_26, u1_27, k_28, z_29, k_30, z_31⟩ := hB
      rw [ht] at hI
      have k_32 : f_23 (gr g h0 4) = .inl (gc g 1, 906, .inr (.inl q)) := Kp.at kc_25 i_1 (by decide) k_10
      have k_33 : f_23 (gr g h0 7) = .inl (gc g 1, 1812, .inr (.inl im)) := Kp.at kc_25 i_4 (by decide) k_12
      have k_34 : f_23 (gr g h0 8) = .inl (gc g 3, 2, .inl kt) := Kp.at kc_25 i_5 (by decide) k_13
      have k_28 : f_23 h0 = .inr (12, [.int (0 : Int32), .int z1, .ref (gr g h0 2), .ref (gr g h0 3), .ref (gr g h0 4), .ref (gr g h0 5), .ref (gr g h0 6), .ref (gr g h0 7), .ref (gr g h0 8), .ref (gr g h0 9), .int w10_26, .ref (gr g h0 11), .int z12, .int z13, .int z14, .int z15, .long z16, .int z17, .int z18, .ref (gr g h0 19), .ref (gr g h0 20), .ref (gr g h0 21), .ref (gr g h0 22), .int z23, .long z24, .long z25, .long z26]) := k_28
      have z_29 : 0 ≤ w10_26.toInt ∧ w10_26.toInt ≤ 10 := z_29
      have z_31 : UIq w10_26 u1_27 im kt := z_31
      have kp_35 := Kp.call kp_8 kc_25 (by decide)
      generalize H1 = H at hI hS ⊢
      refine W.widen (k := 0) (n := 0) (Nat.le_of_ble_eq_true rfl) (Nat.le_of_ble_eq_true rfl) ?_
      refine lv_aload_n hx hb dX12_wish_44 rfl (lv_at hl 0 rfl) ?_
      refine va_calll (va_runV (As := []) (rest := []) ⟨hx, hb, hml, hown, hts⟩ (c_X12_heavy l dC dI g A hG f_23 h0 q i_h0 k_32 hc1_ok) (cwV 0 hts (gi_V (fun w_ h0_ => ⟨List.mem_cons_of_mem _ (List.mem_append_right _ (List.mem_append_right _ (List.mem_append_right _ (List.mem_append_right _ (List.mem_append_right _ (List.mem_append_left _ h0_)))))), (tb_c_X12_heavy w_ h0_).2⟩) (List.mem_cons_of_mem _ (List.mem_append_left _ (List.mem_of_getElem? (i := 11) rfl))) (List.mem_cons_of_mem _ (List.mem_append_left _ (List.mem_of_getElem? (i := 12) rfl))) (List.mem_cons_of_mem _ (List.mem_append_left _ (List.mem_of_getElem? (i := 13) rfl))) (List.mem_cons_of_mem _ (List.mem_append_left _ (List.mem_of_getElem? (i := 4) rfl)))) rfl rfl rfl (by decide +kernel) ⟨Nat.le_of_ble_eq_true rfl, Nat.le_of_ble_eq_true rfl⟩) ⟨fun a U g mk q => ⟨q.1, q.2.calling rfl rfl⟩, k_recv hK hI i_h0.1 k_28 (ci := 12) rfl, fun U hU hW => ⟨rfl, kIn.of hI hK hE hS hU hW⟩⟩ rfl rfl hl.1 rfl (lv_room (Nat.le_of_ble_eq_true rfl)) dX12_wish_45 ⟨Nat.le_of_ble_eq_true rfl, Nat.le_of_ble_eq_true rfl⟩) hS (fun q _ h => h) (fun q h => h) (fun r_37 u t H1 locs ht hvm w_36 hB hz1 hk1 hS => ?_)
      have hI : Iv dC dI g A f_23 t.heap := hB
      rw [ht] at hI
      generalize H1 = H at hI hS ⊢
      refine W.widen (k := 0) (n := 0) (Nat.le_of_ble_eq_true rfl) (Nat.le_of_ble_eq_true rfl) ?_
      have w_36 : 0 ≤ r_37.toInt ∧ r_37.toInt ≤ 96 ∧ ∀ t : Nat, (t : Int) < (q 0).toInt → (q (6 + 43 * t + 2)).toInt = 1 → 1 ≤ r_37.toInt := w_36
      refine lv_aload_n hx hb dX12_wish_48 rfl (lv_at hl 0 rfl) ?_
      obtain ⟨m_38, em_38, tm_38⟩ := k_nat (x := p1) (by omega)
      refine lv_iload_n hx hb dX12_wish_49 rfl (lv_at hl 1 rfl) ?_
      refine k_topi (y := nI m_38) em_38 ?_
      refine va_calli (va_runV (As := [.int (nI m_38)]) (rest := [.long r_37]) ⟨hx, hb, hml, hown, hts⟩ (c_X12_isOn l dC dI g A hG f_23 h0 m_38 q i_h0 k_32 hc1_ok (by first | omega | decide | (simp only [k_c0, k_c1, k_cm1]; omega))) (cwV 1 hts (gi_V (fun w_ h0_ => ⟨List.mem_cons_of_mem _ (List.mem_append_right _ (List.mem_append_right _ (List.mem_append_right _ (List.mem_append_right _ (List.mem_append_right _ (List.mem_append_right _ (List.mem_append_left _ h0_))))))), (tb_c_X12_isOn w_ h0_).2⟩) (List.mem_cons_of_mem _ (List.mem_append_left _ (List.mem_of_getElem? (i := 14) rfl))) (List.mem_cons_of_mem _ (List.mem_append_left _ (List.mem_of_getElem? (i := 15) rfl))) (List.mem_cons_of_mem _ (List.mem_append_left _ (List.mem_of_getElem? (i := 16) rfl))) (List.mem_cons_of_mem _ (List.mem_append_left _ (List.mem_of_getElem? (i := 4) rfl)))) rfl rfl rfl (by decide +kernel) ⟨Nat.le_of_ble_eq_true rfl, Nat.le_of_ble_eq_true rfl⟩) ⟨fun a U g mk q => ⟨q.1, q.2.calling rfl rfl⟩, k_recv hK hI i_h0.1 k_28 (ci := 12) rfl, fun U hU hW => ⟨rfl, kIn.of hI hK hE hS hU hW⟩⟩ rfl rfl hl.1 rfl (lv_room (Nat.le_of_ble_eq_true rfl)) dX12_wish_50 ⟨Nat.le_of_ble_eq_true rfl, Nat.le_of_ble_eq_true rfl⟩) hS (fun q _ h => h) (fun q h => h) (fun r_40 u t H1 locs ht hvm w_39 hB hz1 hk1 hS => ?_)
      have hI : Iv dC dI g A f_23 t.heap := hB
      rw [ht] at hI
      generalize H1 = H at hI hS ⊢
      refine W.widen (k := 0) (n := 0) (Nat.le_of_ble_eq_true rfl) (Nat.le_of_ble_eq_true rfl) ?_
      have w_39 : (r_40.toInt = 0 ∧ (q (6 + 43 * m_38 + 2)).toInt ≠ 1) ∨ (r_40.toInt = 1 ∧ (q (6 + 43 * m_38 + 2)).toInt = 1) := w_39
      have J_65 : ∀ (y_41 : Int64) (H : Heap) (locs : List Loc) (ls : Array Slot), Iv dC dI g A f_23 H → va_S A s.heap H locs → (0 ≤ y_41.toInt ∧ y_41.toInt ≤ 8 ∧ 1 ≤ y_41.toInt + r_37.toInt) → lv_has ls 7 [(0, .ref h0), (1, .int p1), (2, .int p2)] → W p l e (headSpec wq_c_X12_wish ({ frames := 3, cells := 0, slots := 0, locals := 64 } : Room)).room s m ([.ref h0, .int p1, .int p2].toArray) below meth c H locs 0 0 (MQ below (va_Qi (fun (r : Int32) (_ : Unit) => True) (fun (_ : Unit) t => ∃ f1 : Nat → va_E, Iv dC dI g A f1 t.heap ∧ Kp g [12, 30, 32, 33, 37] f f1 ∧ ∃ (w0 : Int32) (w1 : Int32) (w10 : Int32) (w12 : Int32) (w13 : Int32) (w14 : Int32) (w15 : Int32) (w16 : Int64) (w17 : Int32) (w18 : Int32) (w23 : Int32) (w24 : Int64) (w25 : Int64) (w26 : Int64) (q1 : Nat → Int64) (u1 : Nat → Int64) (im1 : Nat → Int64) (ik1 : Nat → Int32), (f1 h0 = .inr (12, [.int w0, .int w1, .ref (gr g h0 2), .ref (gr g h0 3), .ref (gr g h0 4), .ref (gr g h0 5), .ref (gr g h0 6), .ref (gr g h0 7), .ref (gr g h0 8), .ref (gr g h0 9), .int w10, .ref (gr g h0 11), .int w12, .int w13, .int w14, .int w15, .long w16, .int w17, .int w18, .ref (gr g h0 19), .ref (gr g h0 20), .ref (gr g h0 21), .ref (gr g h0 22), .int w23, .long w24, .long w25, .long w26])) ∧ (0 ≤ w10.toInt ∧ w10.toInt ≤ 10) ∧ (0 ≤ w12.toInt ∧ w12.toInt ≤ 200) ∧ (0 ≤ w23.toInt ∧ w23.toInt ≤ 8) ∧ (f1 (gr g h0 4) = .inl (gc g 1, 906, .inr (.inl q1))) ∧ (RowOK q1) ∧ (f1 (gr g h0 5) = .inl (gc g 1, 9060, .inr (.inl u1))) ∧ (f1 (gr g h0 7) = .inl (gc g 1, 1812, .inr (.inl im1))) ∧ (f1 (gr g h0 8) = .inl (gc g 3, 2, .inl ik1)) ∧ (UIq w10 u1 im1 ik1)) A) ([.ref h0, .int p1, .int p2].toArray) s 0 0 A) (F0 m 65 ls [.long y_41, .long r_37]) := by
        intro y_41 H locs ls hI hS t_42 hl
        refine lv_ladd hx hb dX12_wish_65 ?_
        refine lv_topl (fun v_43 ev_43 => ?_)
        have tv_43 := l_ad r_37 y_41
        rw [← ev_43] at tv_43
        refine lv_lstore_n (lv' := [(3, .long v_43), (0, .ref h0), (1, .int p1), (2, .int p2)]) hx hb dX12_wish_66 rfl hl (by decide) rfl (fun ls hl => ?_)
        refine lv_iload_n hx hb dX12_wish_67 rfl (lv_at hl 3 rfl) ?_
        refine lv_i2l (v := p2.toInt64) hx hb dX12_wish_68 rfl ?_
        have t_44 := Int32.toInt_toInt64 p2
        refine lv_aload_n hx hb dX12_wish_69 rfl (lv_at hl 1 rfl) ?_
        refine lv_iload_n hx hb dX12_wish_70 rfl (lv_at hl 2 rfl) ?_
        refine k_topi (y := nI m_38) em_38 ?_
        refine va_calll (va_runV (As := [.int (nI m_38)]) (rest := [.long p2.toInt64]) ⟨hx, hb, hml, hown, hts⟩ (c_X12_weight l dC dI g A hG f_23 h0 m_38 q i_h0 k_32 hc1_ok (by first | omega | decide | (simp only [k_c0, k_c1, k_cm1]; omega))) (cwV 1 hts (gi_V (fun w_ h0_ => ⟨List.mem_cons_of_mem _ (List.mem_append_right _ (List.mem_append_right _ (List.mem_append_right _ (List.mem_append_right _ (List.mem_append_right _ (List.mem_append_right _ (List.mem_append_right _ (List.mem_append_left _ h0_)))))))), (tb_c_X12_weight w_ h0_).2⟩) (List.mem_cons_of_mem _ (List.mem_append_left _ (List.mem_of_getElem? (i := 17) rfl))) (List.mem_cons_of_mem _ (List.mem_append_left _ (List.mem_of_getElem? (i := 18) rfl))) (List.mem_cons_of_mem _ (List.mem_append_left _ (List.mem_of_getElem? (i := 19) rfl))) (List.mem_cons_of_mem _ (List.mem_append_left _ (List.mem_of_getElem? (i := 4) rfl)))) rfl rfl rfl (by decide +kernel) ⟨Nat.le_of_ble_eq_true rfl, Nat.le_of_ble_eq_true rfl⟩) ⟨fun a U g mk q => ⟨q.1, q.2.calling rfl rfl⟩, k_recv hK hI i_h0.1 k_28 (ci := 12) rfl, fun U hU hW => ⟨rfl, kIn.of hI hK hE hS hU hW⟩⟩ rfl rfl hl.1 rfl (lv_room (Nat.le_of_ble_eq_true rfl)) dX12_wish_71 ⟨Nat.le_of_ble_eq_true rfl, Nat.le_of_ble_eq_true rfl⟩) hS (fun q _ h => h) (fun q h => h) (fun r_46 u t H1 locs ht hvm w_45 hB hz1 hk1 hS => ?_)
        have hI : Iv dC dI g A f_23 t.heap := hB
        rw [ht] at hI
        generalize H1 = H at hI hS ⊢
        refine W.widen (k := 0) (n := 0) (Nat.le_of_ble_eq_true rfl) (Nat.le_of_ble_eq_true rfl) ?_
        have w_45 : r_46 = q (6 + 43 * m_38) := w_45
        refine k_topl (y := q (6 + 43 * m_38)) w_45 ?_
        have d_47 := rk_0 hc1_ok (t := m_38) (by omega)
        refine lv_lmul hx hb dX12_wish_74 ?_
        refine lv_topl (fun v_48 ev_48 => ?_)
        refine lv_lload_n hx hb dX12_wish_75 rfl (lv_at hl 0 rfl) ?_
        refine lv_ldiv hx hb dX12_wish_76 (k_ne0L (by omega)) ?_
        refine lv_topl (fun v_49 ev_49 => ?_)
        refine lv_lstore (lv' := [(5, .long v_49), (3, .long v_43), (0, .ref h0), (1, .int p1), (2, .int p2)]) hx hb dX12_wish_77 hl (by decide) rfl (fun ls hl => ?_)
        refine lv_lload hx hb dX12_wish_79 (lv_at hl 0 rfl) ?_
        refine lv_lconst (v := 1) hx hb dX12_wish_81 (by decide) ?_
        refine W.lcmp hx hb dX12_wish_82 ?_
        have J_107 : ∀ (y_50 : Int64) (H : Heap) (locs : List Loc) (ls : Array Slot), Iv dC dI g A f_23 H → va_S A s.heap H locs → lv_has ls 7 [(5, .long v_49), (3, .long v_43), (0, .ref h0), (1, .int p1), (2, .int p2)] → W p l e (headSpec wq_c_X12_wish ({ frames := 3, cells := 0, slots := 0, locals := 64 } : Room)).room s m ([.ref h0, .int p1, .int p2].toArray) below meth c H locs 0 0 (MQ below (va_Qi (fun (r : Int32) (_ : Unit) => True) (fun (_ : Unit) t => ∃ f1 : Nat → va_E, Iv dC dI g A f1 t.heap ∧ Kp g [12, 30, 32, 33, 37] f f1 ∧ ∃ (w0 : Int32) (w1 : Int32) (w10 : Int32) (w12 : Int32) (w13 : Int32) (w14 : Int32) (w15 : Int32) (w16 : Int64) (w17 : Int32) (w18 : Int32) (w23 : Int32) (w24 : Int64) (w25 : Int64) (w26 : Int64) (q1 : Nat → Int64) (u1 : Nat → Int64) (im1 : Nat → Int64) (ik1 : Nat → Int32), (f1 h0 = .inr (12, [.int w0, .int w1, .ref (gr g h0 2), .ref (gr g h0 3), .ref (gr g h0 4), .ref (gr g h0 5), .ref (gr g h0 6), .ref (gr g h0 7), .ref (gr g h0 8), .ref (gr g h0 9), .int w10, .ref (gr g h0 11), .int w12, .int w13, .int w14, .int w15, .long w16, .int w17, .int w18, .ref (gr g h0 19), .ref (gr g h0 20), .ref (gr g h0 21), .ref (gr g h0 22), .int w23, .long w24, .long w25, .long w26])) ∧ (0 ≤ w10.toInt ∧ w10.toInt ≤ 10) ∧ (0 ≤ w12.toInt ∧ w12.toInt ≤ 200) ∧ (0 ≤ w23.toInt ∧ w23.toInt ≤ 8) ∧ (f1 (gr g h0 4) = .inl (gc g 1, 906, .inr (.inl q1))) ∧ (RowOK q1) ∧ (f1 (gr g h0 5) = .inl (gc g 1, 9060, .inr (.inl u1))) ∧ (f1 (gr g h0 7) = .inl (gc g 1, 1812, .inr (.inl im1))) ∧ (f1 (gr g h0 8) = .inl (gc g 3, 2, .inl ik1)) ∧ (UIq w10 u1 im1 ik1)) A) ([.ref h0, .int p1, .int p2].toArray) s 0 0 A) (F0 m 107 ls [.long y_50]) := by
          intro y_50 H locs ls hI hS  hl
          refine lv_lstore (lv' := [(5, .long y_50), (3, .long v_43), (0, .ref h0), (1, .int p1), (2, .int p2)]) hx hb dX12_wish_107 hl (by decide) rfl (fun ls hl => ?_)
          refine lv_aload_n hx hb dX12_wish_109 rfl (lv_at hl 2 rfl) ?_
          refine lv_iload_n hx hb dX12_wish_110 rfl (lv_at hl 3 rfl) ?_
          refine k_topi (y := nI m_38) em_38 ?_
          refine lv_lload hx hb dX12_wish_111 (lv_at hl 0 rfl) ?_
          refine va_callv (va_runV (As := [.int (nI m_38), .long y_50]) (rest := []) ⟨hx, hb, hml, hown, hts⟩ (c_X12_slices l dC dI g A hG f_23 h0 m_38 y_50 q i_h0 k_32 hc1_ok (by first | omega | decide | (simp only [k_c0, k_c1, k_cm1]; omega))) (cwV 2 hts (gi_V (fun w_ h0_ => ⟨List.mem_cons_of_mem _ (List.mem_append_right _ (List.mem_append_right _ (List.mem_append_right _ (List.mem_append_right _ (List.mem_append_right _ (List.mem_append_right _ (List.mem_append_right _ (List.mem_append_right _ (List.mem_append_left _ h0_))))))))), (tb_c_X12_slices w_ h0_).2⟩) (List.mem_cons_of_mem _ (List.mem_append_left _ (List.mem_of_getElem? (i := 20) rfl))) (List.mem_cons_of_mem _ (List.mem_append_left _ (List.mem_of_getElem? (i := 21) rfl))) (List.mem_cons_of_mem _ (List.mem_append_left _ (List.mem_of_getElem? (i := 22) rfl))) (List.mem_cons_of_mem _ (List.mem_append_left _ (List.mem_of_getElem? (i := 4) rfl)))) rfl rfl rfl (by decide +kernel) ⟨Nat.le_of_ble_eq_true rfl, Nat.le_of_ble_eq_true rfl⟩) ⟨fun a U g mk q => ⟨q.1, q.2.calling rfl rfl⟩, k_recv hK hI i_h0.1 k_28 (ci := 12) rfl, fun U hU hW => ⟨rfl, kIn.of hI hK hE hS hU hW⟩⟩ rfl rfl hl.1 rfl (lv_room (Nat.le_of_ble_eq_true rfl)) dX12_wish_113 ⟨Nat.le_of_ble_eq_true rfl, Nat.le_of_ble_eq_true rfl⟩) hS (fun q _ h => h) (fun q h => h) (fun u t H1 locs ht hvm _ hB hz1 hk1 hS => ?_)
          obtain ⟨f_51, hI, kc_53, q1_54, k_55, z_56, z_57, z_58, z_59⟩ := hB
          rw [ht] at hI
          have k_60 : f_51 (gr g h0 7) = .inl (gc g 1, 1812, .inr (.inl im)) := Kp.at kc_53 i_4 (by decide) k_33
          have k_61 : f_51 (gr g h0 8) = .inl (gc g 3, 2, .inl kt) := Kp.at kc_53 i_5 (by decide) k_34
          have k_62 : f_51 h0 = .inr (12, [.int (0 : Int32), .int z1, .ref (gr g h0 2), .ref (gr g h0 3), .ref (gr g h0 4), .ref (gr g h0 5), .ref (gr g h0 6), .ref (gr g h0 7), .ref (gr g h0 8), .ref (gr g h0 9), .int w10_26, .ref (gr g h0 11), .int z12, .int z13, .int z14, .int z15, .long z16, .int z17, .int z18, .ref (gr g h0 19), .ref (gr g h0 20), .ref (gr g h0 21), .ref (gr g h0 22), .int z23, .long z24, .long z25, .long z26]) := Kp.at kc_53 i_h0 (by decide) k_28
          have k_63 : f_51 (gr g h0 5) = .inl (gc g 1, 9060, .inr (.inl u1_27)) := Kp.at kc_53 i_3 (by decide) k_30
          have z_56 : RowOK q1_54 := z_56
          have d_64 := rk_hd z_56
          have z_57 : (q1_54 0).toInt = (q 0).toInt := z_57
          have z_58 : (q1_54 1).toInt = (q 1).toInt := z_58
          have z_59 : ∀ j : Nat, 11 ≤ j → j < 43 → q1_54 (6 + 43 * m_38 + j) = q (6 + 43 * m_38 + j) := z_59
          have kp_65 := Kp.call kp_35 kc_53 (by decide)
          generalize H1 = H at hI hS ⊢
          refine W.widen (k := 0) (n := 0) (Nat.le_of_ble_eq_true rfl) (Nat.le_of_ble_eq_true rfl) ?_
          refine lv_aload_n hx hb dX12_wish_116 rfl (lv_at hl 2 rfl) ?_
          refine lv_lload hx hb dX12_wish_117 (lv_at hl 0 rfl) ?_
          refine lv_l2i (v := y_50.toInt32) hx hb dX12_wish_119 rfl ?_
          refine lv_topi (fun v_66 ev_66 => ?_)
          have tv_66 := k_l2i y_50
          rw [← ev_66] at tv_66
          refine va_calli (va_runV (As := [.int v_66]) (rest := []) ⟨hx, hb, hml, hown, hts⟩ (c_X12_tell l dC dI g A hG f_51 h0 v_66 (0 : Int32) z1 w10_26 z12 z13 z14 z15 z16 z17 z18 z23 z24 z25 z26 i_h0 k_62 (by first | omega | (simp only [k_c0]; omega)) (by first | omega | (simp only [k_c0]; omega)) (by first | omega | (simp only [k_c0]; omega))) (cwV 1 hts (gi_V (fun w_ h0_ => ⟨List.mem_cons_of_mem _ (List.mem_append_right _ (List.mem_append_right _ (List.mem_append_right _ (List.mem_append_right _ (List.mem_append_right _ (List.mem_append_right _ (List.mem_append_right _ (List.mem_append_right _ (List.mem_append_right _ (List.mem_append_left _ h0_)))))))))), (tb_c_X12_tell w_ h0_).2⟩) (List.mem_cons_of_mem _ (List.mem_append_left _ (List.mem_of_getElem? (i := 23) rfl))) (List.mem_cons_of_mem _ (List.mem_append_left _ (List.mem_of_getElem? (i := 24) rfl))) (List.mem_cons_of_mem _ (List.mem_append_left _ (List.mem_of_getElem? (i := 25) rfl))) (List.mem_cons_of_mem _ (List.mem_append_left _ (List.mem_of_getElem? (i := 4) rfl)))) rfl rfl rfl (by decide +kernel) ⟨Nat.le_of_ble_eq_true rfl, Nat.le_of_ble_eq_true rfl⟩) ⟨fun a U g mk q => ⟨q.1, q.2.calling rfl rfl⟩, k_recv hK hI i_h0.1 k_62 (ci := 12) rfl, fun U hU hW => ⟨rfl, kIn.of hI hK hE hS hU hW⟩⟩ rfl rfl hl.1 rfl (lv_room (Nat.le_of_ble_eq_true rfl)) dX12_wish_120 ⟨Nat.le_of_ble_eq_true rfl, Nat.le_of_ble_eq_true rfl⟩) hS (fun q _ h => h) (fun q h => h) (fun r_69 u t H1 locs ht hvm w_68 hB hz1 hk1 hS => ?_)
          obtain ⟨f_67, hI, kc_70, k_71⟩ := hB
          rw [ht] at hI
          have k_72 : f_67 (gr g h0 7) = .inl (gc g 1, 1812, .inr (.inl im)) := Kp.at kc_70 i_4 (by decide) k_60
          have k_73 : f_67 (gr g h0 8) = .inl (gc g 3, 2, .inl kt) := Kp.at kc_70 i_5 (by decide) k_61
          have k_74 : f_67 (gr g h0 5) = .inl (gc g 1, 9060, .inr (.inl u1_27)) := Kp.at kc_70 i_3 (by decide) k_63
          have k_75 : f_67 (gr g h0 4) = .inl (gc g 1, 906, .inr (.inl q1_54)) := Kp.at kc_70 i_1 (by decide) k_55
          have k_71 : f_67 h0 = .inr (12, [.int (0 : Int32), .int 0, .ref (gr g h0 2), .ref (gr g h0 3), .ref (gr g h0 4), .ref (gr g h0 5), .ref (gr g h0 6), .ref (gr g h0 7), .ref (gr g h0 8), .ref (gr g h0 9), .int w10_26, .ref (gr g h0 11), .int z12, .int z13, .int z14, .int z15, .long z16, .int z17, .int z18, .ref (gr g h0 19), .ref (gr g h0 20), .ref (gr g h0 21), .ref (gr g h0 22), .int z23, .long z24, .long z25, .long z26]) := k_71
          have kp_76 := Kp.call kp_65 kc_70 (by decide)
          generalize H1 = H at hI hS ⊢
          refine W.widen (k := 0) (n := 0) (Nat.le_of_ble_eq_true rfl) (Nat.le_of_ble_eq_true rfl) ?_
          have w_68 : r_69.toInt = v_66.toInt := w_68
          exact W.iret (v := r_69) hx hb hr (fun t ht hW => ⟨⟨r_69, (), rfl, trivial, ⟨f_67, k_ret ht hI, kp_76, (0 : Int32), 0, w10_26, z12, z13, z14, z15, z16, z17, z18, z23, z24, z25, z26, q1_54, u1_27, im, kt, k_71, (by first | omega | decide), (by first | omega | decide), (by first | omega | decide), k_75, z_56, k_74, k_72, k_73, z_31⟩⟩, hS.F ht⟩) hS.2.2 dX12_wish_123
        refine lv_if_ge (tgt := 90) hx hb dX12_wish_83 (by decide) (fun c_77 => ?_) (fun c_77 => ?_)
        · have c_77 := lc_le (by decide : Int64.toInt 1 = 1) rfl ((lg_cmp_ge _ _).mp c_77)
          refine lv_lload hx hb dX12_wish_90 (lv_at hl 0 rfl) ?_
          refine lv_ldc2 hx hb hown (hts (.constantLong RX12 137 (20)) (List.mem_cons_of_mem _ (List.mem_append_left _ (List.mem_of_getElem? (i := 26) rfl)))) dX12_wish_92 ?_
          refine W.lcmp hx hb dX12_wish_95 ?_
          refine lv_if_le (tgt := 105) hx hb dX12_wish_96 (by decide) (fun c_78 => ?_) (fun c_78 => ?_)
          · have c_78 := lc_le rfl (by decide : Int64.toInt 20 = 20) ((lg_cmp_le _ _).mp c_78)
            refine lv_lload hx hb dX12_wish_105 (lv_at hl 0 rfl) ?_
            exact J_107 v_49 _ _ _ hI hS  (lv_sub hl [0, 1, 2, 3, 4] rfl)
          · have c_78 := ln_le rfl (by decide : Int64.toInt 20 = 20) (fun h9 => c_78 ((lg_cmp_le _ _).mpr h9))
            refine lv_ldc2 hx hb hown (hts (.constantLong RX12 137 (20)) (List.mem_cons_of_mem _ (List.mem_append_left _ (List.mem_of_getElem? (i := 26) rfl)))) dX12_wish_99 ?_
            refine lv_goto (tgt := 107) hx hb dX12_wish_102 (by decide) ?_
            exact J_107 20 _ _ _ hI hS  (lv_sub hl [0, 1, 2, 3, 4] rfl)
        · have c_77 := ln_le (by decide : Int64.toInt 1 = 1) rfl (fun h9 => c_77 ((lg_cmp_ge _ _).mpr h9))
          refine lv_lconst (v := 1) hx hb dX12_wish_86 (by decide) ?_
          refine lv_goto (tgt := 107) hx hb dX12_wish_87 (by decide) ?_
          exact J_107 1 _ _ _ hI hS  (lv_sub hl [0, 1, 2, 3, 4] rfl)
      refine lv_if_eq (tgt := 60) hx hb dX12_wish_53 (by decide) (fun c_79 => ?_) (fun c_79 => ?_)
      · have c_79 := kc_eq rfl (by decide : Int32.toInt 0 = 0) c_79
        refine lv_aload_n hx hb dX12_wish_60 rfl (lv_at hl 0 rfl) ?_
        refine lv_iload_n hx hb dX12_wish_61 rfl (lv_at hl 1 rfl) ?_
        refine k_topi (y := nI m_38) em_38 ?_
        refine va_calll (va_runV (As := [.int (nI m_38)]) (rest := [.long r_37]) ⟨hx, hb, hml, hown, hts⟩ (c_X12_weight l dC dI g A hG f_23 h0 m_38 q i_h0 k_32 hc1_ok (by first | omega | decide | (simp only [k_c0, k_c1, k_cm1]; omega))) (cwV 1 hts (gi_V (fun w_ h0_ => ⟨List.mem_cons_of_mem _ (List.mem_append_right _ (List.mem_append_right _ (List.mem_append_right _ (List.mem_append_right _ (List.mem_append_right _ (List.mem_append_right _ (List.mem_append_right _ (List.mem_append_left _ h0_)))))))), (tb_c_X12_weight w_ h0_).2⟩) (List.mem_cons_of_mem _ (List.mem_append_left _ (List.mem_of_getElem? (i := 17) rfl))) (List.mem_cons_of_mem _ (List.mem_append_left _ (List.mem_of_getElem? (i := 18) rfl))) (List.mem_cons_of_mem _ (List.mem_append_left _ (List.mem_of_getElem? (i := 19) rfl))) (List.mem_cons_of_mem _ (List.mem_append_left _ (List.mem_of_getElem? (i := 4) rfl)))) rfl rfl rfl (by decide +kernel) ⟨Nat.le_of_ble_eq_true rfl, Nat.le_of_ble_eq_true rfl⟩) ⟨fun a U g mk q => ⟨q.1, q.2.calling rfl rfl⟩, k_recv hK hI i_h0.1 k_28 (ci := 12) rfl, fun U hU hW => ⟨rfl, kIn.of hI hK hE hS hU hW⟩⟩ rfl rfl hl.1 rfl (lv_room (Nat.le_of_ble_eq_true rfl)) dX12_wish_62 ⟨Nat.le_of_ble_eq_true rfl, Nat.le_of_ble_eq_true rfl⟩) hS (fun q _ h => h) (fun q h => h) (fun r_81 u t H1 locs ht hvm w_80 hB hz1 hk1 hS => ?_)
        have hI : Iv dC dI g A f_23 t.heap := hB
        rw [ht] at hI
        generalize H1 = H at hI hS ⊢
        refine W.widen (k := 0) (n := 0) (Nat.le_of_ble_eq_true rfl) (Nat.le_of_ble_eq_true rfl) ?_
        have w_80 : r_81 = q (6 + 43 * m_38) := w_80
        refine k_topl (y := q (6 + 43 * m_38)) w_80 ?_
        have d_82 := rk_0 hc1_ok (t := m_38) (by omega)
        exact J_65 (q (6 + 43 * m_38)) _ _ _ hI hS (by first | omega | decide) (lv_sub hl [0, 1, 2] rfl)
      · have c_79 := kn_eq rfl (by decide : Int32.toInt 0 = 0) c_79
        have d_83 := w_36.2.2 m_38 (by omega) (by omega)
        refine lv_lconst (v := 0) hx hb dX12_wish_56 (by decide) ?_
        refine lv_goto (tgt := 65) hx hb dX12_wish_57 (by decide) ?_
        exact J_65 0 _ _ _ hI hS (by first | omega | decide | (simp only [show Int64.toInt 0 = 0 from by decide]; omega)) (lv_sub hl [0, 1, 2] rfl)
    · have c_22 := kc_eq rfl (by decide : Int32.toInt 0 = 0) c_22
      refine lv_aload_n hx hb dX12_wish_31 rfl (lv_at hl 0 rfl) ?_
      refine lv_bipush (v := (-2)) hx hb dX12_wish_32 (by decide) ?_
      refine va_calli (va_runV (As := [.int (-2)]) (rest := []) ⟨hx, hb, hml, hown, hts⟩ (c_X12_refuse l dC dI g A hG f_6 h0 (-2) 0 z1 z10 z12 z13 z14 z15 z16 z17 z18 z23 z24 z25 z26 i_h0 k_9 (by first | omega | (simp only [k_c0]; omega)) (by first | omega | (simp only [k_c0]; omega)) (by first | omega | (simp only [k_c0]; omega)) (by decide)) (cwV 1 hts (gi_V (fun w_ h0_ => ⟨List.mem_cons_of_mem _ (List.mem_append_right _ (List.mem_append_right _ (List.mem_append_right _ (List.mem_append_right _ (List.mem_append_right _ (List.mem_append_right _ (List.mem_append_right _ (List.mem_append_right _ (List.mem_append_right _ (List.mem_append_right _ (List.mem_append_left _ h0_))))))))))), (tb_c_X12_refuse w_ h0_).2⟩) (List.mem_cons_of_mem _ (List.mem_append_left _ (List.mem_of_getElem? (i := 27) rfl))) (List.mem_cons_of_mem _ (List.mem_append_left _ (List.mem_of_getElem? (i := 28) rfl))) (List.mem_cons_of_mem _ (List.mem_append_left _ (List.mem_of_getElem? (i := 29) rfl))) (List.mem_cons_of_mem _ (List.mem_append_left _ (List.mem_of_getElem? (i := 4) rfl)))) rfl rfl rfl (by decide +kernel) ⟨Nat.le_of_ble_eq_true rfl, Nat.le_of_ble_eq_true rfl⟩) ⟨fun a U g mk q => ⟨q.1, q.2.calling rfl rfl⟩, k_recv hK hI i_h0.1 k_9 (ci := 12) rfl, fun U hU hW => ⟨rfl, kIn.of hI hK hE hS hU hW⟩⟩ rfl rfl hl.1 rfl (lv_room (Nat.le_of_ble_eq_true rfl)) dX12_wish_34 ⟨Nat.le_of_ble_eq_true rfl, Nat.le_of_ble_eq_true rfl⟩) hS (fun q _ h => h) (fun q h => h) (fun r_86 u t H1 locs ht hvm w_85 hB hz1 hk1 hS => ?_)
      obtain ⟨f_84, hI, kc_87, k_88⟩ := hB
      rw [ht] at hI
      have k_89 : f_84 (gr g h0 4) = .inl (gc g 1, 906, .inr (.inl q)) := Kp.at kc_87 i_1 (by decide) k_10
      have k_90 : f_84 (gr g h0 5) = .inl (gc g 1, 9060, .inr (.inl u)) := Kp.at kc_87 i_3 (by decide) k_11
      have k_91 : f_84 (gr g h0 7) = .inl (gc g 1, 1812, .inr (.inl im)) := Kp.at kc_87 i_4 (by decide) k_12
      have k_92 : f_84 (gr g h0 8) = .inl (gc g 3, 2, .inl kt) := Kp.at kc_87 i_5 (by decide) k_13
      have k_88 : f_84 h0 = .inr (12, [.int (0 : Int32), .int (-2 : Int32), .ref (gr g h0 2), .ref (gr g h0 3), .ref (gr g h0 4), .ref (gr g h0 5), .ref (gr g h0 6), .ref (gr g h0 7), .ref (gr g h0 8), .ref (gr g h0 9), .int z10, .ref (gr g h0 11), .int z12, .int z13, .int z14, .int z15, .long z16, .int z17, .int z18, .ref (gr g h0 19), .ref (gr g h0 20), .ref (gr g h0 21), .ref (gr g h0 22), .int z23, .long z24, .long z25, .long z26]) := k_88
      have kp_93 := Kp.call kp_8 kc_87 (by decide)
      generalize H1 = H at hI hS ⊢
      refine W.widen (k := 0) (n := 0) (Nat.le_of_ble_eq_true rfl) (Nat.le_of_ble_eq_true rfl) ?_
      have w_85 : r_86.toInt = (-2 : Int32).toInt := w_85
      have g_94 : Int32.toInt ((-2)) = (-2) := by decide
      exact W.iret (v := r_86) hx hb hr (fun t ht hW => ⟨⟨r_86, (), rfl, trivial, ⟨f_84, k_ret ht hI, kp_93, (0 : Int32), (-2 : Int32), z10, z12, z13, z14, z15, z16, z17, z18, z23, z24, z25, z26, q, u, im, kt, k_88, (by first | omega | decide), (by first | omega | decide), (by first | omega | decide), k_89, hc1_ok, k_90, k_91, k_92, hU⟩⟩, hS.F ht⟩) hS.2.2 dX12_wish_37
  · have c_19 := kc_eq rfl (by decide : Int32.toInt 0 = 0) c_19
    refine lv_aload_n hx hb dX12_wish_17 rfl (lv_at hl 0 rfl) ?_
    refine lv_iconst (v := (-1)) hx hb dX12_wish_18 (by decide) ?_
    refine va_calli (va_runV (As := [.int (-1)]) (rest := []) ⟨hx, hb, hml, hown, hts⟩ (c_X12_refuse l dC dI g A hG f_6 h0 (-1) 0 z1 z10 z12 z13 z14 z15 z16 z17 z18 z23 z24 z25 z26 i_h0 k_9 (by first | omega | (simp only [k_c0]; omega)) (by first | omega | (simp only [k_c0]; omega)) (by first | omega | (simp only [k_c0]; omega)) (by decide)) (cwV 1 hts (gi_V (fun w_ h0_ => ⟨List.mem_cons_of_mem _ (List.mem_append_right _ (List.mem_append_right _ (List.mem_append_right _ (List.mem_append_right _ (List.mem_append_right _ (List.mem_append_right _ (List.mem_append_right _ (List.mem_append_right _ (List.mem_append_right _ (List.mem_append_right _ (List.mem_append_left _ h0_))))))))))), (tb_c_X12_refuse w_ h0_).2⟩) (List.mem_cons_of_mem _ (List.mem_append_left _ (List.mem_of_getElem? (i := 27) rfl))) (List.mem_cons_of_mem _ (List.mem_append_left _ (List.mem_of_getElem? (i := 28) rfl))) (List.mem_cons_of_mem _ (List.mem_append_left _ (List.mem_of_getElem? (i := 29) rfl))) (List.mem_cons_of_mem _ (List.mem_append_left _ (List.mem_of_getElem? (i := 4) rfl)))) rfl rfl rfl (by decide +kernel) ⟨Nat.le_of_ble_eq_true rfl, Nat.le_of_ble_eq_true rfl⟩) ⟨fun a U g mk q => ⟨q.1, q.2.calling rfl rfl⟩, k_recv hK hI i_h0.1 k_9 (ci := 12) rfl, fun U hU hW => ⟨rfl, kIn.of hI hK hE hS hU hW⟩⟩ rfl rfl hl.1 rfl (lv_room (Nat.le_of_ble_eq_true rfl)) dX12_wish_19 ⟨Nat.le_of_ble_eq_true rfl, Nat.le_of_ble_eq_true rfl⟩) hS (fun q _ h => h) (fun q h => h) (fun r_97 u t H1 locs ht hvm w_96 hB hz1 hk1 hS => ?_)
    obtain ⟨f_95, hI, kc_98, k_99⟩ := hB
    rw [ht] at hI
    have k_100 : f_95 (gr g h0 4) = .inl (gc g 1, 906, .inr (.inl q)) := Kp.at kc_98 i_1 (by decide) k_10
    have k_101 : f_95 (gr g h0 5) = .inl (gc g 1, 9060, .inr (.inl u)) := Kp.at kc_98 i_3 (by decide) k_11
    have k_102 : f_95 (gr g h0 7) = .inl (gc g 1, 1812, .inr (.inl im)) := Kp.at kc_98 i_4 (by decide) k_12
    have k_103 : f_95 (gr g h0 8) = .inl (gc g 3, 2, .inl kt) := Kp.at kc_98 i_5 (by decide) k_13
    have k_99 : f_95 h0 = .inr (12, [.int (0 : Int32), .int (-1 : Int32), .ref (gr g h0 2), .ref (gr g h0 3), .ref (gr g h0 4), .ref (gr g h0 5), .ref (gr g h0 6), .ref (gr g h0 7), .ref (gr g h0 8), .ref (gr g h0 9), .int z10, .ref (gr g h0 11), .int z12, .int z13, .int z14, .int z15, .long z16, .int z17, .int z18, .ref (gr g h0 19), .ref (gr g h0 20), .ref (gr g h0 21), .ref (gr g h0 22), .int z23, .long z24, .long z25, .long z26]) := k_99
    have kp_104 := Kp.call kp_8 kc_98 (by decide)
    generalize H1 = H at hI hS ⊢
    refine W.widen (k := 0) (n := 0) (Nat.le_of_ble_eq_true rfl) (Nat.le_of_ble_eq_true rfl) ?_
    have w_96 : r_97.toInt = (-1 : Int32).toInt := w_96
    have g_105 : Int32.toInt ((-1)) = (-1) := by decide
    exact W.iret (v := r_97) hx hb hr (fun t ht hW => ⟨⟨r_97, (), rfl, trivial, ⟨f_95, k_ret ht hI, kp_104, (0 : Int32), (-1 : Int32), z10, z12, z13, z14, z15, z16, z17, z18, z23, z24, z25, z26, q, u, im, kt, k_99, (by first | omega | decide), (by first | omega | decide), (by first | omega | decide), k_100, hc1_ok, k_101, k_102, k_103, hU⟩⟩, hS.F ht⟩) hS.2.2 dX12_wish_22
theorem tw_974 : q_g (.code yX12_yields cX12_yields 4 (some .int)) := ⟨(List.mem_append_right _ (List.mem_of_getElem? (i := 1315) (by decide +kernel))), good_of_word (by decide +kernel)⟩
def ow_c_X12_yields : List Cond := [.fieldLink RX12 67 "DeadlineShareModel" "thrown" "I", .methodLink RX12 142 yX12_isTask, .instanceMethod yX12_isTask, .selects RX12 yX12_isTask yX12_isTask, .initialized RX12, .methodLink RX12 90 yX12_isOn, .instanceMethod yX12_isOn, .selects RX12 yX12_isOn yX12_isOn, .methodLink RX12 139 yX12_remember, .instanceMethod yX12_remember, .selects RX12 yX12_remember yX12_remember, .methodLink RX12 87 yX12_at, .static yX12_at, .fieldLink RX12 16 "DeadlineShareModel" "row" "[J", .methodLink RX12 167 yX12_deadline, .instanceMethod yX12_deadline, .selects RX12 yX12_deadline yX12_deadline, .methodLink RX12 80 yX12_tell, .instanceMethod yX12_tell, .selects RX12 yX12_tell yX12_tell, .constantLong RX12 65 (-1), .methodLink RX12 76 yX12_refuse, .instanceMethod yX12_refuse, .selects RX12 yX12_refuse yX12_refuse]
def wq_c_X12_yields : List Cond := .code yX12_yields cX12_yields 4 (some .int) :: (ow_c_X12_yields ++ (u_ws RX12 TX12 27 ++ (wq_c_X12_isTask ++ (wq_c_X12_isOn ++ (wq_c_X12_remember ++ (wq_c_X12_at ++ (wq_c_X12_deadline ++ (wq_c_X12_tell ++ (wq_c_X12_refuse ++ ([] : List Cond))))))))))
theorem tb_c_X12_yields : ∀ w ∈ wq_c_X12_yields, q_g w := by
  unfold wq_c_X12_yields ow_c_X12_yields
  exact q_cons tw_974 (q_app (q_cons tw_927 (q_cons tw_951 (q_cons tw_950 (q_cons tw_949 (q_cons tw_728 (q_cons tw_744 (q_cons tw_743 (q_cons tw_742 (q_cons tw_963 (q_cons tw_962 (q_cons tw_961 (q_cons tw_734 (q_cons tw_733 (q_cons tw_731 (q_cons tw_782 (q_cons tw_781 (q_cons tw_780 (q_cons tw_960 (q_cons tw_959 (q_cons tw_958 (q_cons tw_773 (q_cons tw_966 (q_cons tw_965 (q_cons tw_964 q_nil)))))))))))))))))))))))) (q_app tu_X12 (q_app tb_c_X12_isTask (q_app tb_c_X12_isOn (q_app tb_c_X12_remember (q_app tb_c_X12_at (q_app tb_c_X12_deadline (q_app tb_c_X12_tell (q_app tb_c_X12_refuse q_nil)))))))))
set_option maxHeartbeats 4000000 in
set_option maxRecDepth 100000 in
theorem c_X12_yields (l : Launch) (dC : Nat → ClassId) (dI : Nat → Nat → Nat) (g : kG) (A : Nat → Prop) (hG : kWf g) (f : Nat → va_E) (h0 : Nat) (p1 : Int32) (z0 : Int32) (z1 : Int32) (z10 : Int32) (z12 : Int32) (z13 : Int32) (z14 : Int32) (z15 : Int32) (z16 : Int64) (z17 : Int32) (z18 : Int32) (z23 : Int32) (z24 : Int64) (z25 : Int64) (z26 : Int64) (q : Nat → Int64) (u : Nat → Int64) (im : Nat → Int64) (kt : Nat → Int32) (i_h0 : ik g 12 h0) (hc0 : f h0 = .inr (12, [.int z0, .int z1, .ref (gr g h0 2), .ref (gr g h0 3), .ref (gr g h0 4), .ref (gr g h0 5), .ref (gr g h0 6), .ref (gr g h0 7), .ref (gr g h0 8), .ref (gr g h0 9), .int z10, .ref (gr g h0 11), .int z12, .int z13, .int z14, .int z15, .long z16, .int z17, .int z18, .ref (gr g h0 19), .ref (gr g h0 20), .ref (gr g h0 21), .ref (gr g h0 22), .int z23, .long z24, .long z25, .long z26])) (hc0_10 : 0 ≤ z10.toInt ∧ z10.toInt ≤ 10) (hc0_12 : 0 ≤ z12.toInt ∧ z12.toInt ≤ 200) (hc0_23 : 0 ≤ z23.toInt ∧ z23.toInt ≤ 8) (hc1 : f (gr g h0 4) = .inl (gc g 1, 906, .inr (.inl q))) (hc1_ok : RowOK q) (hc2 : f (gr g h0 5) = .inl (gc g 1, 9060, .inr (.inl u))) (hc3 : f (gr g h0 7) = .inl (gc g 1, 1812, .inr (.inl im))) (hc4 : f (gr g h0 8) = .inl (gc g 3, 2, .inl kt)) (hU : UIq z10 u im kt) : Met l yX12_yields wq_c_X12_yields ({ frames := 3, cells := 0, slots := 0, locals := 62 } : Room) (va_Pc [.ref h0, .int p1] (fun U => kIn dC dI g A f U)) (va_Qi (fun (r : Int32) (_ : Unit) => True) (fun (_ : Unit) t => ∃ f1 : Nat → va_E, Iv dC dI g A f1 t.heap ∧ Kp g [12, 30, 32, 33, 37] f f1 ∧ ∃ (w0 : Int32) (w1 : Int32) (w10 : Int32) (w12 : Int32) (w13 : Int32) (w14 : Int32) (w15 : Int32) (w16 : Int64) (w17 : Int32) (w18 : Int32) (w23 : Int32) (w24 : Int64) (w25 : Int64) (w26 : Int64) (q1 : Nat → Int64) (u1 : Nat → Int64) (im1 : Nat → Int64) (ik1 : Nat → Int32), (f1 h0 = .inr (12, [.int w0, .int w1, .ref (gr g h0 2), .ref (gr g h0 3), .ref (gr g h0 4), .ref (gr g h0 5), .ref (gr g h0 6), .ref (gr g h0 7), .ref (gr g h0 8), .ref (gr g h0 9), .int w10, .ref (gr g h0 11), .int w12, .int w13, .int w14, .int w15, .long w16, .int w17, .int w18, .ref (gr g h0 19), .ref (gr g h0 20), .ref (gr g h0 21), .ref (gr g h0 22), .int w23, .long w24, .long w25, .long w26])) ∧ (0 ≤ w10.toInt ∧ w10.toInt ≤ 10) ∧ (0 ≤ w12.toInt ∧ w12.toInt ≤ 200) ∧ (0 ≤ w23.toInt ∧ w23.toInt ≤ 8) ∧ (f1 (gr g h0 4) = .inl (gc g 1, 906, .inr (.inl q1))) ∧ (RowOK q1) ∧ (f1 (gr g h0 5) = .inl (gc g 1, 9060, .inr (.inl u1))) ∧ (f1 (gr g h0 7) = .inl (gc g 1, 1812, .inr (.inl im1))) ∧ (f1 (gr g h0 8) = .inl (gc g 3, 2, .inl ik1)) ∧ (UIq w10 u1 im1 ik1)) A) 0 0 A := by
  refine Met.ofW (cc := cX12_yields) (maxL := 4) (ret := (some .int)) (by decide) rfl ?_
  intro p e s m args below meth c s₁ B hml hv
  obtain ⟨rfl, hI, hK, hE⟩ := hv
  have hx := B.exec
  have hb := B.bytes
  have hr := B.returns
  have hts := atoms_spec (ws := wq_c_X12_yields) B.pre
  have hown : s.vm.findClass RX12 = some m.cls := findClass_of_methodNamed B.named
  have hlocks := B.notSynchronized
  have hS : va_S A s.heap s.heap [] := va_S.rf
  have hk0 : Kp g [12, 30, 32, 33, 37] f f := Kp.rf
  have hl := lv_entry ([.ref h0, .int p1]) (n := 4) (Nat.le_of_ble_eq_true rfl)
  rw [lg_entry_eq]
  generalize (lg_sl ([.ref h0, .int p1]) ++ List.replicate (4 - (lg_sl ([.ref h0, .int p1])).length) Slot.unset).toArray = ls at hl ⊢
  have hl : lv_has ls 4 [(0, .ref h0), (1, .int p1)] := hl
  have i_1 := kw_12_4 hG i_h0
  have d_2 := rk_hd hc1_ok
  have i_3 := kw_12_5 hG i_h0
  have i_4 := kw_12_7 hG i_h0
  have i_5 := kw_12_8 hG i_h0
  refine lv_aload_n hx hb dX12_yields_0 rfl (lv_at hl 0 rfl) ?_
  refine lv_iconst (v := 0) hx hb dX12_yields_1 (by decide) ?_
  refine k_put (ci := 12) (v := .int 0) (ty := .int) (C := RX12) (T := TX12) (N := 27) hx hb hts (fun _ h0_ => List.mem_cons_of_mem _ (List.mem_append_right _ (List.mem_append_left _ h0_))) tyX12 tyX12_ok nmX12 hown hK hI hS i_h0.1 hc0 rfl 0 (by decide) (hts (.fieldLink RX12 67 "DeadlineShareModel" "thrown" "I") (List.mem_cons_of_mem _ (List.mem_append_left _ (List.mem_of_getElem? (i := 0) rfl)))) (fun _ h9 => h9) rfl (by decide +kernel) rfl rfl (Nat.le_of_ble_eq_true rfl) rfl (cl_12 i_h0 (by omega) (by omega) (by omega)) dX12_yields_2 (fun f_6 H locs e_7 hI hS => ?_)
  have k_9 : f_6 h0 = .inr (12, [.int 0, .int z1, .ref (gr g h0 2), .ref (gr g h0 3), .ref (gr g h0 4), .ref (gr g h0 5), .ref (gr g h0 6), .ref (gr g h0 7), .ref (gr g h0 8), .ref (gr g h0 9), .int z10, .ref (gr g h0 11), .int z12, .int z13, .int z14, .int z15, .long z16, .int z17, .int z18, .ref (gr g h0 19), .ref (gr g h0 20), .ref (gr g h0 21), .ref (gr g h0 22), .int z23, .long z24, .long z25, .long z26]) := by rw [e_7]; exact va_up_self _ _ _
  have k_10 : f_6 (gr g h0 4) = .inl (gc g 1, 906, .inr (.inl q)) := by rw [e_7, va_up_ne _ _ (ik_ne i_1 i_h0 (by decide))]; exact hc1
  have k_11 : f_6 (gr g h0 5) = .inl (gc g 1, 9060, .inr (.inl u)) := by rw [e_7, va_up_ne _ _ (ik_ne i_3 i_h0 (by decide))]; exact hc2
  have k_12 : f_6 (gr g h0 7) = .inl (gc g 1, 1812, .inr (.inl im)) := by rw [e_7, va_up_ne _ _ (ik_ne i_4 i_h0 (by decide))]; exact hc3
  have k_13 : f_6 (gr g h0 8) = .inl (gc g 3, 2, .inl kt) := by rw [e_7, va_up_ne _ _ (ik_ne i_5 i_h0 (by decide))]; exact hc4
  have kp_8 := Kp.put hk0 i_h0 (by decide) e_7
  refine lv_aload_n hx hb dX12_yields_5 rfl (lv_at hl 0 rfl) ?_
  refine lv_iload_n hx hb dX12_yields_6 rfl (lv_at hl 1 rfl) ?_
  refine va_calli (va_runV (As := [.int p1]) (rest := []) ⟨hx, hb, hml, hown, hts⟩ (c_X12_isTask l dC dI g A hG f_6 h0 p1 q i_h0 k_10 hc1_ok) (cwV 1 hts (gi_V (fun w_ h0_ => ⟨List.mem_cons_of_mem _ (List.mem_append_right _ (List.mem_append_right _ (List.mem_append_left _ h0_))), (tb_c_X12_isTask w_ h0_).2⟩) (List.mem_cons_of_mem _ (List.mem_append_left _ (List.mem_of_getElem? (i := 1) rfl))) (List.mem_cons_of_mem _ (List.mem_append_left _ (List.mem_of_getElem? (i := 2) rfl))) (List.mem_cons_of_mem _ (List.mem_append_left _ (List.mem_of_getElem? (i := 3) rfl))) (List.mem_cons_of_mem _ (List.mem_append_left _ (List.mem_of_getElem? (i := 4) rfl)))) rfl rfl rfl (by decide +kernel) ⟨Nat.le_of_ble_eq_true rfl, Nat.le_of_ble_eq_true rfl⟩) ⟨fun a U g mk q => ⟨q.1, q.2.calling rfl rfl⟩, k_recv hK hI i_h0.1 k_9 (ci := 12) rfl, fun U hU hW => ⟨rfl, kIn.of hI hK hE hS hU hW⟩⟩ rfl rfl hl.1 rfl (lv_room (Nat.le_of_ble_eq_true rfl)) dX12_yields_7 ⟨Nat.le_of_ble_eq_true rfl, Nat.le_of_ble_eq_true rfl⟩) hS (fun q _ h => h) (fun q h => h) (fun r_15 u t H1 locs ht hvm w_14 hB hz1 hk1 hS => ?_)
  have hI : Iv dC dI g A f_6 t.heap := hB
  rw [ht] at hI
  generalize H1 = H at hI hS ⊢
  refine W.widen (k := 0) (n := 0) (Nat.le_of_ble_eq_true rfl) (Nat.le_of_ble_eq_true rfl) ?_
  have w_14 : (r_15.toInt = 0 ∨ r_15.toInt = 1) ∧ (r_15.toInt = 0 ∨ (0 ≤ p1.toInt ∧ p1.toInt < (q 0).toInt)) := w_14
  refine lv_if_ne (tgt := 20) hx hb dX12_yields_10 (by decide) (fun c_16 => ?_) (fun c_16 => ?_)
  · have c_16 := kn_eq rfl (by decide : Int32.toInt 0 = 0) c_16
    refine lv_aload_n hx hb dX12_yields_20 rfl (lv_at hl 0 rfl) ?_
    obtain ⟨m_17, em_17, tm_17⟩ := k_nat (x := p1) (by omega)
    refine lv_iload_n hx hb dX12_yields_21 rfl (lv_at hl 1 rfl) ?_
    refine k_topi (y := nI m_17) em_17 ?_
    refine va_calli (va_runV (As := [.int (nI m_17)]) (rest := []) ⟨hx, hb, hml, hown, hts⟩ (c_X12_isOn l dC dI g A hG f_6 h0 m_17 q i_h0 k_10 hc1_ok (by first | omega | decide | (simp only [k_c0, k_c1, k_cm1]; omega))) (cwV 1 hts (gi_V (fun w_ h0_ => ⟨List.mem_cons_of_mem _ (List.mem_append_right _ (List.mem_append_right _ (List.mem_append_right _ (List.mem_append_left _ h0_)))), (tb_c_X12_isOn w_ h0_).2⟩) (List.mem_cons_of_mem _ (List.mem_append_left _ (List.mem_of_getElem? (i := 5) rfl))) (List.mem_cons_of_mem _ (List.mem_append_left _ (List.mem_of_getElem? (i := 6) rfl))) (List.mem_cons_of_mem _ (List.mem_append_left _ (List.mem_of_getElem? (i := 7) rfl))) (List.mem_cons_of_mem _ (List.mem_append_left _ (List.mem_of_getElem? (i := 4) rfl)))) rfl rfl rfl (by decide +kernel) ⟨Nat.le_of_ble_eq_true rfl, Nat.le_of_ble_eq_true rfl⟩) ⟨fun a U g mk q => ⟨q.1, q.2.calling rfl rfl⟩, k_recv hK hI i_h0.1 k_9 (ci := 12) rfl, fun U hU hW => ⟨rfl, kIn.of hI hK hE hS hU hW⟩⟩ rfl rfl hl.1 rfl (lv_room (Nat.le_of_ble_eq_true rfl)) dX12_yields_22 ⟨Nat.le_of_ble_eq_true rfl, Nat.le_of_ble_eq_true rfl⟩) hS (fun q _ h => h) (fun q h => h) (fun r_19 u t H1 locs ht hvm w_18 hB hz1 hk1 hS => ?_)
    have hI : Iv dC dI g A f_6 t.heap := hB
    rw [ht] at hI
    generalize H1 = H at hI hS ⊢
    refine W.widen (k := 0) (n := 0) (Nat.le_of_ble_eq_true rfl) (Nat.le_of_ble_eq_true rfl) ?_
    have w_18 : (r_19.toInt = 0 ∧ (q (6 + 43 * m_17 + 2)).toInt ≠ 1) ∨ (r_19.toInt = 1 ∧ (q (6 + 43 * m_17 + 2)).toInt = 1) := w_18
    refine lv_if_ne (tgt := 35) hx hb dX12_yields_25 (by decide) (fun c_20 => ?_) (fun c_20 => ?_)
    · have c_20 := kn_eq rfl (by decide : Int32.toInt 0 = 0) c_20
      refine lv_aload_n hx hb dX12_yields_35 rfl (lv_at hl 0 rfl) ?_
      refine lv_bipush (v := 8) hx hb dX12_yields_36 (by decide) ?_
      refine va_callv (va_runV (As := [.int 8]) (rest := []) ⟨hx, hb, hml, hown, hts⟩ (c_X12_remember l dC dI g A hG f_6 h0 8 0 z1 z10 z12 z13 z14 z15 z16 z17 z18 z23 z24 z25 z26 q u im kt i_h0 k_9 (by first | omega | (simp only [k_c0]; omega)) (by first | omega | (simp only [k_c0]; omega)) (by first | omega | (simp only [k_c0]; omega)) k_10 hc1_ok k_11 k_12 k_13 (by decide)) (cwV 1 hts (gi_V (fun w_ h0_ => ⟨List.mem_cons_of_mem _ (List.mem_append_right _ (List.mem_append_right _ (List.mem_append_right _ (List.mem_append_right _ (List.mem_append_left _ h0_))))), (tb_c_X12_remember w_ h0_).2⟩) (List.mem_cons_of_mem _ (List.mem_append_left _ (List.mem_of_getElem? (i := 8) rfl))) (List.mem_cons_of_mem _ (List.mem_append_left _ (List.mem_of_getElem? (i := 9) rfl))) (List.mem_cons_of_mem _ (List.mem_append_left _ (List.mem_of_getElem? (i := 10) rfl))) (List.mem_cons_of_mem _ (List.mem_append_left _ (List.mem_of_getElem? (i := 4) rfl)))) rfl rfl rfl (by decide +kernel) ⟨Nat.le_of_ble_eq_true rfl, Nat.le_of_ble_eq_true rfl⟩) ⟨fun a U g mk q => ⟨q.1, q.2.calling rfl rfl⟩, k_recv hK hI i_h0.1 k_9 (ci := 12) rfl, fun U hU hW => ⟨rfl, kIn.of hI hK hE hS hU hW⟩⟩ rfl rfl hl.1 rfl (lv_room (Nat.le_of_ble_eq_true rfl)) dX12_yields_38 ⟨Nat.le_of_ble_eq_true rfl, Nat.le_of_ble_eq_true rfl⟩) hS (fun q _ h => h) (fun q h => h) (fun u t H1 locs ht hvm _ hB hz1 hk1 hS => ?_)
      obtain ⟨f_21, hI, kc_23, w10_24, u1_25, k_26, z_27, k_28, z_29⟩ := hB
      rw [ht] at hI
      have k_30 : f_21 (gr g h0 4) = .inl (gc g 1, 906, .inr (.inl q)) := Kp.at kc_23 i_1 (by decide) k_10
      have k_31 : f_21 (gr g h0 7) = .inl (gc g 1, 1812, .inr (.inl im)) := Kp.at kc_23 i_4 (by decide) k_12
      have k_32 : f_21 (gr g h0 8) = .inl (gc g 3, 2, .inl kt) := Kp.at kc_23 i_5 (by decide) k_13
      have k_26 : f_21 h0 = .inr (12, [.int (0 : Int32), .int z1, .ref (gr g h0 2), .ref (gr g h0 3), .ref (gr g h0 4), .ref (gr g h0 5), .ref (gr g h0 6), .ref (gr g h0 7), .ref (gr g h0 8), .ref (gr g h0 9), .int w10_24, .ref (gr g h0 11), .int z12, .int z13, .int z14, .int z15, .long z16, .int z17, .int z18, .ref (gr g h0 19), .ref (gr g h0 20), .ref (gr g h0 21), .ref (gr g h0 22), .int z23, .long z24, .long z25, .long z26]) := k_26
      have z_27 : 0 ≤ w10_24.toInt ∧ w10_24.toInt ≤ 10 := z_27
      have z_29 : UIq w10_24 u1_25 im kt := z_29
      have kp_33 := Kp.call kp_8 kc_23 (by decide)
      generalize H1 = H at hI hS ⊢
      refine W.widen (k := 0) (n := 0) (Nat.le_of_ble_eq_true rfl) (Nat.le_of_ble_eq_true rfl) ?_
      refine lv_iload_n hx hb dX12_yields_41 rfl (lv_at hl 1 rfl) ?_
      refine k_topi (y := nI m_17) em_17 ?_
      refine va_calli (va_runS (As := [.int (nI m_17)]) (rest := []) ⟨hx, hb, hml, hown, hts⟩ (c_X12_at l dC dI g A hG f_21 m_17) (va_cwS 1 hts (gi_S (fun w_ h0_ => ⟨List.mem_cons_of_mem _ (List.mem_append_right _ (List.mem_append_right _ (List.mem_append_right _ (List.mem_append_right _ (List.mem_append_right _ (List.mem_append_left _ h0_)))))), (tb_c_X12_at w_ h0_).2⟩) (List.mem_cons_of_mem _ (List.mem_append_left _ (List.mem_of_getElem? (i := 11) rfl))) (List.mem_cons_of_mem _ (List.mem_append_left _ (List.mem_of_getElem? (i := 12) rfl))) (List.mem_cons_of_mem _ (List.mem_append_left _ (List.mem_of_getElem? (i := 4) rfl)))) rfl rfl rfl (by decide +kernel) ⟨Nat.le_of_ble_eq_true rfl, Nat.le_of_ble_eq_true rfl⟩) ⟨fun a U g mk q => ⟨q.1, q.2.calling rfl rfl⟩, fun U hU hW => ⟨rfl, kIn.of hI hK hE hS hU hW⟩⟩ rfl rfl hl.1 rfl (lv_room (Nat.le_of_ble_eq_true rfl)) dX12_yields_42 ⟨Nat.le_of_ble_eq_true rfl, Nat.le_of_ble_eq_true rfl⟩) hS (fun q _ h => h) (fun q h => h) (fun r_35 u t H1 locs ht hvm w_34 hB hz1 hk1 hS => ?_)
      have hI : Iv dC dI g A f_21 t.heap := hB
      rw [ht] at hI
      generalize H1 = H at hI hS ⊢
      refine W.widen (k := 0) (n := 0) (Nat.le_of_ble_eq_true rfl) (Nat.le_of_ble_eq_true rfl) ?_
      have w_34 : r_35 = nI (6 + 43 * m_17) := w_34
      refine k_topi (y := nI (6 + 43 * m_17)) w_34 ?_
      refine lv_istore_n (lv' := [(2, .int (nI (6 + 43 * m_17))), (0, .ref h0), (1, .int p1)]) hx hb dX12_yields_45 rfl hl (by decide) rfl (fun ls hl => ?_)
      refine lv_aload_n hx hb dX12_yields_46 rfl (lv_at hl 1 rfl) ?_
      refine k_get (ci := 12) (v := .ref (gr g h0 4)) (C := RX12) (T := TX12) (N := 27) hx hb hts (fun _ h0_ => List.mem_cons_of_mem _ (List.mem_append_right _ (List.mem_append_left _ h0_))) hown hK hI i_h0.1 k_26 rfl 4 (by decide) (hts (.fieldLink RX12 16 "DeadlineShareModel" "row" "[J") (List.mem_cons_of_mem _ (List.mem_append_left _ (List.mem_of_getElem? (i := 13) rfl)))) (fun _ h9 => h9) rfl dX12_yields_47 ?_
      refine lv_iload_n hx hb dX12_yields_50 rfl (lv_at hl 0 rfl) ?_
      refine lv_iconst (v := 3) hx hb dX12_yields_51 (by decide) ?_
      refine lv_iadd hx hb dX12_yields_52 ?_
      refine k_topi (y := nI (6 + 43 * m_17 + 3)) ((nI_add (6 + 43 * m_17) 3).trans (congrArg nI (by omega))) ?_
      refine k_lald hx hb hK hI i_1.1 1 k_30 rfl (vp_in_nI (by omega) (by omega)) dX12_yields_53 ?_
      refine k_topl (y := q (6 + 43 * m_17 + 3)) (congrArg q (nI_clamp (by omega))) ?_
      refine lv_l2i (v := (q (6 + 43 * m_17 + 3)).toInt32) hx hb dX12_yields_54 rfl ?_
      refine lv_topi (fun v_38 ev_38 => ?_)
      have tv_38 := k_l2i (q (6 + 43 * m_17 + 3))
      rw [← ev_38] at tv_38
      refine lv_istore_n (lv' := [(3, .int v_38), (2, .int (nI (6 + 43 * m_17))), (0, .ref h0), (1, .int p1)]) hx hb dX12_yields_55 rfl hl (by decide) rfl (fun ls hl => ?_)
      refine lv_aload_n hx hb dX12_yields_56 rfl (lv_at hl 2 rfl) ?_
      refine k_get (ci := 12) (v := .ref (gr g h0 4)) (C := RX12) (T := TX12) (N := 27) hx hb hts (fun _ h0_ => List.mem_cons_of_mem _ (List.mem_append_right _ (List.mem_append_left _ h0_))) hown hK hI i_h0.1 k_26 rfl 4 (by decide) (hts (.fieldLink RX12 16 "DeadlineShareModel" "row" "[J") (List.mem_cons_of_mem _ (List.mem_append_left _ (List.mem_of_getElem? (i := 13) rfl)))) (fun _ h9 => h9) rfl dX12_yields_57 ?_
      refine lv_iload_n hx hb dX12_yields_60 rfl (lv_at hl 1 rfl) ?_
      refine lv_bipush (v := 10) hx hb dX12_yields_61 (by decide) ?_
      refine lv_iadd hx hb dX12_yields_63 ?_
      refine k_topi (y := nI (6 + 43 * m_17 + 10)) ((nI_add (6 + 43 * m_17) 10).trans (congrArg nI (by omega))) ?_
      refine lv_aload_n hx hb dX12_yields_64 rfl (lv_at hl 2 rfl) ?_
      refine lv_iload_n hx hb dX12_yields_65 rfl (lv_at hl 3 rfl) ?_
      refine k_topi (y := nI m_17) em_17 ?_
      refine va_calll (va_runV (As := [.int (nI m_17)]) (rest := [.int (nI (6 + 43 * m_17 + 10)), .ref (gr g h0 4)]) ⟨hx, hb, hml, hown, hts⟩ (c_X12_deadline l dC dI g A hG f_21 h0 m_17 q i_h0 k_30 hc1_ok (by first | omega | decide | (simp only [k_c0, k_c1, k_cm1]; omega))) (cwV 1 hts (gi_V (fun w_ h0_ => ⟨List.mem_cons_of_mem _ (List.mem_append_right _ (List.mem_append_right _ (List.mem_append_right _ (List.mem_append_right _ (List.mem_append_right _ (List.mem_append_right _ (List.mem_append_left _ h0_))))))), (tb_c_X12_deadline w_ h0_).2⟩) (List.mem_cons_of_mem _ (List.mem_append_left _ (List.mem_of_getElem? (i := 14) rfl))) (List.mem_cons_of_mem _ (List.mem_append_left _ (List.mem_of_getElem? (i := 15) rfl))) (List.mem_cons_of_mem _ (List.mem_append_left _ (List.mem_of_getElem? (i := 16) rfl))) (List.mem_cons_of_mem _ (List.mem_append_left _ (List.mem_of_getElem? (i := 4) rfl)))) rfl rfl rfl (by decide +kernel) ⟨Nat.le_of_ble_eq_true rfl, Nat.le_of_ble_eq_true rfl⟩) ⟨fun a U g mk q => ⟨q.1, q.2.calling rfl rfl⟩, k_recv hK hI i_h0.1 k_26 (ci := 12) rfl, fun U hU hW => ⟨rfl, kIn.of hI hK hE hS hU hW⟩⟩ rfl rfl hl.1 rfl (lv_room (Nat.le_of_ble_eq_true rfl)) dX12_yields_66 ⟨Nat.le_of_ble_eq_true rfl, Nat.le_of_ble_eq_true rfl⟩) hS (fun q _ h => h) (fun q h => h) (fun r_42 u t H1 locs ht hvm w_41 hB hz1 hk1 hS => ?_)
      have hI : Iv dC dI g A f_21 t.heap := hB
      rw [ht] at hI
      generalize H1 = H at hI hS ⊢
      refine W.widen (k := 0) (n := 0) (Nat.le_of_ble_eq_true rfl) (Nat.le_of_ble_eq_true rfl) ?_
      refine k_last hx hb hK hI hS i_1.1 1 k_30 rfl (vp_in_nI (by omega) (by omega)) (cl_32 i_1) dX12_yields_69 (fun f_43 H locs e_44 hI hS => ?_)
      generalize eq_45 : vp_updL q (Int32.toNatClampNeg (nI (6 + 43 * m_17 + 10))) r_42 = q_45 at e_44
      have k_47 : f_43 (gr g h0 4) = .inl (gc g 1, 906, .inr (.inl q_45)) := by rw [e_44]; exact va_up_self _ _ _
      have k_48 : f_43 (gr g h0 7) = .inl (gc g 1, 1812, .inr (.inl im)) := by rw [e_44, va_up_ne _ _ (ik_ne i_4 i_1 (by decide))]; exact k_31
      have k_49 : f_43 (gr g h0 8) = .inl (gc g 3, 2, .inl kt) := by rw [e_44, va_up_ne _ _ (ik_ne i_5 i_1 (by decide))]; exact k_32
      have k_50 : f_43 h0 = .inr (12, [.int (0 : Int32), .int z1, .ref (gr g h0 2), .ref (gr g h0 3), .ref (gr g h0 4), .ref (gr g h0 5), .ref (gr g h0 6), .ref (gr g h0 7), .ref (gr g h0 8), .ref (gr g h0 9), .int w10_24, .ref (gr g h0 11), .int z12, .int z13, .int z14, .int z15, .long z16, .int z17, .int z18, .ref (gr g h0 19), .ref (gr g h0 20), .ref (gr g h0 21), .ref (gr g h0 22), .int z23, .long z24, .long z25, .long z26]) := by rw [e_44, va_up_ne _ _ (ik_ne i_h0 i_1 (by decide))]; exact k_26
      have k_51 : f_43 (gr g h0 5) = .inl (gc g 1, 9060, .inr (.inl u1_25)) := by rw [e_44, va_up_ne _ _ (ik_ne i_3 i_1 (by decide))]; exact k_28
      have kp_46 := Kp.put kp_33 i_1 (by decide) e_44
      have u_52 : vp_updL q (6 + 43 * m_17 + 10) r_42 = q_45 := by rw [← eq_45, show Int32.toNatClampNeg (nI (6 + 43 * m_17 + 10)) = 6 + 43 * m_17 + 10 from (nI_clamp (by omega))]
      have ok_53 : RowOK q_45 := by rw [← u_52]; exact rk_upd hc1_ok (by refine ⟨⟨by omega, by omega, by omega, by omega, by omega⟩, fun t9 ht9 => ⟨by omega, by omega, by omega, by omega, by omega, by omega⟩, fun t9 k9 ht9 hk9 => ⟨by omega, by omega, by omega⟩, by omega⟩)
      have d_54 := rk_hd ok_53
      have n_55 : (q_45 0).toInt = (q 0).toInt := by rw [← u_52, pk_uLn (by omega)]
      have n_56 : (q_45 1).toInt = (q 1).toInt := by rw [← u_52, pk_uLn (by omega)]
      have n_57 : (q_45 3).toInt = (q 3).toInt := by rw [← u_52, pk_uLn (by omega)]
      have n_58 : (q_45 4).toInt = (q 4).toInt := by rw [← u_52, pk_uLn (by omega)]
      have n_59 : (q_45 5).toInt = (q 5).toInt := by rw [← u_52, pk_uLn (by omega)]
      refine lv_aload_n hx hb dX12_yields_70 rfl (lv_at hl 2 rfl) ?_
      refine k_get (ci := 12) (v := .ref (gr g h0 4)) (C := RX12) (T := TX12) (N := 27) hx hb hts (fun _ h0_ => List.mem_cons_of_mem _ (List.mem_append_right _ (List.mem_append_left _ h0_))) hown hK hI i_h0.1 k_50 rfl 4 (by decide) (hts (.fieldLink RX12 16 "DeadlineShareModel" "row" "[J") (List.mem_cons_of_mem _ (List.mem_append_left _ (List.mem_of_getElem? (i := 13) rfl)))) (fun _ h9 => h9) rfl dX12_yields_71 ?_
      refine lv_iload_n hx hb dX12_yields_74 rfl (lv_at hl 1 rfl) ?_
      refine lv_iconst (v := 3) hx hb dX12_yields_75 (by decide) ?_
      refine lv_iadd hx hb dX12_yields_76 ?_
      refine k_topi (y := nI (6 + 43 * m_17 + 3)) ((nI_add (6 + 43 * m_17) 3).trans (congrArg nI (by omega))) ?_
      refine lv_aload_n hx hb dX12_yields_77 rfl (lv_at hl 2 rfl) ?_
      refine k_get (ci := 12) (v := .ref (gr g h0 4)) (C := RX12) (T := TX12) (N := 27) hx hb hts (fun _ h0_ => List.mem_cons_of_mem _ (List.mem_append_right _ (List.mem_append_left _ h0_))) hown hK hI i_h0.1 k_50 rfl 4 (by decide) (hts (.fieldLink RX12 16 "DeadlineShareModel" "row" "[J") (List.mem_cons_of_mem _ (List.mem_append_left _ (List.mem_of_getElem? (i := 13) rfl)))) (fun _ h9 => h9) rfl dX12_yields_78 ?_
      refine lv_iload_n hx hb dX12_yields_81 rfl (lv_at hl 1 rfl) ?_
      refine lv_iconst (v := 1) hx hb dX12_yields_82 (by decide) ?_
      refine lv_iadd hx hb dX12_yields_83 ?_
      refine k_topi (y := nI (6 + 43 * m_17 + 1)) ((nI_add (6 + 43 * m_17) 1).trans (congrArg nI (by omega))) ?_
      refine k_lald hx hb hK hI i_1.1 1 k_47 rfl (vp_in_nI (by omega) (by omega)) dX12_yields_84 ?_
      refine k_topl (y := q_45 (6 + 43 * m_17 + 1)) (congrArg q_45 (nI_clamp (by omega))) ?_
      refine k_last hx hb hK hI hS i_1.1 1 k_47 rfl (vp_in_nI (by omega) (by omega)) (cl_32 i_1) dX12_yields_85 (fun f_64 H locs e_65 hI hS => ?_)
      generalize eq_66 : vp_updL q_45 (Int32.toNatClampNeg (nI (6 + 43 * m_17 + 3))) (q_45 (6 + 43 * m_17 + 1)) = q_66 at e_65
      have k_68 : f_64 (gr g h0 4) = .inl (gc g 1, 906, .inr (.inl q_66)) := by rw [e_65]; exact va_up_self _ _ _
      have k_69 : f_64 (gr g h0 7) = .inl (gc g 1, 1812, .inr (.inl im)) := by rw [e_65, va_up_ne _ _ (ik_ne i_4 i_1 (by decide))]; exact k_48
      have k_70 : f_64 (gr g h0 8) = .inl (gc g 3, 2, .inl kt) := by rw [e_65, va_up_ne _ _ (ik_ne i_5 i_1 (by decide))]; exact k_49
      have k_71 : f_64 h0 = .inr (12, [.int (0 : Int32), .int z1, .ref (gr g h0 2), .ref (gr g h0 3), .ref (gr g h0 4), .ref (gr g h0 5), .ref (gr g h0 6), .ref (gr g h0 7), .ref (gr g h0 8), .ref (gr g h0 9), .int w10_24, .ref (gr g h0 11), .int z12, .int z13, .int z14, .int z15, .long z16, .int z17, .int z18, .ref (gr g h0 19), .ref (gr g h0 20), .ref (gr g h0 21), .ref (gr g h0 22), .int z23, .long z24, .long z25, .long z26]) := by rw [e_65, va_up_ne _ _ (ik_ne i_h0 i_1 (by decide))]; exact k_50
      have k_72 : f_64 (gr g h0 5) = .inl (gc g 1, 9060, .inr (.inl u1_25)) := by rw [e_65, va_up_ne _ _ (ik_ne i_3 i_1 (by decide))]; exact k_51
      have kp_67 := Kp.put kp_46 i_1 (by decide) e_65
      have u_73 : vp_updL q_45 (6 + 43 * m_17 + 3) (q_45 (6 + 43 * m_17 + 1)) = q_66 := by rw [← eq_66, show Int32.toNatClampNeg (nI (6 + 43 * m_17 + 3)) = 6 + 43 * m_17 + 3 from (nI_clamp (by omega))]
      have ok_74 : RowOK q_66 := by rw [← u_73]; exact rk_upd ok_53 (by refine ⟨⟨by omega, by omega, by omega, by omega, by omega⟩, fun t9 ht9 => ⟨by omega, by omega, by omega, by omega, by omega, by omega⟩, fun t9 k9 ht9 hk9 => ⟨by omega, by omega, by omega⟩, by omega⟩)
      have d_75 := rk_hd ok_74
      have n_76 : (q_66 0).toInt = (q_45 0).toInt := by rw [← u_73, pk_uLn (by omega)]
      have n_77 : (q_66 1).toInt = (q_45 1).toInt := by rw [← u_73, pk_uLn (by omega)]
      have n_78 : (q_66 3).toInt = (q_45 3).toInt := by rw [← u_73, pk_uLn (by omega)]
      have n_79 : (q_66 4).toInt = (q_45 4).toInt := by rw [← u_73, pk_uLn (by omega)]
      have n_80 : (q_66 5).toInt = (q_45 5).toInt := by rw [← u_73, pk_uLn (by omega)]
      refine lv_aload_n hx hb dX12_yields_86 rfl (lv_at hl 2 rfl) ?_
      refine k_get (ci := 12) (v := .ref (gr g h0 4)) (C := RX12) (T := TX12) (N := 27) hx hb hts (fun _ h0_ => List.mem_cons_of_mem _ (List.mem_append_right _ (List.mem_append_left _ h0_))) hown hK hI i_h0.1 k_71 rfl 4 (by decide) (hts (.fieldLink RX12 16 "DeadlineShareModel" "row" "[J") (List.mem_cons_of_mem _ (List.mem_append_left _ (List.mem_of_getElem? (i := 13) rfl)))) (fun _ h9 => h9) rfl dX12_yields_87 ?_
      refine lv_iconst (v := 4) hx hb dX12_yields_90 (by decide) ?_
      refine lv_aload_n hx hb dX12_yields_91 rfl (lv_at hl 2 rfl) ?_
      refine k_get (ci := 12) (v := .ref (gr g h0 4)) (C := RX12) (T := TX12) (N := 27) hx hb hts (fun _ h0_ => List.mem_cons_of_mem _ (List.mem_append_right _ (List.mem_append_left _ h0_))) hown hK hI i_h0.1 k_71 rfl 4 (by decide) (hts (.fieldLink RX12 16 "DeadlineShareModel" "row" "[J") (List.mem_cons_of_mem _ (List.mem_append_left _ (List.mem_of_getElem? (i := 13) rfl)))) (fun _ h9 => h9) rfl dX12_yields_92 ?_
      refine lv_iconst (v := 4) hx hb dX12_yields_95 (by decide) ?_
      refine k_lald hx hb hK hI i_1.1 1 k_68 rfl (by unfold vp_in; decide) dX12_yields_96 ?_
      refine k_topl (y := q_66 4) (congrArg q_66 (show Int32.toNatClampNeg 4 = 4 by decide)) ?_
      refine lv_iload_n hx hb dX12_yields_97 rfl (lv_at hl 3 rfl) ?_
      refine k_topi (y := nI m_17) em_17 ?_
      refine lv_i2l (v := lN (m_17)) hx hb dX12_yields_98 (nI_l (by omega)) ?_
      refine W.lcmp hx hb dX12_yields_99 ?_
      have J_115 : ∀ (y_85 : Int64) (H : Heap) (locs : List Loc) (ls : Array Slot), Iv dC dI g A f_64 H → va_S A s.heap H locs → (-1 ≤ y_85.toInt ∧ y_85.toInt < (q 0).toInt) → lv_has ls 4 [(3, .int v_38), (2, .int (nI (6 + 43 * m_17))), (0, .ref h0), (1, .int p1)] → W p l e (headSpec wq_c_X12_yields ({ frames := 3, cells := 0, slots := 0, locals := 62 } : Room)).room s m ([.ref h0, .int p1].toArray) below meth c H locs 0 0 (MQ below (va_Qi (fun (r : Int32) (_ : Unit) => True) (fun (_ : Unit) t => ∃ f1 : Nat → va_E, Iv dC dI g A f1 t.heap ∧ Kp g [12, 30, 32, 33, 37] f f1 ∧ ∃ (w0 : Int32) (w1 : Int32) (w10 : Int32) (w12 : Int32) (w13 : Int32) (w14 : Int32) (w15 : Int32) (w16 : Int64) (w17 : Int32) (w18 : Int32) (w23 : Int32) (w24 : Int64) (w25 : Int64) (w26 : Int64) (q1 : Nat → Int64) (u1 : Nat → Int64) (im1 : Nat → Int64) (ik1 : Nat → Int32), (f1 h0 = .inr (12, [.int w0, .int w1, .ref (gr g h0 2), .ref (gr g h0 3), .ref (gr g h0 4), .ref (gr g h0 5), .ref (gr g h0 6), .ref (gr g h0 7), .ref (gr g h0 8), .ref (gr g h0 9), .int w10, .ref (gr g h0 11), .int w12, .int w13, .int w14, .int w15, .long w16, .int w17, .int w18, .ref (gr g h0 19), .ref (gr g h0 20), .ref (gr g h0 21), .ref (gr g h0 22), .int w23, .long w24, .long w25, .long w26])) ∧ (0 ≤ w10.toInt ∧ w10.toInt ≤ 10) ∧ (0 ≤ w12.toInt ∧ w12.toInt ≤ 200) ∧ (0 ≤ w23.toInt ∧ w23.toInt ≤ 8) ∧ (f1 (gr g h0 4) = .inl (gc g 1, 906, .inr (.inl q1))) ∧ (RowOK q1) ∧ (f1 (gr g h0 5) = .inl (gc g 1, 9060, .inr (.inl u1))) ∧ (f1 (gr g h0 7) = .inl (gc g 1, 1812, .inr (.inl im1))) ∧ (f1 (gr g h0 8) = .inl (gc g 3, 2, .inl ik1)) ∧ (UIq w10 u1 im1 ik1)) A) ([.ref h0, .int p1].toArray) s 0 0 A) (F0 m 115 ls [.long y_85, .int 4, .ref (gr g h0 4)]) := by
        intro y_85 H locs ls hI hS t_86 hl
        refine k_last hx hb hK hI hS i_1.1 1 k_68 rfl (by unfold vp_in; decide) (cl_32 i_1) dX12_yields_115 (fun f_87 H locs e_88 hI hS => ?_)
        generalize eq_89 : vp_updL q_66 (Int32.toNatClampNeg 4) y_85 = q_89 at e_88
        have k_91 : f_87 (gr g h0 4) = .inl (gc g 1, 906, .inr (.inl q_89)) := by rw [e_88]; exact va_up_self _ _ _
        have k_92 : f_87 (gr g h0 7) = .inl (gc g 1, 1812, .inr (.inl im)) := by rw [e_88, va_up_ne _ _ (ik_ne i_4 i_1 (by decide))]; exact k_69
        have k_93 : f_87 (gr g h0 8) = .inl (gc g 3, 2, .inl kt) := by rw [e_88, va_up_ne _ _ (ik_ne i_5 i_1 (by decide))]; exact k_70
        have k_94 : f_87 h0 = .inr (12, [.int (0 : Int32), .int z1, .ref (gr g h0 2), .ref (gr g h0 3), .ref (gr g h0 4), .ref (gr g h0 5), .ref (gr g h0 6), .ref (gr g h0 7), .ref (gr g h0 8), .ref (gr g h0 9), .int w10_24, .ref (gr g h0 11), .int z12, .int z13, .int z14, .int z15, .long z16, .int z17, .int z18, .ref (gr g h0 19), .ref (gr g h0 20), .ref (gr g h0 21), .ref (gr g h0 22), .int z23, .long z24, .long z25, .long z26]) := by rw [e_88, va_up_ne _ _ (ik_ne i_h0 i_1 (by decide))]; exact k_71
        have k_95 : f_87 (gr g h0 5) = .inl (gc g 1, 9060, .inr (.inl u1_25)) := by rw [e_88, va_up_ne _ _ (ik_ne i_3 i_1 (by decide))]; exact k_72
        have kp_90 := Kp.put kp_67 i_1 (by decide) e_88
        have u_96 : vp_updL q_66 4 y_85 = q_89 := by rw [← eq_89, show Int32.toNatClampNeg 4 = 4 from (show Int32.toNatClampNeg 4 = 4 by decide)]
        have ok_97 : RowOK q_89 := by rw [← u_96]; exact rk_upd ok_74 (by refine ⟨⟨by omega, by omega, by omega, by omega, by omega⟩, fun t9 ht9 => ⟨by omega, by omega, by omega, by omega, by omega, by omega⟩, fun t9 k9 ht9 hk9 => ⟨by omega, by omega, by omega⟩, by omega⟩)
        have d_98 := rk_hd ok_97
        have n_99 : (q_89 0).toInt = (q_66 0).toInt := by rw [← u_96, pk_uLn (by omega)]
        have n_100 : (q_89 1).toInt = (q_66 1).toInt := by rw [← u_96, pk_uLn (by omega)]
        have n_101 : (q_89 3).toInt = (q_66 3).toInt := by rw [← u_96, pk_uLn (by omega)]
        have n_102 : (q_89 4).toInt = Int64.toInt y_85 := by rw [← u_96, pk_uLs]
        have n_103 : (q_89 5).toInt = (q_66 5).toInt := by rw [← u_96, pk_uLn (by omega)]
        refine lv_aload_n hx hb dX12_yields_116 rfl (lv_at hl 2 rfl) ?_
        refine lv_iload_n hx hb dX12_yields_117 rfl (lv_at hl 0 rfl) ?_
        refine va_calli (va_runV (As := [.int v_38]) (rest := []) ⟨hx, hb, hml, hown, hts⟩ (c_X12_tell l dC dI g A hG f_87 h0 v_38 (0 : Int32) z1 w10_24 z12 z13 z14 z15 z16 z17 z18 z23 z24 z25 z26 i_h0 k_94 (by first | omega | (simp only [k_c0]; omega)) (by first | omega | (simp only [k_c0]; omega)) (by first | omega | (simp only [k_c0]; omega))) (cwV 1 hts (gi_V (fun w_ h0_ => ⟨List.mem_cons_of_mem _ (List.mem_append_right _ (List.mem_append_right _ (List.mem_append_right _ (List.mem_append_right _ (List.mem_append_right _ (List.mem_append_right _ (List.mem_append_right _ (List.mem_append_left _ h0_)))))))), (tb_c_X12_tell w_ h0_).2⟩) (List.mem_cons_of_mem _ (List.mem_append_left _ (List.mem_of_getElem? (i := 17) rfl))) (List.mem_cons_of_mem _ (List.mem_append_left _ (List.mem_of_getElem? (i := 18) rfl))) (List.mem_cons_of_mem _ (List.mem_append_left _ (List.mem_of_getElem? (i := 19) rfl))) (List.mem_cons_of_mem _ (List.mem_append_left _ (List.mem_of_getElem? (i := 4) rfl)))) rfl rfl rfl (by decide +kernel) ⟨Nat.le_of_ble_eq_true rfl, Nat.le_of_ble_eq_true rfl⟩) ⟨fun a U g mk q => ⟨q.1, q.2.calling rfl rfl⟩, k_recv hK hI i_h0.1 k_94 (ci := 12) rfl, fun U hU hW => ⟨rfl, kIn.of hI hK hE hS hU hW⟩⟩ rfl rfl hl.1 rfl (lv_room (Nat.le_of_ble_eq_true rfl)) dX12_yields_118 ⟨Nat.le_of_ble_eq_true rfl, Nat.le_of_ble_eq_true rfl⟩) hS (fun q _ h => h) (fun q h => h) (fun r_106 u t H1 locs ht hvm w_105 hB hz1 hk1 hS => ?_)
        obtain ⟨f_104, hI, kc_107, k_108⟩ := hB
        rw [ht] at hI
        have k_109 : f_104 (gr g h0 4) = .inl (gc g 1, 906, .inr (.inl q_89)) := Kp.at kc_107 i_1 (by decide) k_91
        have k_110 : f_104 (gr g h0 7) = .inl (gc g 1, 1812, .inr (.inl im)) := Kp.at kc_107 i_4 (by decide) k_92
        have k_111 : f_104 (gr g h0 8) = .inl (gc g 3, 2, .inl kt) := Kp.at kc_107 i_5 (by decide) k_93
        have k_112 : f_104 (gr g h0 5) = .inl (gc g 1, 9060, .inr (.inl u1_25)) := Kp.at kc_107 i_3 (by decide) k_95
        have k_108 : f_104 h0 = .inr (12, [.int (0 : Int32), .int 0, .ref (gr g h0 2), .ref (gr g h0 3), .ref (gr g h0 4), .ref (gr g h0 5), .ref (gr g h0 6), .ref (gr g h0 7), .ref (gr g h0 8), .ref (gr g h0 9), .int w10_24, .ref (gr g h0 11), .int z12, .int z13, .int z14, .int z15, .long z16, .int z17, .int z18, .ref (gr g h0 19), .ref (gr g h0 20), .ref (gr g h0 21), .ref (gr g h0 22), .int z23, .long z24, .long z25, .long z26]) := k_108
        have kp_113 := Kp.call kp_90 kc_107 (by decide)
        generalize H1 = H at hI hS ⊢
        refine W.widen (k := 0) (n := 0) (Nat.le_of_ble_eq_true rfl) (Nat.le_of_ble_eq_true rfl) ?_
        have w_105 : r_106.toInt = v_38.toInt := w_105
        exact W.iret (v := r_106) hx hb hr (fun t ht hW => ⟨⟨r_106, (), rfl, trivial, ⟨f_104, k_ret ht hI, kp_113, (0 : Int32), 0, w10_24, z12, z13, z14, z15, z16, z17, z18, z23, z24, z25, z26, q_89, u1_25, im, kt, k_108, (by first | omega | decide), (by first | omega | decide), (by first | omega | decide), k_109, ok_97, k_112, k_110, k_111, z_29⟩⟩, hS.F ht⟩) hS.2.2 dX12_yields_121
      refine lv_if_ne (tgt := 109) hx hb dX12_yields_100 (by decide) (fun c_114 => ?_) (fun c_114 => ?_)
      · have c_114 := ln_eq rfl (lN_toInt (n := m_17) (by omega)) (fun h9 => c_114 ((lg_cmp_eq _ _).mpr h9))
        refine lv_aload_n hx hb dX12_yields_109 rfl (lv_at hl 2 rfl) ?_
        refine k_get (ci := 12) (v := .ref (gr g h0 4)) (C := RX12) (T := TX12) (N := 27) hx hb hts (fun _ h0_ => List.mem_cons_of_mem _ (List.mem_append_right _ (List.mem_append_left _ h0_))) hown hK hI i_h0.1 k_71 rfl 4 (by decide) (hts (.fieldLink RX12 16 "DeadlineShareModel" "row" "[J") (List.mem_cons_of_mem _ (List.mem_append_left _ (List.mem_of_getElem? (i := 13) rfl)))) (fun _ h9 => h9) rfl dX12_yields_110 ?_
        refine lv_iconst (v := 4) hx hb dX12_yields_113 (by decide) ?_
        refine k_lald hx hb hK hI i_1.1 1 k_68 rfl (by unfold vp_in; decide) dX12_yields_114 ?_
        refine k_topl (y := q_66 4) (congrArg q_66 (show Int32.toNatClampNeg 4 = 4 by decide)) ?_
        exact J_115 (q_66 4) _ _ _ hI hS (by first | omega | decide) (lv_sub hl [0, 1, 2, 3] rfl)
      · have c_114 := lc_eq rfl (lN_toInt (n := m_17) (by omega)) ((lg_cmp_eq _ _).mp c_114)
        refine lv_ldc2 hx hb hown (hts (.constantLong RX12 65 (-1)) (List.mem_cons_of_mem _ (List.mem_append_left _ (List.mem_of_getElem? (i := 20) rfl)))) dX12_yields_103 ?_
        refine lv_goto (tgt := 115) hx hb dX12_yields_106 (by decide) ?_
        exact J_115 (-1) _ _ _ hI hS (by first | omega | decide | (simp only [show Int64.toInt (-1) = (-1) from by decide]; omega)) (lv_sub hl [0, 1, 2, 3] rfl)
    · have c_20 := kc_eq rfl (by decide : Int32.toInt 0 = 0) c_20
      refine lv_aload_n hx hb dX12_yields_28 rfl (lv_at hl 0 rfl) ?_
      refine lv_bipush (v := (-4)) hx hb dX12_yields_29 (by decide) ?_
      refine va_calli (va_runV (As := [.int (-4)]) (rest := []) ⟨hx, hb, hml, hown, hts⟩ (c_X12_refuse l dC dI g A hG f_6 h0 (-4) 0 z1 z10 z12 z13 z14 z15 z16 z17 z18 z23 z24 z25 z26 i_h0 k_9 (by first | omega | (simp only [k_c0]; omega)) (by first | omega | (simp only [k_c0]; omega)) (by first | omega | (simp only [k_c0]; omega)) (by decide)) (cwV 1 hts (gi_V (fun w_ h0_ => ⟨List.mem_cons_of_mem _ (List.mem_append_right _ (List.mem_append_right _ (List.mem_append_right _ (List.mem_append_right _ (List.mem_append_right _ (List.mem_append_right _ (List.mem_append_right _ (List.mem_append_right _ (List.mem_append_left _ h0_))))))))), (tb_c_X12_refuse w_ h0_).2⟩) (List.mem_cons_of_mem _ (List.mem_append_left _ (List.mem_of_getElem? (i := 21) rfl))) (List.mem_cons_of_mem _ (List.mem_append_left _ (List.mem_of_getElem? (i := 22) rfl))) (List.mem_cons_of_mem _ (List.mem_append_left _ (List.mem_of_getElem? (i := 23) rfl))) (List.mem_cons_of_mem _ (List.mem_append_left _ (List.mem_of_getElem? (i := 4) rfl)))) rfl rfl rfl (by decide +kernel) ⟨Nat.le_of_ble_eq_true rfl, Nat.le_of_ble_eq_true rfl⟩) ⟨fun a U g mk q => ⟨q.1, q.2.calling rfl rfl⟩, k_recv hK hI i_h0.1 k_9 (ci := 12) rfl, fun U hU hW => ⟨rfl, kIn.of hI hK hE hS hU hW⟩⟩ rfl rfl hl.1 rfl (lv_room (Nat.le_of_ble_eq_true rfl)) dX12_yields_31 ⟨Nat.le_of_ble_eq_true rfl, Nat.le_of_ble_eq_true rfl⟩) hS (fun q _ h => h) (fun q h => h) (fun r_119 u t H1 locs ht hvm w_118 hB hz1 hk1 hS => ?_)
      obtain ⟨f_117, hI, kc_120, k_121⟩ := hB
      rw [ht] at hI
      have k_122 : f_117 (gr g h0 4) = .inl (gc g 1, 906, .inr (.inl q)) := Kp.at kc_120 i_1 (by decide) k_10
      have k_123 : f_117 (gr g h0 5) = .inl (gc g 1, 9060, .inr (.inl u)) := Kp.at kc_120 i_3 (by decide) k_11
      have k_124 : f_117 (gr g h0 7) = .inl (gc g 1, 1812, .inr (.inl im)) := Kp.at kc_120 i_4 (by decide) k_12
      have k_125 : f_117 (gr g h0 8) = .inl (gc g 3, 2, .inl kt) := Kp.at kc_120 i_5 (by decide) k_13
      have k_121 : f_117 h0 = .inr (12, [.int (0 : Int32), .int (-4 : Int32), .ref (gr g h0 2), .ref (gr g h0 3), .ref (gr g h0 4), .ref (gr g h0 5), .ref (gr g h0 6), .ref (gr g h0 7), .ref (gr g h0 8), .ref (gr g h0 9), .int z10, .ref (gr g h0 11), .int z12, .int z13, .int z14, .int z15, .long z16, .int z17, .int z18, .ref (gr g h0 19), .ref (gr g h0 20), .ref (gr g h0 21), .ref (gr g h0 22), .int z23, .long z24, .long z25, .long z26]) := k_121
      have kp_126 := Kp.call kp_8 kc_120 (by decide)
      generalize H1 = H at hI hS ⊢
      refine W.widen (k := 0) (n := 0) (Nat.le_of_ble_eq_true rfl) (Nat.le_of_ble_eq_true rfl) ?_
      have w_118 : r_119.toInt = (-4 : Int32).toInt := w_118
      have g_127 : Int32.toInt ((-4)) = (-4) := by decide
      exact W.iret (v := r_119) hx hb hr (fun t ht hW => ⟨⟨r_119, (), rfl, trivial, ⟨f_117, k_ret ht hI, kp_126, (0 : Int32), (-4 : Int32), z10, z12, z13, z14, z15, z16, z17, z18, z23, z24, z25, z26, q, u, im, kt, k_121, (by first | omega | decide), (by first | omega | decide), (by first | omega | decide), k_122, hc1_ok, k_123, k_124, k_125, hU⟩⟩, hS.F ht⟩) hS.2.2 dX12_yields_34
  · have c_16 := kc_eq rfl (by decide : Int32.toInt 0 = 0) c_16
    refine lv_aload_n hx hb dX12_yields_13 rfl (lv_at hl 0 rfl) ?_
    refine lv_bipush (v := (-2)) hx hb dX12_yields_14 (by decide) ?_
    refine va_calli (va_runV (As := [.int (-2)]) (rest := []) ⟨hx, hb, hml, hown, hts⟩ (c_X12_refuse l dC dI g A hG f_6 h0 (-2) 0 z1 z10 z12 z13 z14 z15 z16 z17 z18 z23 z24 z25 z26 i_h0 k_9 (by first | omega | (simp only [k_c0]; omega)) (by first | omega | (simp only [k_c0]; omega)) (by first | omega | (simp only [k_c0]; omega)) (by decide)) (cwV 1 hts (gi_V (fun w_ h0_ => ⟨List.mem_cons_of_mem _ (List.mem_append_right _ (List.mem_append_right _ (List.mem_append_right _ (List.mem_append_right _ (List.mem_append_right _ (List.mem_append_right _ (List.mem_append_right _ (List.mem_append_right _ (List.mem_append_left _ h0_))))))))), (tb_c_X12_refuse w_ h0_).2⟩) (List.mem_cons_of_mem _ (List.mem_append_left _ (List.mem_of_getElem? (i := 21) rfl))) (List.mem_cons_of_mem _ (List.mem_append_left _ (List.mem_of_getElem? (i := 22) rfl))) (List.mem_cons_of_mem _ (List.mem_append_left _ (List.mem_of_getElem? (i := 23) rfl))) (List.mem_cons_of_mem _ (List.mem_append_left _ (List.mem_of_getElem? (i := 4) rfl)))) rfl rfl rfl (by decide +kernel) ⟨Nat.le_of_ble_eq_true rfl, Nat.le_of_ble_eq_true rfl⟩) ⟨fun a U g mk q => ⟨q.1, q.2.calling rfl rfl⟩, k_recv hK hI i_h0.1 k_9 (ci := 12) rfl, fun U hU hW => ⟨rfl, kIn.of hI hK hE hS hU hW⟩⟩ rfl rfl hl.1 rfl (lv_room (Nat.le_of_ble_eq_true rfl)) dX12_yields_16 ⟨Nat.le_of_ble_eq_true rfl, Nat.le_of_ble_eq_true rfl⟩) hS (fun q _ h => h) (fun q h => h) (fun r_130 u t H1 locs ht hvm w_129 hB hz1 hk1 hS => ?_)
    obtain ⟨f_128, hI, kc_131, k_132⟩ := hB
    rw [ht] at hI
    have k_133 : f_128 (gr g h0 4) = .inl (gc g 1, 906, .inr (.inl q)) := Kp.at kc_131 i_1 (by decide) k_10
    have k_134 : f_128 (gr g h0 5) = .inl (gc g 1, 9060, .inr (.inl u)) := Kp.at kc_131 i_3 (by decide) k_11
    have k_135 : f_128 (gr g h0 7) = .inl (gc g 1, 1812, .inr (.inl im)) := Kp.at kc_131 i_4 (by decide) k_12
    have k_136 : f_128 (gr g h0 8) = .inl (gc g 3, 2, .inl kt) := Kp.at kc_131 i_5 (by decide) k_13
    have k_132 : f_128 h0 = .inr (12, [.int (0 : Int32), .int (-2 : Int32), .ref (gr g h0 2), .ref (gr g h0 3), .ref (gr g h0 4), .ref (gr g h0 5), .ref (gr g h0 6), .ref (gr g h0 7), .ref (gr g h0 8), .ref (gr g h0 9), .int z10, .ref (gr g h0 11), .int z12, .int z13, .int z14, .int z15, .long z16, .int z17, .int z18, .ref (gr g h0 19), .ref (gr g h0 20), .ref (gr g h0 21), .ref (gr g h0 22), .int z23, .long z24, .long z25, .long z26]) := k_132
    have kp_137 := Kp.call kp_8 kc_131 (by decide)
    generalize H1 = H at hI hS ⊢
    refine W.widen (k := 0) (n := 0) (Nat.le_of_ble_eq_true rfl) (Nat.le_of_ble_eq_true rfl) ?_
    have w_129 : r_130.toInt = (-2 : Int32).toInt := w_129
    have g_138 : Int32.toInt ((-2)) = (-2) := by decide
    exact W.iret (v := r_130) hx hb hr (fun t ht hW => ⟨⟨r_130, (), rfl, trivial, ⟨f_128, k_ret ht hI, kp_137, (0 : Int32), (-2 : Int32), z10, z12, z13, z14, z15, z16, z17, z18, z23, z24, z25, z26, q, u, im, kt, k_132, (by first | omega | decide), (by first | omega | decide), (by first | omega | decide), k_133, hc1_ok, k_134, k_135, k_136, hU⟩⟩, hS.F ht⟩) hS.2.2 dX12_yields_19
theorem tw_975 : q_g (.code yX12_ran cX12_ran 3 (some .int)) := ⟨(List.mem_append_right _ (List.mem_of_getElem? (i := 1474) (by decide +kernel))), good_of_word (by decide +kernel)⟩
def ow_c_X12_ran : List Cond := [.fieldLink RX12 67 "DeadlineShareModel" "thrown" "I", .methodLink RX12 296 yX12_logAt, .instanceMethod yX12_logAt, .selects RX12 yX12_logAt yX12_logAt, .initialized RX12, .fieldLink RX12 16 "DeadlineShareModel" "row" "[J"]
def wq_c_X12_ran : List Cond := .code yX12_ran cX12_ran 3 (some .int) :: (ow_c_X12_ran ++ (u_ws RX12 TX12 27 ++ (wq_c_X12_logAt ++ ([] : List Cond))))
theorem tb_c_X12_ran : ∀ w ∈ wq_c_X12_ran, q_g w := by
  unfold wq_c_X12_ran ow_c_X12_ran
  exact q_cons tw_975 (q_app (q_cons tw_927 (q_cons tw_913 (q_cons tw_912 (q_cons tw_911 (q_cons tw_728 (q_cons tw_731 q_nil)))))) (q_app tu_X12 (q_app tb_c_X12_logAt q_nil)))
set_option maxHeartbeats 4000000 in
set_option maxRecDepth 100000 in
theorem c_X12_ran (l : Launch) (dC : Nat → ClassId) (dI : Nat → Nat → Nat) (g : kG) (A : Nat → Prop) (hG : kWf g) (f : Nat → va_E) (h0 : Nat) (p1 : Int32) (z0 : Int32) (z1 : Int32) (z10 : Int32) (z12 : Int32) (z13 : Int32) (z14 : Int32) (z15 : Int32) (z16 : Int64) (z17 : Int32) (z18 : Int32) (z23 : Int32) (z24 : Int64) (z25 : Int64) (z26 : Int64) (q : Nat → Int64) (u : Nat → Int64) (im : Nat → Int64) (kt : Nat → Int32) (i_h0 : ik g 12 h0) (hc0 : f h0 = .inr (12, [.int z0, .int z1, .ref (gr g h0 2), .ref (gr g h0 3), .ref (gr g h0 4), .ref (gr g h0 5), .ref (gr g h0 6), .ref (gr g h0 7), .ref (gr g h0 8), .ref (gr g h0 9), .int z10, .ref (gr g h0 11), .int z12, .int z13, .int z14, .int z15, .long z16, .int z17, .int z18, .ref (gr g h0 19), .ref (gr g h0 20), .ref (gr g h0 21), .ref (gr g h0 22), .int z23, .long z24, .long z25, .long z26])) (hc0_10 : 0 ≤ z10.toInt ∧ z10.toInt ≤ 10) (hc0_12 : 0 ≤ z12.toInt ∧ z12.toInt ≤ 200) (hc0_23 : 0 ≤ z23.toInt ∧ z23.toInt ≤ 8) (hc1 : f (gr g h0 4) = .inl (gc g 1, 906, .inr (.inl q))) (hc1_ok : RowOK q) (hc2 : f (gr g h0 5) = .inl (gc g 1, 9060, .inr (.inl u))) (hc3 : f (gr g h0 7) = .inl (gc g 1, 1812, .inr (.inl im))) (hc4 : f (gr g h0 8) = .inl (gc g 3, 2, .inl kt)) (hU : UIq z10 u im kt) : Met l yX12_ran wq_c_X12_ran ({ frames := 2, cells := 0, slots := 0, locals := 49 } : Room) (va_Pc [.ref h0, .int p1] (fun U => kIn dC dI g A f U)) (va_Qi (fun (r : Int32) (_ : Unit) => True) (fun (_ : Unit) t => ∃ f1 : Nat → va_E, Iv dC dI g A f1 t.heap ∧ Kp g [12] f f1 ∧ ∃ (w0 : Int32) (w1 : Int32) (w10 : Int32) (w12 : Int32) (w13 : Int32) (w14 : Int32) (w15 : Int32) (w16 : Int64) (w17 : Int32) (w18 : Int32) (w23 : Int32) (w24 : Int64) (w25 : Int64) (w26 : Int64) (q1 : Nat → Int64) (u1 : Nat → Int64) (im1 : Nat → Int64) (ik1 : Nat → Int32), (f1 h0 = .inr (12, [.int w0, .int w1, .ref (gr g h0 2), .ref (gr g h0 3), .ref (gr g h0 4), .ref (gr g h0 5), .ref (gr g h0 6), .ref (gr g h0 7), .ref (gr g h0 8), .ref (gr g h0 9), .int w10, .ref (gr g h0 11), .int w12, .int w13, .int w14, .int w15, .long w16, .int w17, .int w18, .ref (gr g h0 19), .ref (gr g h0 20), .ref (gr g h0 21), .ref (gr g h0 22), .int w23, .long w24, .long w25, .long w26])) ∧ (0 ≤ w10.toInt ∧ w10.toInt ≤ 10) ∧ (0 ≤ w12.toInt ∧ w12.toInt ≤ 200) ∧ (0 ≤ w23.toInt ∧ w23.toInt ≤ 8) ∧ (f1 (gr g h0 4) = .inl (gc g 1, 906, .inr (.inl q1))) ∧ (RowOK q1) ∧ (f1 (gr g h0 5) = .inl (gc g 1, 9060, .inr (.inl u1))) ∧ (f1 (gr g h0 7) = .inl (gc g 1, 1812, .inr (.inl im1))) ∧ (f1 (gr g h0 8) = .inl (gc g 3, 2, .inl ik1)) ∧ (UIq w10 u1 im1 ik1)) A) 0 0 A := by
  refine Met.ofW (cc := cX12_ran) (maxL := 3) (ret := (some .int)) (by decide) rfl ?_
  intro p e s m args below meth c s₁ B hml hv
  obtain ⟨rfl, hI, hK, hE⟩ := hv
  have hx := B.exec
  have hb := B.bytes
  have hr := B.returns
  have hts := atoms_spec (ws := wq_c_X12_ran) B.pre
  have hown : s.vm.findClass RX12 = some m.cls := findClass_of_methodNamed B.named
  have hlocks := B.notSynchronized
  have hS : va_S A s.heap s.heap [] := va_S.rf
  have hk0 : Kp g [12] f f := Kp.rf
  have hl := lv_entry ([.ref h0, .int p1]) (n := 3) (Nat.le_of_ble_eq_true rfl)
  rw [lg_entry_eq]
  generalize (lg_sl ([.ref h0, .int p1]) ++ List.replicate (3 - (lg_sl ([.ref h0, .int p1])).length) Slot.unset).toArray = ls at hl ⊢
  have hl : lv_has ls 3 [(0, .ref h0), (1, .int p1)] := hl
  have i_1 := kw_12_4 hG i_h0
  have d_2 := rk_hd hc1_ok
  have i_3 := kw_12_5 hG i_h0
  have i_4 := kw_12_7 hG i_h0
  have i_5 := kw_12_8 hG i_h0
  refine lv_aload_n hx hb dX12_ran_0 rfl (lv_at hl 0 rfl) ?_
  refine lv_iconst (v := 0) hx hb dX12_ran_1 (by decide) ?_
  refine k_put (ci := 12) (v := .int 0) (ty := .int) (C := RX12) (T := TX12) (N := 27) hx hb hts (fun _ h0_ => List.mem_cons_of_mem _ (List.mem_append_right _ (List.mem_append_left _ h0_))) tyX12 tyX12_ok nmX12 hown hK hI hS i_h0.1 hc0 rfl 0 (by decide) (hts (.fieldLink RX12 67 "DeadlineShareModel" "thrown" "I") (List.mem_cons_of_mem _ (List.mem_append_left _ (List.mem_of_getElem? (i := 0) rfl)))) (fun _ h9 => h9) rfl (by decide +kernel) rfl rfl (Nat.le_of_ble_eq_true rfl) rfl (cl_12 i_h0 (by omega) (by omega) (by omega)) dX12_ran_2 (fun f_6 H locs e_7 hI hS => ?_)
  have k_9 : f_6 h0 = .inr (12, [.int 0, .int z1, .ref (gr g h0 2), .ref (gr g h0 3), .ref (gr g h0 4), .ref (gr g h0 5), .ref (gr g h0 6), .ref (gr g h0 7), .ref (gr g h0 8), .ref (gr g h0 9), .int z10, .ref (gr g h0 11), .int z12, .int z13, .int z14, .int z15, .long z16, .int z17, .int z18, .ref (gr g h0 19), .ref (gr g h0 20), .ref (gr g h0 21), .ref (gr g h0 22), .int z23, .long z24, .long z25, .long z26]) := by rw [e_7]; exact va_up_self _ _ _
  have k_10 : f_6 (gr g h0 4) = .inl (gc g 1, 906, .inr (.inl q)) := by rw [e_7, va_up_ne _ _ (ik_ne i_1 i_h0 (by decide))]; exact hc1
  have k_11 : f_6 (gr g h0 5) = .inl (gc g 1, 9060, .inr (.inl u)) := by rw [e_7, va_up_ne _ _ (ik_ne i_3 i_h0 (by decide))]; exact hc2
  have k_12 : f_6 (gr g h0 7) = .inl (gc g 1, 1812, .inr (.inl im)) := by rw [e_7, va_up_ne _ _ (ik_ne i_4 i_h0 (by decide))]; exact hc3
  have k_13 : f_6 (gr g h0 8) = .inl (gc g 3, 2, .inl kt) := by rw [e_7, va_up_ne _ _ (ik_ne i_5 i_h0 (by decide))]; exact hc4
  have kp_8 := Kp.put hk0 i_h0 (by decide) e_7
  refine lv_aload_n hx hb dX12_ran_5 rfl (lv_at hl 0 rfl) ?_
  refine lv_iload_n hx hb dX12_ran_6 rfl (lv_at hl 1 rfl) ?_
  refine lv_i2l (v := p1.toInt64) hx hb dX12_ran_7 rfl ?_
  have t_14 := Int32.toInt_toInt64 p1
  refine va_calli (va_runV (As := [.long p1.toInt64]) (rest := []) ⟨hx, hb, hml, hown, hts⟩ (c_X12_logAt l dC dI g A hG f_6 h0 p1.toInt64 q i_h0 k_10 hc1_ok) (cwV 1 hts (gi_V (fun w_ h0_ => ⟨List.mem_cons_of_mem _ (List.mem_append_right _ (List.mem_append_right _ (List.mem_append_left _ h0_))), (tb_c_X12_logAt w_ h0_).2⟩) (List.mem_cons_of_mem _ (List.mem_append_left _ (List.mem_of_getElem? (i := 1) rfl))) (List.mem_cons_of_mem _ (List.mem_append_left _ (List.mem_of_getElem? (i := 2) rfl))) (List.mem_cons_of_mem _ (List.mem_append_left _ (List.mem_of_getElem? (i := 3) rfl))) (List.mem_cons_of_mem _ (List.mem_append_left _ (List.mem_of_getElem? (i := 4) rfl)))) rfl rfl rfl (by decide +kernel) ⟨Nat.le_of_ble_eq_true rfl, Nat.le_of_ble_eq_true rfl⟩) ⟨fun a U g mk q => ⟨q.1, q.2.calling rfl rfl⟩, k_recv hK hI i_h0.1 k_9 (ci := 12) rfl, fun U hU hW => ⟨rfl, kIn.of hI hK hE hS hU hW⟩⟩ rfl rfl hl.1 rfl (lv_room (Nat.le_of_ble_eq_true rfl)) dX12_ran_8 ⟨Nat.le_of_ble_eq_true rfl, Nat.le_of_ble_eq_true rfl⟩) hS (fun q _ h => h) (fun q h => h) (fun r_16 u t H1 locs ht hvm w_15 hB hz1 hk1 hS => ?_)
  have hI : Iv dC dI g A f_6 t.heap := hB
  rw [ht] at hI
  generalize H1 = H at hI hS ⊢
  refine W.widen (k := 0) (n := 0) (Nat.le_of_ble_eq_true rfl) (Nat.le_of_ble_eq_true rfl) ?_
  have w_15 : (r_16.toInt = -1 ∧ ¬ ((q 1).toInt - (q 5).toInt ≤ p1.toInt64.toInt ∧ p1.toInt64.toInt ≤ (q 1).toInt - 1)) ∨ ((q 1).toInt - (q 5).toInt ≤ p1.toInt64.toInt ∧ p1.toInt64.toInt ≤ (q 1).toInt - 1 ∧ ∃ l : Nat, r_16 = nI (522 + 3 * l) ∧ (l : Int) < (q 5).toInt) := w_15
  refine lv_istore_n (lv' := [(2, .int r_16), (0, .ref h0), (1, .int p1)]) hx hb dX12_ran_11 rfl hl (by decide) rfl (fun ls hl => ?_)
  refine lv_iload_n hx hb dX12_ran_12 rfl (lv_at hl 0 rfl) ?_
  refine lv_iconst (v := (-1)) hx hb dX12_ran_13 (by decide) ?_
  refine lv_icmp_ne (tgt := 21) hx hb dX12_ran_14 (by decide) (fun c_17 => ?_) (fun c_17 => ?_)
  · have c_17 := kn_eq rfl (by decide : Int32.toInt (-1) = (-1)) c_17
    obtain ⟨m_18, em_18, tm_18⟩ : ∃ l : Nat, r_16 = nI (522 + 3 * l) ∧ (l : Int) < (q 5).toInt := w_15.elim (fun h9 => absurd h9.1 (by omega)) (fun h9 => h9.2.2)
    refine lv_aload_n hx hb dX12_ran_21 rfl (lv_at hl 1 rfl) ?_
    refine k_get (ci := 12) (v := .ref (gr g h0 4)) (C := RX12) (T := TX12) (N := 27) hx hb hts (fun _ h0_ => List.mem_cons_of_mem _ (List.mem_append_right _ (List.mem_append_left _ h0_))) hown hK hI i_h0.1 k_9 rfl 4 (by decide) (hts (.fieldLink RX12 16 "DeadlineShareModel" "row" "[J") (List.mem_cons_of_mem _ (List.mem_append_left _ (List.mem_of_getElem? (i := 5) rfl)))) (fun _ h9 => h9) rfl dX12_ran_22 ?_
    refine lv_iload_n hx hb dX12_ran_25 rfl (lv_at hl 0 rfl) ?_
    refine k_topi (y := nI (522 + 3 * m_18)) em_18 ?_
    refine k_lald hx hb hK hI i_1.1 1 k_10 rfl (vp_in_nI (by omega) (by omega)) dX12_ran_26 ?_
    refine k_topl (y := q ((522 + 3 * m_18))) (congrArg q (nI_clamp (by omega))) ?_
    refine lv_l2i (v := (q ((522 + 3 * m_18))).toInt32) hx hb dX12_ran_27 rfl ?_
    refine lv_topi (fun v_21 ev_21 => ?_)
    have tv_21 := k_l2i (q ((522 + 3 * m_18)))
    rw [← ev_21] at tv_21
    exact W.iret (v := v_21) hx hb hr (fun t ht hW => ⟨⟨v_21, (), rfl, trivial, ⟨f_6, k_ret ht hI, kp_8, 0, z1, z10, z12, z13, z14, z15, z16, z17, z18, z23, z24, z25, z26, q, u, im, kt, k_9, (by first | omega | decide), (by first | omega | decide), (by first | omega | decide), k_10, hc1_ok, k_11, k_12, k_13, hU⟩⟩, hS.F ht⟩) hS.2.2 dX12_ran_28
  · have c_17 := kc_eq rfl (by decide : Int32.toInt (-1) = (-1)) c_17
    refine lv_iconst (v := (-1)) hx hb dX12_ran_17 (by decide) ?_
    refine lv_goto (tgt := 28) hx hb dX12_ran_18 (by decide) ?_
    exact W.iret (v := (-1)) hx hb hr (fun t ht hW => ⟨⟨(-1), (), rfl, trivial, ⟨f_6, k_ret ht hI, kp_8, 0, z1, z10, z12, z13, z14, z15, z16, z17, z18, z23, z24, z25, z26, q, u, im, kt, k_9, (by first | omega | decide), (by first | omega | decide), (by first | omega | decide), k_10, hc1_ok, k_11, k_12, k_13, hU⟩⟩, hS.F ht⟩) hS.2.2 dX12_ran_28
theorem tw_976 : q_g (.selects RX12 yX12_areKept yX12_areKept) := ⟨(List.mem_append_left _ (List.mem_of_getElem? (i := 60) (by decide +kernel))), good_of_word (by decide +kernel)⟩
theorem tw_977 : q_g (.instanceMethod yX12_areKept) := ⟨(List.mem_append_right _ (List.mem_of_getElem? (i := 1485) (by decide +kernel))), good_of_word (by decide +kernel)⟩
theorem tw_978 : q_g (.methodLink RX12 300 yX12_areKept) := ⟨(List.mem_append_right _ (List.mem_of_getElem? (i := 1483) (by decide +kernel))), good_of_word (by decide +kernel)⟩
theorem tw_979 : q_g (.code yX12_service cX12_service 7 (some .int)) := ⟨(List.mem_append_right _ (List.mem_of_getElem? (i := 1482) (by decide +kernel))), good_of_word (by decide +kernel)⟩
def ow_c_X12_service : List Cond := [.fieldLink RX12 67 "DeadlineShareModel" "thrown" "I", .methodLink RX12 142 yX12_isTask, .instanceMethod yX12_isTask, .selects RX12 yX12_isTask yX12_isTask, .initialized RX12, .methodLink RX12 300 yX12_areKept, .instanceMethod yX12_areKept, .selects RX12 yX12_areKept yX12_areKept, .fieldLink RX12 16 "DeadlineShareModel" "row" "[J", .methodLink RX12 296 yX12_logAt, .instanceMethod yX12_logAt, .selects RX12 yX12_logAt yX12_logAt]
def wq_c_X12_service : List Cond := .code yX12_service cX12_service 7 (some .int) :: (ow_c_X12_service ++ (u_ws RX12 TX12 27 ++ (wq_c_X12_isTask ++ (wq_c_X12_areKept ++ (wq_c_X12_logAt ++ ([] : List Cond))))))
theorem tb_c_X12_service : ∀ w ∈ wq_c_X12_service, q_g w := by
  unfold wq_c_X12_service ow_c_X12_service
  exact q_cons tw_979 (q_app (q_cons tw_927 (q_cons tw_951 (q_cons tw_950 (q_cons tw_949 (q_cons tw_728 (q_cons tw_978 (q_cons tw_977 (q_cons tw_976 (q_cons tw_731 (q_cons tw_913 (q_cons tw_912 (q_cons tw_911 q_nil)))))))))))) (q_app tu_X12 (q_app tb_c_X12_isTask (q_app tb_c_X12_areKept (q_app tb_c_X12_logAt q_nil)))))
set_option maxHeartbeats 4000000 in
set_option maxRecDepth 100000 in
theorem c_X12_service (l : Launch) (dC : Nat → ClassId) (dI : Nat → Nat → Nat) (g : kG) (A : Nat → Prop) (hG : kWf g) (f : Nat → va_E) (h0 : Nat) (p1 : Int32) (p2 : Int32) (p3 : Int32) (z0 : Int32) (z1 : Int32) (z10 : Int32) (z12 : Int32) (z13 : Int32) (z14 : Int32) (z15 : Int32) (z16 : Int64) (z17 : Int32) (z18 : Int32) (z23 : Int32) (z24 : Int64) (z25 : Int64) (z26 : Int64) (q : Nat → Int64) (u : Nat → Int64) (im : Nat → Int64) (kt : Nat → Int32) (i_h0 : ik g 12 h0) (hc0 : f h0 = .inr (12, [.int z0, .int z1, .ref (gr g h0 2), .ref (gr g h0 3), .ref (gr g h0 4), .ref (gr g h0 5), .ref (gr g h0 6), .ref (gr g h0 7), .ref (gr g h0 8), .ref (gr g h0 9), .int z10, .ref (gr g h0 11), .int z12, .int z13, .int z14, .int z15, .long z16, .int z17, .int z18, .ref (gr g h0 19), .ref (gr g h0 20), .ref (gr g h0 21), .ref (gr g h0 22), .int z23, .long z24, .long z25, .long z26])) (hc0_10 : 0 ≤ z10.toInt ∧ z10.toInt ≤ 10) (hc0_12 : 0 ≤ z12.toInt ∧ z12.toInt ≤ 200) (hc0_23 : 0 ≤ z23.toInt ∧ z23.toInt ≤ 8) (hc1 : f (gr g h0 4) = .inl (gc g 1, 906, .inr (.inl q))) (hc1_ok : RowOK q) (hc2 : f (gr g h0 5) = .inl (gc g 1, 9060, .inr (.inl u))) (hc3 : f (gr g h0 7) = .inl (gc g 1, 1812, .inr (.inl im))) (hc4 : f (gr g h0 8) = .inl (gc g 3, 2, .inl kt)) (hU : UIq z10 u im kt) : Met l yX12_service wq_c_X12_service ({ frames := 3, cells := 0, slots := 0, locals := 71 } : Room) (va_Pc [.ref h0, .int p1, .int p2, .int p3] (fun U => kIn dC dI g A f U)) (va_Qi (fun (r : Int32) (_ : Unit) => True) (fun (_ : Unit) t => ∃ f1 : Nat → va_E, Iv dC dI g A f1 t.heap ∧ Kp g [12] f f1 ∧ ∃ (w0 : Int32) (w1 : Int32) (w10 : Int32) (w12 : Int32) (w13 : Int32) (w14 : Int32) (w15 : Int32) (w16 : Int64) (w17 : Int32) (w18 : Int32) (w23 : Int32) (w24 : Int64) (w25 : Int64) (w26 : Int64) (q1 : Nat → Int64) (u1 : Nat → Int64) (im1 : Nat → Int64) (ik1 : Nat → Int32), (f1 h0 = .inr (12, [.int w0, .int w1, .ref (gr g h0 2), .ref (gr g h0 3), .ref (gr g h0 4), .ref (gr g h0 5), .ref (gr g h0 6), .ref (gr g h0 7), .ref (gr g h0 8), .ref (gr g h0 9), .int w10, .ref (gr g h0 11), .int w12, .int w13, .int w14, .int w15, .long w16, .int w17, .int w18, .ref (gr g h0 19), .ref (gr g h0 20), .ref (gr g h0 21), .ref (gr g h0 22), .int w23, .long w24, .long w25, .long w26])) ∧ (0 ≤ w10.toInt ∧ w10.toInt ≤ 10) ∧ (0 ≤ w12.toInt ∧ w12.toInt ≤ 200) ∧ (0 ≤ w23.toInt ∧ w23.toInt ≤ 8) ∧ (f1 (gr g h0 4) = .inl (gc g 1, 906, .inr (.inl q1))) ∧ (RowOK q1) ∧ (f1 (gr g h0 5) = .inl (gc g 1, 9060, .inr (.inl u1))) ∧ (f1 (gr g h0 7) = .inl (gc g 1, 1812, .inr (.inl im1))) ∧ (f1 (gr g h0 8) = .inl (gc g 3, 2, .inl ik1)) ∧ (UIq w10 u1 im1 ik1)) A) 0 0 A := by
  refine Met.ofW (cc := cX12_service) (maxL := 7) (ret := (some .int)) (by decide) rfl ?_
  intro p e s m args below meth c s₁ B hml hv
  obtain ⟨rfl, hI, hK, hE⟩ := hv
  have hx := B.exec
  have hb := B.bytes
  have hr := B.returns
  have hts := atoms_spec (ws := wq_c_X12_service) B.pre
  have hown : s.vm.findClass RX12 = some m.cls := findClass_of_methodNamed B.named
  have hlocks := B.notSynchronized
  have hS : va_S A s.heap s.heap [] := va_S.rf
  have hk0 : Kp g [12] f f := Kp.rf
  have hl := lv_entry ([.ref h0, .int p1, .int p2, .int p3]) (n := 7) (Nat.le_of_ble_eq_true rfl)
  rw [lg_entry_eq]
  generalize (lg_sl ([.ref h0, .int p1, .int p2, .int p3]) ++ List.replicate (7 - (lg_sl ([.ref h0, .int p1, .int p2, .int p3])).length) Slot.unset).toArray = ls at hl ⊢
  have hl : lv_has ls 7 [(0, .ref h0), (1, .int p1), (2, .int p2), (3, .int p3)] := hl
  have i_1 := kw_12_4 hG i_h0
  have d_2 := rk_hd hc1_ok
  have i_3 := kw_12_5 hG i_h0
  have i_4 := kw_12_7 hG i_h0
  have i_5 := kw_12_8 hG i_h0
  refine lv_aload_n hx hb dX12_service_0 rfl (lv_at hl 0 rfl) ?_
  refine lv_iconst (v := 0) hx hb dX12_service_1 (by decide) ?_
  refine k_put (ci := 12) (v := .int 0) (ty := .int) (C := RX12) (T := TX12) (N := 27) hx hb hts (fun _ h0_ => List.mem_cons_of_mem _ (List.mem_append_right _ (List.mem_append_left _ h0_))) tyX12 tyX12_ok nmX12 hown hK hI hS i_h0.1 hc0 rfl 0 (by decide) (hts (.fieldLink RX12 67 "DeadlineShareModel" "thrown" "I") (List.mem_cons_of_mem _ (List.mem_append_left _ (List.mem_of_getElem? (i := 0) rfl)))) (fun _ h9 => h9) rfl (by decide +kernel) rfl rfl (Nat.le_of_ble_eq_true rfl) rfl (cl_12 i_h0 (by omega) (by omega) (by omega)) dX12_service_2 (fun f_6 H locs e_7 hI hS => ?_)
  have k_9 : f_6 h0 = .inr (12, [.int 0, .int z1, .ref (gr g h0 2), .ref (gr g h0 3), .ref (gr g h0 4), .ref (gr g h0 5), .ref (gr g h0 6), .ref (gr g h0 7), .ref (gr g h0 8), .ref (gr g h0 9), .int z10, .ref (gr g h0 11), .int z12, .int z13, .int z14, .int z15, .long z16, .int z17, .int z18, .ref (gr g h0 19), .ref (gr g h0 20), .ref (gr g h0 21), .ref (gr g h0 22), .int z23, .long z24, .long z25, .long z26]) := by rw [e_7]; exact va_up_self _ _ _
  have k_10 : f_6 (gr g h0 4) = .inl (gc g 1, 906, .inr (.inl q)) := by rw [e_7, va_up_ne _ _ (ik_ne i_1 i_h0 (by decide))]; exact hc1
  have k_11 : f_6 (gr g h0 5) = .inl (gc g 1, 9060, .inr (.inl u)) := by rw [e_7, va_up_ne _ _ (ik_ne i_3 i_h0 (by decide))]; exact hc2
  have k_12 : f_6 (gr g h0 7) = .inl (gc g 1, 1812, .inr (.inl im)) := by rw [e_7, va_up_ne _ _ (ik_ne i_4 i_h0 (by decide))]; exact hc3
  have k_13 : f_6 (gr g h0 8) = .inl (gc g 3, 2, .inl kt) := by rw [e_7, va_up_ne _ _ (ik_ne i_5 i_h0 (by decide))]; exact hc4
  have kp_8 := Kp.put hk0 i_h0 (by decide) e_7
  refine lv_aload_n hx hb dX12_service_5 rfl (lv_at hl 0 rfl) ?_
  refine lv_iload_n hx hb dX12_service_6 rfl (lv_at hl 1 rfl) ?_
  refine va_calli (va_runV (As := [.int p1]) (rest := []) ⟨hx, hb, hml, hown, hts⟩ (c_X12_isTask l dC dI g A hG f_6 h0 p1 q i_h0 k_10 hc1_ok) (cwV 1 hts (gi_V (fun w_ h0_ => ⟨List.mem_cons_of_mem _ (List.mem_append_right _ (List.mem_append_right _ (List.mem_append_left _ h0_))), (tb_c_X12_isTask w_ h0_).2⟩) (List.mem_cons_of_mem _ (List.mem_append_left _ (List.mem_of_getElem? (i := 1) rfl))) (List.mem_cons_of_mem _ (List.mem_append_left _ (List.mem_of_getElem? (i := 2) rfl))) (List.mem_cons_of_mem _ (List.mem_append_left _ (List.mem_of_getElem? (i := 3) rfl))) (List.mem_cons_of_mem _ (List.mem_append_left _ (List.mem_of_getElem? (i := 4) rfl)))) rfl rfl rfl (by decide +kernel) ⟨Nat.le_of_ble_eq_true rfl, Nat.le_of_ble_eq_true rfl⟩) ⟨fun a U g mk q => ⟨q.1, q.2.calling rfl rfl⟩, k_recv hK hI i_h0.1 k_9 (ci := 12) rfl, fun U hU hW => ⟨rfl, kIn.of hI hK hE hS hU hW⟩⟩ rfl rfl hl.1 rfl (lv_room (Nat.le_of_ble_eq_true rfl)) dX12_service_7 ⟨Nat.le_of_ble_eq_true rfl, Nat.le_of_ble_eq_true rfl⟩) hS (fun q _ h => h) (fun q h => h) (fun r_15 u t H1 locs ht hvm w_14 hB hz1 hk1 hS => ?_)
  have hI : Iv dC dI g A f_6 t.heap := hB
  rw [ht] at hI
  generalize H1 = H at hI hS ⊢
  refine W.widen (k := 0) (n := 0) (Nat.le_of_ble_eq_true rfl) (Nat.le_of_ble_eq_true rfl) ?_
  have w_14 : (r_15.toInt = 0 ∨ r_15.toInt = 1) ∧ (r_15.toInt = 0 ∨ (0 ≤ p1.toInt ∧ p1.toInt < (q 0).toInt)) := w_14
  refine lv_if_eq (tgt := 22) hx hb dX12_service_10 (by decide) (fun c_16 => ?_) (fun c_16 => ?_)
  · have c_16 := kc_eq rfl (by decide : Int32.toInt 0 = 0) c_16
    refine lv_iconst (v := (-1)) hx hb dX12_service_22 (by decide) ?_
    exact W.iret (v := (-1)) hx hb hr (fun t ht hW => ⟨⟨(-1), (), rfl, trivial, ⟨f_6, k_ret ht hI, kp_8, 0, z1, z10, z12, z13, z14, z15, z16, z17, z18, z23, z24, z25, z26, q, u, im, kt, k_9, (by first | omega | decide), (by first | omega | decide), (by first | omega | decide), k_10, hc1_ok, k_11, k_12, k_13, hU⟩⟩, hS.F ht⟩) hS.2.2 dX12_service_23
  · have c_16 := kn_eq rfl (by decide : Int32.toInt 0 = 0) c_16
    refine lv_aload_n hx hb dX12_service_13 rfl (lv_at hl 0 rfl) ?_
    refine lv_iload_n hx hb dX12_service_14 rfl (lv_at hl 2 rfl) ?_
    refine lv_iload_n hx hb dX12_service_15 rfl (lv_at hl 3 rfl) ?_
    refine va_calli (va_runV (As := [.int p2, .int p3]) (rest := []) ⟨hx, hb, hml, hown, hts⟩ (c_X12_areKept l dC dI g A hG f_6 h0 p2 p3 q i_h0 k_10 hc1_ok) (cwV 2 hts (gi_V (fun w_ h0_ => ⟨List.mem_cons_of_mem _ (List.mem_append_right _ (List.mem_append_right _ (List.mem_append_right _ (List.mem_append_left _ h0_)))), (tb_c_X12_areKept w_ h0_).2⟩) (List.mem_cons_of_mem _ (List.mem_append_left _ (List.mem_of_getElem? (i := 5) rfl))) (List.mem_cons_of_mem _ (List.mem_append_left _ (List.mem_of_getElem? (i := 6) rfl))) (List.mem_cons_of_mem _ (List.mem_append_left _ (List.mem_of_getElem? (i := 7) rfl))) (List.mem_cons_of_mem _ (List.mem_append_left _ (List.mem_of_getElem? (i := 4) rfl)))) rfl rfl rfl (by decide +kernel) ⟨Nat.le_of_ble_eq_true rfl, Nat.le_of_ble_eq_true rfl⟩) ⟨fun a U g mk q => ⟨q.1, q.2.calling rfl rfl⟩, k_recv hK hI i_h0.1 k_9 (ci := 12) rfl, fun U hU hW => ⟨rfl, kIn.of hI hK hE hS hU hW⟩⟩ rfl rfl hl.1 rfl (lv_room (Nat.le_of_ble_eq_true rfl)) dX12_service_16 ⟨Nat.le_of_ble_eq_true rfl, Nat.le_of_ble_eq_true rfl⟩) hS (fun q _ h => h) (fun q h => h) (fun r_18 u t H1 locs ht hvm w_17 hB hz1 hk1 hS => ?_)
    have hI : Iv dC dI g A f_6 t.heap := hB
    rw [ht] at hI
    generalize H1 = H at hI hS ⊢
    refine W.widen (k := 0) (n := 0) (Nat.le_of_ble_eq_true rfl) (Nat.le_of_ble_eq_true rfl) ?_
    have w_17 : r_18.toInt = 0 ∨ p2.toInt = p3.toInt ∨ (p2.toInt < p3.toInt ∧ (q 1).toInt - (q 5).toInt ≤ p2.toInt ∧ p3.toInt ≤ (q 1).toInt) := w_17
    refine lv_if_ne (tgt := 24) hx hb dX12_service_19 (by decide) (fun c_19 => ?_) (fun c_19 => ?_)
    · have c_19 := kn_eq rfl (by decide : Int32.toInt 0 = 0) c_19
      refine lv_iconst (v := 0) hx hb dX12_service_24 (by decide) ?_
      refine lv_istore (lv' := [(4, .int 0), (0, .ref h0), (1, .int p1), (2, .int p2), (3, .int p3)]) hx hb dX12_service_25 hl (by decide) rfl (fun ls hl => ?_)
      refine lv_iload_n hx hb dX12_service_27 rfl (lv_at hl 3 rfl) ?_
      refine lv_i2l (v := p2.toInt64) hx hb dX12_service_28 rfl ?_
      have t_20 := Int32.toInt_toInt64 p2
      refine lv_lstore (lv' := [(5, .long p2.toInt64), (4, .int 0), (0, .ref h0), (1, .int p1), (2, .int p2), (3, .int p3)]) hx hb dX12_service_29 hl (by decide) rfl (fun ls hl => ?_)
      have K_31 : ∀ (nn : Nat) (y_21 : Int64) (y_22 : Int32) (H : Heap) (locs : List Loc) (ls : Array Slot), (p3.toInt - y_21.toInt).toNat < nn → Iv dC dI g A f_6 H → va_S A s.heap H locs → (p2.toInt ≤ y_21.toInt) → lv_has ls 7 [(5, .long y_21), (4, .int y_22), (0, .ref h0), (1, .int p1), (2, .int p2), (3, .int p3)] → W p l e (headSpec wq_c_X12_service ({ frames := 3, cells := 0, slots := 0, locals := 71 } : Room)).room s m ([.ref h0, .int p1, .int p2, .int p3].toArray) below meth c H locs 0 0 (MQ below (va_Qi (fun (r : Int32) (_ : Unit) => True) (fun (_ : Unit) t => ∃ f1 : Nat → va_E, Iv dC dI g A f1 t.heap ∧ Kp g [12] f f1 ∧ ∃ (w0 : Int32) (w1 : Int32) (w10 : Int32) (w12 : Int32) (w13 : Int32) (w14 : Int32) (w15 : Int32) (w16 : Int64) (w17 : Int32) (w18 : Int32) (w23 : Int32) (w24 : Int64) (w25 : Int64) (w26 : Int64) (q1 : Nat → Int64) (u1 : Nat → Int64) (im1 : Nat → Int64) (ik1 : Nat → Int32), (f1 h0 = .inr (12, [.int w0, .int w1, .ref (gr g h0 2), .ref (gr g h0 3), .ref (gr g h0 4), .ref (gr g h0 5), .ref (gr g h0 6), .ref (gr g h0 7), .ref (gr g h0 8), .ref (gr g h0 9), .int w10, .ref (gr g h0 11), .int w12, .int w13, .int w14, .int w15, .long w16, .int w17, .int w18, .ref (gr g h0 19), .ref (gr g h0 20), .ref (gr g h0 21), .ref (gr g h0 22), .int w23, .long w24, .long w25, .long w26])) ∧ (0 ≤ w10.toInt ∧ w10.toInt ≤ 10) ∧ (0 ≤ w12.toInt ∧ w12.toInt ≤ 200) ∧ (0 ≤ w23.toInt ∧ w23.toInt ≤ 8) ∧ (f1 (gr g h0 4) = .inl (gc g 1, 906, .inr (.inl q1))) ∧ (RowOK q1) ∧ (f1 (gr g h0 5) = .inl (gc g 1, 9060, .inr (.inl u1))) ∧ (f1 (gr g h0 7) = .inl (gc g 1, 1812, .inr (.inl im1))) ∧ (f1 (gr g h0 8) = .inl (gc g 3, 2, .inl ik1)) ∧ (UIq w10 u1 im1 ik1)) A) ([.ref h0, .int p1, .int p2, .int p3].toArray) s 0 0 A) (F0 m 31 ls []) := by
        intro nn
        induction nn with
        | zero => intro y_21 y_22 H locs ls m_24; exact absurd m_24 (Nat.not_lt_zero _)
        | succ nn ih =>
          intro y_21 y_22 H locs ls m_24 hI hS t_23 hl
          have g_25 := Int32.toInt_lt p3
          have g_26 := Int32.le_toInt p3
          have g_27 := Int64.toInt_lt y_21
          refine lv_lload hx hb dX12_service_31 (lv_at hl 0 rfl) ?_
          refine lv_iload_n hx hb dX12_service_33 rfl (lv_at hl 5 rfl) ?_
          refine lv_i2l (v := p3.toInt64) hx hb dX12_service_34 rfl ?_
          have t_28 := Int32.toInt_toInt64 p3
          refine W.lcmp hx hb dX12_service_35 ?_
          refine lv_if_ge (tgt := 75) hx hb dX12_service_36 (by decide) (fun c_29 => ?_) (fun c_29 => ?_)
          · have c_29 := lc_le rfl rfl ((lg_cmp_ge _ _).mp c_29)
            refine lv_iload hx hb dX12_service_75 (lv_at hl 1 rfl) ?_
            exact W.iret (v := y_22) hx hb hr (fun t ht hW => ⟨⟨y_22, (), rfl, trivial, ⟨f_6, k_ret ht hI, kp_8, 0, z1, z10, z12, z13, z14, z15, z16, z17, z18, z23, z24, z25, z26, q, u, im, kt, k_9, (by first | omega | decide), (by first | omega | decide), (by first | omega | decide), k_10, hc1_ok, k_11, k_12, k_13, hU⟩⟩, hS.F ht⟩) hS.2.2 dX12_service_77
          · have c_29 := ln_le rfl rfl (fun h9 => c_29 ((lg_cmp_ge _ _).mpr h9))
            refine lv_iload hx hb dX12_service_39 (lv_at hl 1 rfl) ?_
            refine lv_aload_n hx hb dX12_service_41 rfl (lv_at hl 2 rfl) ?_
            refine k_get (ci := 12) (v := .ref (gr g h0 4)) (C := RX12) (T := TX12) (N := 27) hx hb hts (fun _ h0_ => List.mem_cons_of_mem _ (List.mem_append_right _ (List.mem_append_left _ h0_))) hown hK hI i_h0.1 k_9 rfl 4 (by decide) (hts (.fieldLink RX12 16 "DeadlineShareModel" "row" "[J") (List.mem_cons_of_mem _ (List.mem_append_left _ (List.mem_of_getElem? (i := 8) rfl)))) (fun _ h9 => h9) rfl dX12_service_42 ?_
            refine lv_aload_n hx hb dX12_service_45 rfl (lv_at hl 2 rfl) ?_
            refine lv_lload hx hb dX12_service_46 (lv_at hl 0 rfl) ?_
            refine va_calli (va_runV (As := [.long y_21]) (rest := [.ref (gr g h0 4), .int y_22]) ⟨hx, hb, hml, hown, hts⟩ (c_X12_logAt l dC dI g A hG f_6 h0 y_21 q i_h0 k_10 hc1_ok) (cwV 1 hts (gi_V (fun w_ h0_ => ⟨List.mem_cons_of_mem _ (List.mem_append_right _ (List.mem_append_right _ (List.mem_append_right _ (List.mem_append_right _ (List.mem_append_left _ h0_))))), (tb_c_X12_logAt w_ h0_).2⟩) (List.mem_cons_of_mem _ (List.mem_append_left _ (List.mem_of_getElem? (i := 9) rfl))) (List.mem_cons_of_mem _ (List.mem_append_left _ (List.mem_of_getElem? (i := 10) rfl))) (List.mem_cons_of_mem _ (List.mem_append_left _ (List.mem_of_getElem? (i := 11) rfl))) (List.mem_cons_of_mem _ (List.mem_append_left _ (List.mem_of_getElem? (i := 4) rfl)))) rfl rfl rfl (by decide +kernel) ⟨Nat.le_of_ble_eq_true rfl, Nat.le_of_ble_eq_true rfl⟩) ⟨fun a U g mk q => ⟨q.1, q.2.calling rfl rfl⟩, k_recv hK hI i_h0.1 k_9 (ci := 12) rfl, fun U hU hW => ⟨rfl, kIn.of hI hK hE hS hU hW⟩⟩ rfl rfl hl.1 rfl (lv_room (Nat.le_of_ble_eq_true rfl)) dX12_service_48 ⟨Nat.le_of_ble_eq_true rfl, Nat.le_of_ble_eq_true rfl⟩) hS (fun q _ h => h) (fun q h => h) (fun r_33 u t H1 locs ht hvm w_32 hB hz1 hk1 hS => ?_)
            have hI : Iv dC dI g A f_6 t.heap := hB
            rw [ht] at hI
            generalize H1 = H at hI hS ⊢
            refine W.widen (k := 0) (n := 0) (Nat.le_of_ble_eq_true rfl) (Nat.le_of_ble_eq_true rfl) ?_
            have w_32 : (r_33.toInt = -1 ∧ ¬ ((q 1).toInt - (q 5).toInt ≤ y_21.toInt ∧ y_21.toInt ≤ (q 1).toInt - 1)) ∨ ((q 1).toInt - (q 5).toInt ≤ y_21.toInt ∧ y_21.toInt ≤ (q 1).toInt - 1 ∧ ∃ l : Nat, r_33 = nI (522 + 3 * l) ∧ (l : Int) < (q 5).toInt) := w_32
            obtain ⟨m_34, em_34, tm_34⟩ : ∃ l : Nat, r_33 = nI (522 + 3 * l) ∧ (l : Int) < (q 5).toInt := w_32.elim (fun h9 => absurd h9.2 (not_not_intro (by omega))) (fun h9 => h9.2.2)
            refine k_topi (y := nI (522 + 3 * m_34)) em_34 ?_
            refine k_lald hx hb hK hI i_1.1 1 k_10 rfl (vp_in_nI (by omega) (by omega)) dX12_service_51 ?_
            refine k_topl (y := q (522 + 3 * m_34)) (congrArg q (nI_clamp (by omega))) ?_
            refine lv_iload_n hx hb dX12_service_52 rfl (lv_at hl 3 rfl) ?_
            refine lv_i2l (v := p1.toInt64) hx hb dX12_service_53 rfl ?_
            have t_36 := Int32.toInt_toInt64 p1
            refine W.lcmp hx hb dX12_service_54 ?_
            have J_63 : ∀ (y_37 : Int32) (H : Heap) (locs : List Loc) (ls : Array Slot), Iv dC dI g A f_6 H → va_S A s.heap H locs → lv_has ls 7 [(5, .long y_21), (4, .int y_22), (0, .ref h0), (1, .int p1), (2, .int p2), (3, .int p3)] → W p l e (headSpec wq_c_X12_service ({ frames := 3, cells := 0, slots := 0, locals := 71 } : Room)).room s m ([.ref h0, .int p1, .int p2, .int p3].toArray) below meth c H locs 0 0 (MQ below (va_Qi (fun (r : Int32) (_ : Unit) => True) (fun (_ : Unit) t => ∃ f1 : Nat → va_E, Iv dC dI g A f1 t.heap ∧ Kp g [12] f f1 ∧ ∃ (w0 : Int32) (w1 : Int32) (w10 : Int32) (w12 : Int32) (w13 : Int32) (w14 : Int32) (w15 : Int32) (w16 : Int64) (w17 : Int32) (w18 : Int32) (w23 : Int32) (w24 : Int64) (w25 : Int64) (w26 : Int64) (q1 : Nat → Int64) (u1 : Nat → Int64) (im1 : Nat → Int64) (ik1 : Nat → Int32), (f1 h0 = .inr (12, [.int w0, .int w1, .ref (gr g h0 2), .ref (gr g h0 3), .ref (gr g h0 4), .ref (gr g h0 5), .ref (gr g h0 6), .ref (gr g h0 7), .ref (gr g h0 8), .ref (gr g h0 9), .int w10, .ref (gr g h0 11), .int w12, .int w13, .int w14, .int w15, .long w16, .int w17, .int w18, .ref (gr g h0 19), .ref (gr g h0 20), .ref (gr g h0 21), .ref (gr g h0 22), .int w23, .long w24, .long w25, .long w26])) ∧ (0 ≤ w10.toInt ∧ w10.toInt ≤ 10) ∧ (0 ≤ w12.toInt ∧ w12.toInt ≤ 200) ∧ (0 ≤ w23.toInt ∧ w23.toInt ≤ 8) ∧ (f1 (gr g h0 4) = .inl (gc g 1, 906, .inr (.inl q1))) ∧ (RowOK q1) ∧ (f1 (gr g h0 5) = .inl (gc g 1, 9060, .inr (.inl u1))) ∧ (f1 (gr g h0 7) = .inl (gc g 1, 1812, .inr (.inl im1))) ∧ (f1 (gr g h0 8) = .inl (gc g 3, 2, .inl ik1)) ∧ (UIq w10 u1 im1 ik1)) A) ([.ref h0, .int p1, .int p2, .int p3].toArray) s 0 0 A) (F0 m 63 ls [.int y_37, .int y_22]) := by
              intro y_37 H locs ls hI hS  hl
              refine lv_iadd hx hb dX12_service_63 ?_
              refine lv_topi (fun v_38 ev_38 => ?_)
              have tv_38 := k_ad y_22 y_37
              rw [← ev_38] at tv_38
              refine lv_istore (lv' := [(4, .int v_38), (5, .long y_21), (0, .ref h0), (1, .int p1), (2, .int p2), (3, .int p3)]) hx hb dX12_service_64 hl (by decide) rfl (fun ls hl => ?_)
              refine lv_lload hx hb dX12_service_66 (lv_at hl 1 rfl) ?_
              refine lv_lconst (v := 1) hx hb dX12_service_68 (by decide) ?_
              refine lv_ladd hx hb dX12_service_69 ?_
              refine lv_topl (fun v_39 ev_39 => ?_)
              have tv_39 := l_ad y_21 1
              rw [← ev_39, show Int64.toInt 1 = 1 from by decide] at tv_39
              refine lv_lstore (lv' := [(5, .long v_39), (4, .int v_38), (0, .ref h0), (1, .int p1), (2, .int p2), (3, .int p3)]) hx hb dX12_service_70 hl (by decide) rfl (fun ls hl => ?_)
              refine lv_goto (tgt := 31) hx hb dX12_service_72 (by decide) ?_
              exact ih v_39 v_38 _ _ _ (by omega) hI hS (by first | omega | decide) (lv_sub hl [0, 1, 2, 3, 4, 5] rfl)
            refine lv_if_ne (tgt := 62) hx hb dX12_service_55 (by decide) (fun c_40 => ?_) (fun c_40 => ?_)
            · have c_40 := ln_eq rfl rfl (fun h9 => c_40 ((lg_cmp_eq _ _).mpr h9))
              refine lv_iconst (v := 0) hx hb dX12_service_62 (by decide) ?_
              exact J_63 0 _ _ _ hI hS  (lv_sub hl [0, 1, 2, 3, 4, 5] rfl)
            · have c_40 := lc_eq rfl rfl ((lg_cmp_eq _ _).mp c_40)
              refine lv_iconst (v := 1) hx hb dX12_service_58 (by decide) ?_
              refine lv_goto (tgt := 63) hx hb dX12_service_59 (by decide) ?_
              exact J_63 1 _ _ _ hI hS  (lv_sub hl [0, 1, 2, 3, 4, 5] rfl)
      exact K_31 _ p2.toInt64 0 _ _ _ (Nat.lt_succ_self _) hI hS (by first | omega | decide | (simp only [show Int32.toInt 0 = 0 from by decide]; omega)) (lv_sub hl [0, 1, 2, 3, 4, 5] rfl)
    · have c_19 := kc_eq rfl (by decide : Int32.toInt 0 = 0) c_19
      refine lv_iconst (v := (-1)) hx hb dX12_service_22 (by decide) ?_
      exact W.iret (v := (-1)) hx hb hr (fun t ht hW => ⟨⟨(-1), (), rfl, trivial, ⟨f_6, k_ret ht hI, kp_8, 0, z1, z10, z12, z13, z14, z15, z16, z17, z18, z23, z24, z25, z26, q, u, im, kt, k_9, (by first | omega | decide), (by first | omega | decide), (by first | omega | decide), k_10, hc1_ok, k_11, k_12, k_13, hU⟩⟩, hS.F ht⟩) hS.2.2 dX12_service_23
