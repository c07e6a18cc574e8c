theorem tw_949 : q_g (.selects RX12 yX12_isTask yX12_isTask) := ⟨(List.mem_append_left _ (List.mem_of_getElem? (i := 25) (by decide +kernel))), good_of_word (by decide +kernel)⟩
theorem tw_950 : q_g (.instanceMethod yX12_isTask) := ⟨(List.mem_append_right _ (List.mem_of_getElem? (i := 1236) (by decide +kernel))), good_of_word (by decide +kernel)⟩
theorem tw_951 : q_g (.methodLink RX12 142 yX12_isTask) := ⟨(List.mem_append_right _ (List.mem_of_getElem? (i := 1234) (by decide +kernel))), good_of_word (by decide +kernel)⟩
theorem tw_952 : q_g (.code yX12_rank cX12_rank 4 (some .int)) := ⟨(List.mem_append_right _ (List.mem_of_getElem? (i := 1470) (by decide +kernel))), good_of_word (by decide +kernel)⟩
def ow_c_X12_rank : List Cond := [.fieldLink RX12 67 "DeadlineShareModel" "thrown" "I", .methodLink RX12 142 yX12_isTask, .instanceMethod yX12_isTask, .selects RX12 yX12_isTask yX12_isTask, .initialized RX12, .methodLink RX12 90 yX12_isOn, .instanceMethod yX12_isOn, .selects RX12 yX12_isOn yX12_isOn, .fieldLink RX12 16 "DeadlineShareModel" "row" "[J", .methodLink RX12 98 yX12_virtual, .instanceMethod yX12_virtual, .selects RX12 yX12_virtual yX12_virtual]
def wq_c_X12_rank : List Cond := .code yX12_rank cX12_rank 4 (some .int) :: (ow_c_X12_rank ++ (u_ws RX12 TX12 27 ++ (wq_c_X12_isTask ++ (wq_c_X12_isOn ++ (wq_c_X12_virtual ++ ([] : List Cond))))))
theorem tb_c_X12_rank : ∀ w ∈ wq_c_X12_rank, q_g w := by
  unfold wq_c_X12_rank ow_c_X12_rank
  exact q_cons tw_952 (q_app (q_cons tw_927 (q_cons tw_951 (q_cons tw_950 (q_cons tw_949 (q_cons tw_728 (q_cons tw_744 (q_cons tw_743 (q_cons tw_742 (q_cons tw_731 (q_cons tw_748 (q_cons tw_747 (q_cons tw_746 q_nil)))))))))))) (q_app tu_X12 (q_app tb_c_X12_isTask (q_app tb_c_X12_isOn (q_app tb_c_X12_virtual q_nil)))))
set_option maxHeartbeats 4000000 in
set_option maxRecDepth 100000 in
theorem c_X12_rank (l : Launch) (dC : Nat → ClassId) (dI : Nat → Nat → Nat) (g : kG) (A : Nat → Prop) (hG : kWf g) (f : Nat → va_E) (h0 : Nat) (p1 : Int32) (z0 : Int32) (z1 : Int32) (z10 : Int32) (z12 : Int32) (z13 : Int32) (z14 : Int32) (z15 : Int32) (z16 : Int64) (z17 : Int32) (z18 : Int32) (z23 : Int32) (z24 : Int64) (z25 : Int64) (z26 : Int64) (q : Nat → Int64) (u : Nat → Int64) (im : Nat → Int64) (kt : Nat → Int32) (i_h0 : ik g 12 h0) (hc0 : f h0 = .inr (12, [.int z0, .int z1, .ref (gr g h0 2), .ref (gr g h0 3), .ref (gr g h0 4), .ref (gr g h0 5), .ref (gr g h0 6), .ref (gr g h0 7), .ref (gr g h0 8), .ref (gr g h0 9), .int z10, .ref (gr g h0 11), .int z12, .int z13, .int z14, .int z15, .long z16, .int z17, .int z18, .ref (gr g h0 19), .ref (gr g h0 20), .ref (gr g h0 21), .ref (gr g h0 22), .int z23, .long z24, .long z25, .long z26])) (hc0_10 : 0 ≤ z10.toInt ∧ z10.toInt ≤ 10) (hc0_12 : 0 ≤ z12.toInt ∧ z12.toInt ≤ 200) (hc0_23 : 0 ≤ z23.toInt ∧ z23.toInt ≤ 8) (hc1 : f (gr g h0 4) = .inl (gc g 1, 906, .inr (.inl q))) (hc1_ok : RowOK q) (hc2 : f (gr g h0 5) = .inl (gc g 1, 9060, .inr (.inl u))) (hc3 : f (gr g h0 7) = .inl (gc g 1, 1812, .inr (.inl im))) (hc4 : f (gr g h0 8) = .inl (gc g 3, 2, .inl kt)) (hU : UIq z10 u im kt) : Met l yX12_rank wq_c_X12_rank ({ frames := 2, cells := 0, slots := 0, locals := 46 } : Room) (va_Pc [.ref h0, .int p1] (fun U => kIn dC dI g A f U)) (va_Qi (fun (r : Int32) (_ : Unit) => True) (fun (_ : Unit) t => ∃ f1 : Nat → va_E, Iv dC dI g A f1 t.heap ∧ Kp g [12] f f1 ∧ ∃ (w0 : Int32) (w1 : Int32) (w10 : Int32) (w12 : Int32) (w13 : Int32) (w14 : Int32) (w15 : Int32) (w16 : Int64) (w17 : Int32) (w18 : Int32) (w23 : Int32) (w24 : Int64) (w25 : Int64) (w26 : Int64) (q1 : Nat → Int64) (u1 : Nat → Int64) (im1 : Nat → Int64) (ik1 : Nat → Int32), (f1 h0 = .inr (12, [.int w0, .int w1, .ref (gr g h0 2), .ref (gr g h0 3), .ref (gr g h0 4), .ref (gr g h0 5), .ref (gr g h0 6), .ref (gr g h0 7), .ref (gr g h0 8), .ref (gr g h0 9), .int w10, .ref (gr g h0 11), .int w12, .int w13, .int w14, .int w15, .long w16, .int w17, .int w18, .ref (gr g h0 19), .ref (gr g h0 20), .ref (gr g h0 21), .ref (gr g h0 22), .int w23, .long w24, .long w25, .long w26])) ∧ (0 ≤ w10.toInt ∧ w10.toInt ≤ 10) ∧ (0 ≤ w12.toInt ∧ w12.toInt ≤ 200) ∧ (0 ≤ w23.toInt ∧ w23.toInt ≤ 8) ∧ (f1 (gr g h0 4) = .inl (gc g 1, 906, .inr (.inl q1))) ∧ (RowOK q1) ∧ (f1 (gr g h0 5) = .inl (gc g 1, 9060, .inr (.inl u1))) ∧ (f1 (gr g h0 7) = .inl (gc g 1, 1812, .inr (.inl im1))) ∧ (f1 (gr g h0 8) = .inl (gc g 3, 2, .inl ik1)) ∧ (UIq w10 u1 im1 ik1)) A) 0 0 A := by
  refine Met.ofW (cc := cX12_rank) (maxL := 4) (ret := (some .int)) (by decide) rfl ?_
  intro p e s m args below meth c s₁ B hml hv
  obtain ⟨rfl, hI, hK, hE⟩ := hv
  have hx := B.exec
  have hb := B.bytes
  have hr := B.returns
  have hts := atoms_spec (ws := wq_c_X12_rank) B.pre
  have hown : s.vm.findClass RX12 = some m.cls := findClass_of_methodNamed B.named
  have hlocks := B.notSynchronized
  have hS : va_S A s.heap s.heap [] := va_S.rf
  have hk0 : Kp g [12] f f := Kp.rf
  have hl := lv_entry ([.ref h0, .int p1]) (n := 4) (Nat.le_of_ble_eq_true rfl)
  rw [lg_entry_eq]
  generalize (lg_sl ([.ref h0, .int p1]) ++ List.replicate (4 - (lg_sl ([.ref h0, .int p1])).length) Slot.unset).toArray = ls at hl ⊢
  have hl : lv_has ls 4 [(0, .ref h0), (1, .int p1)] := hl
  have i_1 := kw_12_4 hG i_h0
  have d_2 := rk_hd hc1_ok
  have i_3 := kw_12_5 hG i_h0
  have i_4 := kw_12_7 hG i_h0
  have i_5 := kw_12_8 hG i_h0
  refine lv_aload_n hx hb dX12_rank_0 rfl (lv_at hl 0 rfl) ?_
  refine lv_iconst (v := 0) hx hb dX12_rank_1 (by decide) ?_
  refine k_put (ci := 12) (v := .int 0) (ty := .int) (C := RX12) (T := TX12) (N := 27) hx hb hts (fun _ h0_ => List.mem_cons_of_mem _ (List.mem_append_right _ (List.mem_append_left _ h0_))) tyX12 tyX12_ok nmX12 hown hK hI hS i_h0.1 hc0 rfl 0 (by decide) (hts (.fieldLink RX12 67 "DeadlineShareModel" "thrown" "I") (List.mem_cons_of_mem _ (List.mem_append_left _ (List.mem_of_getElem? (i := 0) rfl)))) (fun _ h9 => h9) rfl (by decide +kernel) rfl rfl (Nat.le_of_ble_eq_true rfl) rfl (cl_12 i_h0 (by omega) (by omega) (by omega)) dX12_rank_2 (fun f_6 H locs e_7 hI hS => ?_)
  have k_9 : f_6 h0 = .inr (12, [.int 0, .int z1, .ref (gr g h0 2), .ref (gr g h0 3), .ref (gr g h0 4), .ref (gr g h0 5), .ref (gr g h0 6), .ref (gr g h0 7), .ref (gr g h0 8), .ref (gr g h0 9), .int z10, .ref (gr g h0 11), .int z12, .int z13, .int z14, .int z15, .long z16, .int z17, .int z18, .ref (gr g h0 19), .ref (gr g h0 20), .ref (gr g h0 21), .ref (gr g h0 22), .int z23, .long z24, .long z25, .long z26]) := by rw [e_7]; exact va_up_self _ _ _
  have k_10 : f_6 (gr g h0 4) = .inl (gc g 1, 906, .inr (.inl q)) := by rw [e_7, va_up_ne _ _ (ik_ne i_1 i_h0 (by decide))]; exact hc1
  have k_11 : f_6 (gr g h0 5) = .inl (gc g 1, 9060, .inr (.inl u)) := by rw [e_7, va_up_ne _ _ (ik_ne i_3 i_h0 (by decide))]; exact hc2
  have k_12 : f_6 (gr g h0 7) = .inl (gc g 1, 1812, .inr (.inl im)) := by rw [e_7, va_up_ne _ _ (ik_ne i_4 i_h0 (by decide))]; exact hc3
  have k_13 : f_6 (gr g h0 8) = .inl (gc g 3, 2, .inl kt) := by rw [e_7, va_up_ne _ _ (ik_ne i_5 i_h0 (by decide))]; exact hc4
  have kp_8 := Kp.put hk0 i_h0 (by decide) e_7
  refine lv_aload_n hx hb dX12_rank_5 rfl (lv_at hl 0 rfl) ?_
  refine lv_iload_n hx hb dX12_rank_6 rfl (lv_at hl 1 rfl) ?_
  refine va_calli (va_runV (As := [.int p1]) (rest := []) ⟨hx, hb, hml, hown, hts⟩ (c_X12_isTask l dC dI g A hG f_6 h0 p1 q i_h0 k_10 hc1_ok) (cwV 1 hts (gi_V (fun w_ h0_ => ⟨List.mem_cons_of_mem _ (List.mem_append_right _ (List.mem_append_right _ (List.mem_append_left _ h0_))), (tb_c_X12_isTask w_ h0_).2⟩) (List.mem_cons_of_mem _ (List.mem_append_left _ (List.mem_of_getElem? (i := 1) rfl))) (List.mem_cons_of_mem _ (List.mem_append_left _ (List.mem_of_getElem? (i := 2) rfl))) (List.mem_cons_of_mem _ (List.mem_append_left _ (List.mem_of_getElem? (i := 3) rfl))) (List.mem_cons_of_mem _ (List.mem_append_left _ (List.mem_of_getElem? (i := 4) rfl)))) rfl rfl rfl (by decide +kernel) ⟨Nat.le_of_ble_eq_true rfl, Nat.le_of_ble_eq_true rfl⟩) ⟨fun a U g mk q => ⟨q.1, q.2.calling rfl rfl⟩, k_recv hK hI i_h0.1 k_9 (ci := 12) rfl, fun U hU hW => ⟨rfl, kIn.of hI hK hE hS hU hW⟩⟩ rfl rfl hl.1 rfl (lv_room (Nat.le_of_ble_eq_true rfl)) dX12_rank_7 ⟨Nat.le_of_ble_eq_true rfl, Nat.le_of_ble_eq_true rfl⟩) hS (fun q _ h => h) (fun q h => h) (fun r_15 u9 t H1 locs ht hvm w_14 hB hz1 hk1 hS => ?_)
  have hI : Iv dC dI g A f_6 t.heap := hB
  rw [ht] at hI
  generalize H1 = H at hI hS ⊢
  refine W.widen (k := 0) (n := 0) (Nat.le_of_ble_eq_true rfl) (Nat.le_of_ble_eq_true rfl) ?_
  have w_14 : (r_15.toInt = 0 ∨ r_15.toInt = 1) ∧ (r_15.toInt = 0 ∨ (0 ≤ p1.toInt ∧ p1.toInt < (q 0).toInt)) := w_14
  refine lv_if_eq (tgt := 21) hx hb dX12_rank_10 (by decide) (fun c_16 => ?_) (fun c_16 => ?_)
  · have c_16 := kc_eq rfl (by decide : Int32.toInt 0 = 0) c_16
    refine lv_iconst (v := (-1)) hx hb dX12_rank_21 (by decide) ?_
    exact W.iret (v := (-1)) hx hb hr (fun t ht hW => ⟨⟨(-1), (), rfl, trivial, ⟨f_6, k_ret ht hI, kp_8, 0, z1, z10, z12, z13, z14, z15, z16, z17, z18, z23, z24, z25, z26, q, u, im, kt, k_9, (by first | omega | decide), (by first | omega | decide), (by first | omega | decide), k_10, hc1_ok, k_11, k_12, k_13, hU⟩⟩, hS.F ht⟩) hS.2.2 dX12_rank_22
  · have c_16 := kn_eq rfl (by decide : Int32.toInt 0 = 0) c_16
    refine lv_aload_n hx hb dX12_rank_13 rfl (lv_at hl 0 rfl) ?_
    obtain ⟨m_17, em_17, tm_17⟩ := k_nat (x := p1) (by omega)
    refine lv_iload_n hx hb dX12_rank_14 rfl (lv_at hl 1 rfl) ?_
    refine k_topi (y := nI m_17) em_17 ?_
    refine va_calli (va_runV (As := [.int (nI m_17)]) (rest := []) ⟨hx, hb, hml, hown, hts⟩ (c_X12_isOn l dC dI g A hG f_6 h0 m_17 q i_h0 k_10 hc1_ok (by first | omega | decide | (simp only [k_c0, k_c1, k_cm1] <;> omega))) (cwV 1 hts (gi_V (fun w_ h0_ => ⟨List.mem_cons_of_mem _ (List.mem_append_right _ (List.mem_append_right _ (List.mem_append_right _ (List.mem_append_left _ h0_)))), (tb_c_X12_isOn w_ h0_).2⟩) (List.mem_cons_of_mem _ (List.mem_append_left _ (List.mem_of_getElem? (i := 5) rfl))) (List.mem_cons_of_mem _ (List.mem_append_left _ (List.mem_of_getElem? (i := 6) rfl))) (List.mem_cons_of_mem _ (List.mem_append_left _ (List.mem_of_getElem? (i := 7) rfl))) (List.mem_cons_of_mem _ (List.mem_append_left _ (List.mem_of_getElem? (i := 4) rfl)))) rfl rfl rfl (by decide +kernel) ⟨Nat.le_of_ble_eq_true rfl, Nat.le_of_ble_eq_true rfl⟩) ⟨fun a U g mk q => ⟨q.1, q.2.calling rfl rfl⟩, k_recv hK hI i_h0.1 k_9 (ci := 12) rfl, fun U hU hW => ⟨rfl, kIn.of hI hK hE hS hU hW⟩⟩ rfl rfl hl.1 rfl (lv_room (Nat.le_of_ble_eq_true rfl)) dX12_rank_15 ⟨Nat.le_of_ble_eq_true rfl, Nat.le_of_ble_eq_true rfl⟩) hS (fun q _ h => h) (fun q h => h) (fun r_19 u9 t H1 locs ht hvm w_18 hB hz1 hk1 hS => ?_)
    have hI : Iv dC dI g A f_6 t.heap := hB
    rw [ht] at hI
    generalize H1 = H at hI hS ⊢
    refine W.widen (k := 0) (n := 0) (Nat.le_of_ble_eq_true rfl) (Nat.le_of_ble_eq_true rfl) ?_
    have w_18 : (r_19.toInt = 0 ∧ (q (6 + 43 * m_17 + 2)).toInt ≠ 1) ∨ (r_19.toInt = 1 ∧ (q (6 + 43 * m_17 + 2)).toInt = 1) := w_18
    refine lv_if_ne (tgt := 23) hx hb dX12_rank_18 (by decide) (fun c_20 => ?_) (fun c_20 => ?_)
    · have c_20 := kn_eq rfl (by decide : Int32.toInt 0 = 0) c_20
      refine lv_iconst (v := 0) hx hb dX12_rank_23 (by decide) ?_
      refine lv_istore_n (lv' := [(2, .int 0), (0, .ref h0), (1, .int p1)]) hx hb dX12_rank_24 rfl hl (by decide) rfl (fun ls hl => ?_)
      refine lv_iconst (v := 0) hx hb dX12_rank_25 (by decide) ?_
      refine lv_istore_n (lv' := [(3, .int 0), (2, .int 0), (0, .ref h0), (1, .int p1)]) hx hb dX12_rank_26 rfl hl (by decide) rfl (fun ls hl => ?_)
      have K_27 : ∀ (nn : Nat) (y_21 : Nat) (y_22 : Int32) (H : Heap) (locs : List Loc) (ls : Array Slot), 12 - y_21 < nn → Iv dC dI g A f_6 H → va_S A s.heap H locs → (y_21 ≤ 12) → lv_has ls 4 [(3, .int (nI y_21)), (2, .int y_22), (0, .ref h0), (1, .int p1)] → W p l e (headSpec wq_c_X12_rank ({ frames := 2, cells := 0, slots := 0, locals := 46 } : Room)).room s m ([.ref h0, .int p1].toArray) below meth c H locs 0 0 (MQ below (va_Qi (fun (r : Int32) (_ : Unit) => True) (fun (_ : Unit) t => ∃ f1 : Nat → va_E, Iv dC dI g A f1 t.heap ∧ Kp g [12] f f1 ∧ ∃ (w0 : Int32) (w1 : Int32) (w10 : Int32) (w12 : Int32) (w13 : Int32) (w14 : Int32) (w15 : Int32) (w16 : Int64) (w17 : Int32) (w18 : Int32) (w23 : Int32) (w24 : Int64) (w25 : Int64) (w26 : Int64) (q1 : Nat → Int64) (u1 : Nat → Int64) (im1 : Nat → Int64) (ik1 : Nat → Int32), (f1 h0 = .inr (12, [.int w0, .int w1, .ref (gr g h0 2), .ref (gr g h0 3), .ref (gr g h0 4), .ref (gr g h0 5), .ref (gr g h0 6), .ref (gr g h0 7), .ref (gr g h0 8), .ref (gr g h0 9), .int w10, .ref (gr g h0 11), .int w12, .int w13, .int w14, .int w15, .long w16, .int w17, .int w18, .ref (gr g h0 19), .ref (gr g h0 20), .ref (gr g h0 21), .ref (gr g h0 22), .int w23, .long w24, .long w25, .long w26])) ∧ (0 ≤ w10.toInt ∧ w10.toInt ≤ 10) ∧ (0 ≤ w12.toInt ∧ w12.toInt ≤ 200) ∧ (0 ≤ w23.toInt ∧ w23.toInt ≤ 8) ∧ (f1 (gr g h0 4) = .inl (gc g 1, 906, .inr (.inl q1))) ∧ (RowOK q1) ∧ (f1 (gr g h0 5) = .inl (gc g 1, 9060, .inr (.inl u1))) ∧ (f1 (gr g h0 7) = .inl (gc g 1, 1812, .inr (.inl im1))) ∧ (f1 (gr g h0 8) = .inl (gc g 3, 2, .inl ik1)) ∧ (UIq w10 u1 im1 ik1)) A) ([.ref h0, .int p1].toArray) s 0 0 A) (F0 m 27 ls []) := by
        intro nn
        induction nn with
        | zero => intro y_21 y_22 H locs ls m_24; exact absurd m_24 (Nat.not_lt_zero _)
        | succ nn ih =>
          intro y_21 y_22 H locs ls m_24 hI hS t_23 hl
          refine lv_iload_n hx hb dX12_rank_27 rfl (lv_at hl 0 rfl) ?_
          refine lv_i2l (v := lN (y_21)) hx hb dX12_rank_28 (nI_l (by omega)) ?_
          refine lv_aload_n hx hb dX12_rank_29 rfl (lv_at hl 2 rfl) ?_
          refine k_get (ci := 12) (v := .ref (gr g h0 4)) (C := RX12) (T := TX12) (N := 27) hx hb hts (fun _ h0_ => List.mem_cons_of_mem _ (List.mem_append_right _ (List.mem_append_left _ h0_))) hown hK hI i_h0.1 k_9 rfl 4 (by decide) (hts (.fieldLink RX12 16 "DeadlineShareModel" "row" "[J") (List.mem_cons_of_mem _ (List.mem_append_left _ (List.mem_of_getElem? (i := 8) rfl)))) (fun _ h9 => h9) rfl dX12_rank_30 ?_
          refine lv_iconst (v := 0) hx hb dX12_rank_33 (by decide) ?_
          refine k_lald hx hb hK hI i_1.1 1 k_10 rfl (by unfold vp_in; decide) dX12_rank_34 ?_
          refine k_topl (y := q 0) (congrArg q (show Int32.toNatClampNeg 0 = 0 by decide)) ?_
          refine W.lcmp hx hb dX12_rank_35 ?_
          refine lv_if_ge (tgt := 94) hx hb dX12_rank_36 (by decide) (fun c_27 => ?_) (fun c_27 => ?_)
          · have c_27 := lc_le rfl (lN_toInt (n := y_21) (by omega)) ((lg_cmp_ge _ _).mp c_27)
            refine lv_iload_n hx hb dX12_rank_94 rfl (lv_at hl 1 rfl) ?_
            exact W.iret (v := y_22) hx hb hr (fun t ht hW => ⟨⟨y_22, (), rfl, trivial, ⟨f_6, k_ret ht hI, kp_8, 0, z1, z10, z12, z13, z14, z15, z16, z17, z18, z23, z24, z25, z26, q, u, im, kt, k_9, (by first | omega | decide), (by first | omega | decide), (by first | omega | decide), k_10, hc1_ok, k_11, k_12, k_13, hU⟩⟩, hS.F ht⟩) hS.2.2 dX12_rank_95
          · have c_27 := ln_le rfl (lN_toInt (n := y_21) (by omega)) (fun h9 => c_27 ((lg_cmp_ge _ _).mpr h9))
            refine lv_iload_n hx hb dX12_rank_39 rfl (lv_at hl 1 rfl) ?_
            refine lv_aload_n hx hb dX12_rank_40 rfl (lv_at hl 2 rfl) ?_
            refine lv_iload_n hx hb dX12_rank_41 rfl (lv_at hl 0 rfl) ?_
            refine va_calli (va_runV (As := [.int (nI y_21)]) (rest := [.int y_22]) ⟨hx, hb, hml, hown, hts⟩ (c_X12_isOn l dC dI g A hG f_6 h0 y_21 q i_h0 k_10 hc1_ok (by first | omega | decide | (simp only [k_c0, k_c1, k_cm1] <;> omega))) (cwV 1 hts (gi_V (fun w_ h0_ => ⟨List.mem_cons_of_mem _ (List.mem_append_right _ (List.mem_append_right _ (List.mem_append_right _ (List.mem_append_left _ h0_)))), (tb_c_X12_isOn w_ h0_).2⟩) (List.mem_cons_of_mem _ (List.mem_append_left _ (List.mem_of_getElem? (i := 5) rfl))) (List.mem_cons_of_mem _ (List.mem_append_left _ (List.mem_of_getElem? (i := 6) rfl))) (List.mem_cons_of_mem _ (List.mem_append_left _ (List.mem_of_getElem? (i := 7) rfl))) (List.mem_cons_of_mem _ (List.mem_append_left _ (List.mem_of_getElem? (i := 4) rfl)))) rfl rfl rfl (by decide +kernel) ⟨Nat.le_of_ble_eq_true rfl, Nat.le_of_ble_eq_true rfl⟩) ⟨fun a U g mk q => ⟨q.1, q.2.calling rfl rfl⟩, k_recv hK hI i_h0.1 k_9 (ci := 12) rfl, fun U hU hW => ⟨rfl, kIn.of hI hK hE hS hU hW⟩⟩ rfl rfl hl.1 rfl (lv_room (Nat.le_of_ble_eq_true rfl)) dX12_rank_42 ⟨Nat.le_of_ble_eq_true rfl, Nat.le_of_ble_eq_true rfl⟩) hS (fun q _ h => h) (fun q h => h) (fun r_29 u9 t H1 locs ht hvm w_28 hB hz1 hk1 hS => ?_)
            have hI : Iv dC dI g A f_6 t.heap := hB
            rw [ht] at hI
            generalize H1 = H at hI hS ⊢
            refine W.widen (k := 0) (n := 0) (Nat.le_of_ble_eq_true rfl) (Nat.le_of_ble_eq_true rfl) ?_
            have w_28 : (r_29.toInt = 0 ∧ (q (6 + 43 * y_21 + 2)).toInt ≠ 1) ∨ (r_29.toInt = 1 ∧ (q (6 + 43 * y_21 + 2)).toInt = 1) := w_28
            have J_86 : ∀ (y_30 : Int32) (H : Heap) (locs : List Loc) (ls : Array Slot), Iv dC dI g A f_6 H → va_S A s.heap H locs → lv_has ls 4 [(3, .int (nI y_21)), (2, .int y_22), (0, .ref h0), (1, .int p1)] → W p l e (headSpec wq_c_X12_rank ({ frames := 2, cells := 0, slots := 0, locals := 46 } : Room)).room s m ([.ref h0, .int p1].toArray) below meth c H locs 0 0 (MQ below (va_Qi (fun (r : Int32) (_ : Unit) => True) (fun (_ : Unit) t => ∃ f1 : Nat → va_E, Iv dC dI g A f1 t.heap ∧ Kp g [12] f f1 ∧ ∃ (w0 : Int32) (w1 : Int32) (w10 : Int32) (w12 : Int32) (w13 : Int32) (w14 : Int32) (w15 : Int32) (w16 : Int64) (w17 : Int32) (w18 : Int32) (w23 : Int32) (w24 : Int64) (w25 : Int64) (w26 : Int64) (q1 : Nat → Int64) (u1 : Nat → Int64) (im1 : Nat → Int64) (ik1 : Nat → Int32), (f1 h0 = .inr (12, [.int w0, .int w1, .ref (gr g h0 2), .ref (gr g h0 3), .ref (gr g h0 4), .ref (gr g h0 5), .ref (gr g h0 6), .ref (gr g h0 7), .ref (gr g h0 8), .ref (gr g h0 9), .int w10, .ref (gr g h0 11), .int w12, .int w13, .int w14, .int w15, .long w16, .int w17, .int w18, .ref (gr g h0 19), .ref (gr g h0 20), .ref (gr g h0 21), .ref (gr g h0 22), .int w23, .long w24, .long w25, .long w26])) ∧ (0 ≤ w10.toInt ∧ w10.toInt ≤ 10) ∧ (0 ≤ w12.toInt ∧ w12.toInt ≤ 200) ∧ (0 ≤ w23.toInt ∧ w23.toInt ≤ 8) ∧ (f1 (gr g h0 4) = .inl (gc g 1, 906, .inr (.inl q1))) ∧ (RowOK q1) ∧ (f1 (gr g h0 5) = .inl (gc g 1, 9060, .inr (.inl u1))) ∧ (f1 (gr g h0 7) = .inl (gc g 1, 1812, .inr (.inl im1))) ∧ (f1 (gr g h0 8) = .inl (gc g 3, 2, .inl ik1)) ∧ (UIq w10 u1 im1 ik1)) A) ([.ref h0, .int p1].toArray) s 0 0 A) (F0 m 86 ls [.int y_30, .int y_22]) := by
              intro y_30 H locs ls hI hS  hl
              refine lv_iadd hx hb dX12_rank_86 ?_
              refine lv_topi (fun v_31 ev_31 => ?_)
              have tv_31 := k_ad y_22 y_30
              rw [← ev_31] at tv_31
              refine lv_istore_n (lv' := [(2, .int v_31), (3, .int (nI y_21)), (0, .ref h0), (1, .int p1)]) hx hb dX12_rank_87 rfl hl (by decide) rfl (fun ls hl => ?_)
              refine lv_iinc (v := nI (y_21 + 1)) (lv' := [(3, .int (nI (y_21 + 1))), (2, .int v_31), (0, .ref h0), (1, .int p1)]) hx hb dX12_rank_88 hl (k := 1) rfl (nI_1 _) (by decide) rfl (fun ls hl => ?_)
              refine lv_goto (tgt := 27) hx hb dX12_rank_91 (by decide) ?_
              exact ih (y_21 + 1) v_31 _ _ _ (by omega) hI hS (by first | omega | decide | exact Or.inl (by decide)) (lv_sub hl [0, 1, 2, 3] rfl)
            have J_85 : ∀ (H : Heap) (locs : List Loc) (ls : Array Slot), Iv dC dI g A f_6 H → va_S A s.heap H locs → lv_has ls 4 [(3, .int (nI y_21)), (2, .int y_22), (0, .ref h0), (1, .int p1)] → W p l e (headSpec wq_c_X12_rank ({ frames := 2, cells := 0, slots := 0, locals := 46 } : Room)).room s m ([.ref h0, .int p1].toArray) below meth c H locs 0 0 (MQ below (va_Qi (fun (r : Int32) (_ : Unit) => True) (fun (_ : Unit) t => ∃ f1 : Nat → va_E, Iv dC dI g A f1 t.heap ∧ Kp g [12] f f1 ∧ ∃ (w0 : Int32) (w1 : Int32) (w10 : Int32) (w12 : Int32) (w13 : Int32) (w14 : Int32) (w15 : Int32) (w16 : Int64) (w17 : Int32) (w18 : Int32) (w23 : Int32) (w24 : Int64) (w25 : Int64) (w26 : Int64) (q1 : Nat → Int64) (u1 : Nat → Int64) (im1 : Nat → Int64) (ik1 : Nat → Int32), (f1 h0 = .inr (12, [.int w0, .int w1, .ref (gr g h0 2), .ref (gr g h0 3), .ref (gr g h0 4), .ref (gr g h0 5), .ref (gr g h0 6), .ref (gr g h0 7), .ref (gr g h0 8), .ref (gr g h0 9), .int w10, .ref (gr g h0 11), .int w12, .int w13, .int w14, .int w15, .long w16, .int w17, .int w18, .ref (gr g h0 19), .ref (gr g h0 20), .ref (gr g h0 21), .ref (gr g h0 22), .int w23, .long w24, .long w25, .long w26])) ∧ (0 ≤ w10.toInt ∧ w10.toInt ≤ 10) ∧ (0 ≤ w12.toInt ∧ w12.toInt ≤ 200) ∧ (0 ≤ w23.toInt ∧ w23.toInt ≤ 8) ∧ (f1 (gr g h0 4) = .inl (gc g 1, 906, .inr (.inl q1))) ∧ (RowOK q1) ∧ (f1 (gr g h0 5) = .inl (gc g 1, 9060, .inr (.inl u1))) ∧ (f1 (gr g h0 7) = .inl (gc g 1, 1812, .inr (.inl im1))) ∧ (f1 (gr g h0 8) = .inl (gc g 3, 2, .inl ik1)) ∧ (UIq w10 u1 im1 ik1)) A) ([.ref h0, .int p1].toArray) s 0 0 A) (F0 m 85 ls [.int y_22]) := by
              intro H locs ls hI hS  hl
              refine lv_iconst (v := 0) hx hb dX12_rank_85 (by decide) ?_
              exact J_86 0 _ _ _ hI hS  (lv_sub hl [0, 1, 2, 3] rfl)
            refine lv_if_eq (tgt := 85) hx hb dX12_rank_45 (by decide) (fun c_32 => ?_) (fun c_32 => ?_)
            · have c_32 := kc_eq rfl (by decide : Int32.toInt 0 = 0) c_32
              exact J_85  _ _ _ hI hS  (lv_sub hl [0, 1, 2, 3] rfl)
            · have c_32 := kn_eq rfl (by decide : Int32.toInt 0 = 0) c_32
              refine lv_aload_n hx hb dX12_rank_48 rfl (lv_at hl 2 rfl) ?_
              refine lv_iload_n hx hb dX12_rank_49 rfl (lv_at hl 0 rfl) ?_
              refine va_calll (va_runV (As := [.int (nI y_21)]) (rest := [.int y_22]) ⟨hx, hb, hml, hown, hts⟩ (c_X12_virtual l dC dI g A hG f_6 h0 y_21 q i_h0 k_10 hc1_ok (by first | omega | decide | (simp only [k_c0, k_c1, k_cm1] <;> omega))) (cwV 1 hts (gi_V (fun w_ h0_ => ⟨List.mem_cons_of_mem _ (List.mem_append_right _ (List.mem_append_right _ (List.mem_append_right _ (List.mem_append_right _ (List.mem_append_left _ h0_))))), (tb_c_X12_virtual w_ h0_).2⟩) (List.mem_cons_of_mem _ (List.mem_append_left _ (List.mem_of_getElem? (i := 9) rfl))) (List.mem_cons_of_mem _ (List.mem_append_left _ (List.mem_of_getElem? (i := 10) rfl))) (List.mem_cons_of_mem _ (List.mem_append_left _ (List.mem_of_getElem? (i := 11) rfl))) (List.mem_cons_of_mem _ (List.mem_append_left _ (List.mem_of_getElem? (i := 4) rfl)))) rfl rfl rfl (by decide +kernel) ⟨Nat.le_of_ble_eq_true rfl, Nat.le_of_ble_eq_true rfl⟩) ⟨fun a U g mk q => ⟨q.1, q.2.calling rfl rfl⟩, k_recv hK hI i_h0.1 k_9 (ci := 12) rfl, fun U hU hW => ⟨rfl, kIn.of hI hK hE hS hU hW⟩⟩ rfl rfl hl.1 rfl (lv_room (Nat.le_of_ble_eq_true rfl)) dX12_rank_50 ⟨Nat.le_of_ble_eq_true rfl, Nat.le_of_ble_eq_true rfl⟩) hS (fun q _ h => h) (fun q h => h) (fun r_34 u9 t H1 locs ht hvm w_33 hB hz1 hk1 hS => ?_)
              have hI : Iv dC dI g A f_6 t.heap := hB
              rw [ht] at hI
              generalize H1 = H at hI hS ⊢
              refine W.widen (k := 0) (n := 0) (Nat.le_of_ble_eq_true rfl) (Nat.le_of_ble_eq_true rfl) ?_
              refine lv_aload_n hx hb dX12_rank_53 rfl (lv_at hl 2 rfl) ?_
              refine lv_iload_n hx hb dX12_rank_54 rfl (lv_at hl 3 rfl) ?_
              refine k_topi (y := nI m_17) em_17 ?_
              refine va_calll (va_runV (As := [.int (nI m_17)]) (rest := [.long r_34, .int y_22]) ⟨hx, hb, hml, hown, hts⟩ (c_X12_virtual l dC dI g A hG f_6 h0 m_17 q i_h0 k_10 hc1_ok (by first | omega | decide | (simp only [k_c0, k_c1, k_cm1] <;> omega))) (cwV 1 hts (gi_V (fun w_ h0_ => ⟨List.mem_cons_of_mem _ (List.mem_append_right _ (List.mem_append_right _ (List.mem_append_right _ (List.mem_append_right _ (List.mem_append_left _ h0_))))), (tb_c_X12_virtual w_ h0_).2⟩) (List.mem_cons_of_mem _ (List.mem_append_left _ (List.mem_of_getElem? (i := 9) rfl))) (List.mem_cons_of_mem _ (List.mem_append_left _ (List.mem_of_getElem? (i := 10) rfl))) (List.mem_cons_of_mem _ (List.mem_append_left _ (List.mem_of_getElem? (i := 11) rfl))) (List.mem_cons_of_mem _ (List.mem_append_left _ (List.mem_of_getElem? (i := 4) rfl)))) rfl rfl rfl (by decide +kernel) ⟨Nat.le_of_ble_eq_true rfl, Nat.le_of_ble_eq_true rfl⟩) ⟨fun a U g mk q => ⟨q.1, q.2.calling rfl rfl⟩, k_recv hK hI i_h0.1 k_9 (ci := 12) rfl, fun U hU hW => ⟨rfl, kIn.of hI hK hE hS hU hW⟩⟩ rfl rfl hl.1 rfl (lv_room (Nat.le_of_ble_eq_true rfl)) dX12_rank_55 ⟨Nat.le_of_ble_eq_true rfl, Nat.le_of_ble_eq_true rfl⟩) hS (fun q _ h => h) (fun q h => h) (fun r_36 u9 t H1 locs ht hvm w_35 hB hz1 hk1 hS => ?_)
              have hI : Iv dC dI g A f_6 t.heap := hB
              rw [ht] at hI
              generalize H1 = H at hI hS ⊢
              refine W.widen (k := 0) (n := 0) (Nat.le_of_ble_eq_true rfl) (Nat.le_of_ble_eq_true rfl) ?_
              refine W.lcmp hx hb dX12_rank_58 ?_
              have J_81 : ∀ (H : Heap) (locs : List Loc) (ls : Array Slot), Iv dC dI g A f_6 H → va_S A s.heap H locs → lv_has ls 4 [(3, .int (nI y_21)), (2, .int y_22), (0, .ref h0), (1, .int p1)] → W p l e (headSpec wq_c_X12_rank ({ frames := 2, cells := 0, slots := 0, locals := 46 } : Room)).room s m ([.ref h0, .int p1].toArray) below meth c H locs 0 0 (MQ below (va_Qi (fun (r : Int32) (_ : Unit) => True) (fun (_ : Unit) t => ∃ f1 : Nat → va_E, Iv dC dI g A f1 t.heap ∧ Kp g [12] f f1 ∧ ∃ (w0 : Int32) (w1 : Int32) (w10 : Int32) (w12 : Int32) (w13 : Int32) (w14 : Int32) (w15 : Int32) (w16 : Int64) (w17 : Int32) (w18 : Int32) (w23 : Int32) (w24 : Int64) (w25 : Int64) (w26 : Int64) (q1 : Nat → Int64) (u1 : Nat → Int64) (im1 : Nat → Int64) (ik1 : Nat → Int32), (f1 h0 = .inr (12, [.int w0, .int w1, .ref (gr g h0 2), .ref (gr g h0 3), .ref (gr g h0 4), .ref (gr g h0 5), .ref (gr g h0 6), .ref (gr g h0 7), .ref (gr g h0 8), .ref (gr g h0 9), .int w10, .ref (gr g h0 11), .int w12, .int w13, .int w14, .int w15, .long w16, .int w17, .int w18, .ref (gr g h0 19), .ref (gr g h0 20), .ref (gr g h0 21), .ref (gr g h0 22), .int w23, .long w24, .long w25, .long w26])) ∧ (0 ≤ w10.toInt ∧ w10.toInt ≤ 10) ∧ (0 ≤ w12.toInt ∧ w12.toInt ≤ 200) ∧ (0 ≤ w23.toInt ∧ w23.toInt ≤ 8) ∧ (f1 (gr g h0 4) = .inl (gc g 1, 906, .inr (.inl q1))) ∧ (RowOK q1) ∧ (f1 (gr g h0 5) = .inl (gc g 1, 9060, .inr (.inl u1))) ∧ (f1 (gr g h0 7) = .inl (gc g 1, 1812, .inr (.inl im1))) ∧ (f1 (gr g h0 8) = .inl (gc g 3, 2, .inl ik1)) ∧ (UIq w10 u1 im1 ik1)) A) ([.ref h0, .int p1].toArray) s 0 0 A) (F0 m 81 ls [.int y_22]) := by
                intro H locs ls hI hS  hl
                refine lv_iconst (v := 1) hx hb dX12_rank_81 (by decide) ?_
                refine lv_goto (tgt := 86) hx hb dX12_rank_82 (by decide) ?_
                exact J_86 1 _ _ _ hI hS  (lv_sub hl [0, 1, 2, 3] rfl)
              refine lv_if_lt (tgt := 81) hx hb dX12_rank_59 (by decide) (fun c_37 => ?_) (fun c_37 => ?_)
              · have c_37 := lc_lt rfl rfl ((lg_cmp_lt _ _).mp c_37)
                exact J_81  _ _ _ hI hS  (lv_sub hl [0, 1, 2, 3] rfl)
              · have c_37 := ln_lt rfl rfl (fun h9 => c_37 ((lg_cmp_lt _ _).mpr h9))
                refine lv_aload_n hx hb dX12_rank_62 rfl (lv_at hl 2 rfl) ?_
                refine lv_iload_n hx hb dX12_rank_63 rfl (lv_at hl 0 rfl) ?_
                refine va_calll (va_runV (As := [.int (nI y_21)]) (rest := [.int y_22]) ⟨hx, hb, hml, hown, hts⟩ (c_X12_virtual l dC dI g A hG f_6 h0 y_21 q i_h0 k_10 hc1_ok (by first | omega | decide | (simp only [k_c0, k_c1, k_cm1] <;> omega))) (cwV 1 hts (gi_V (fun w_ h0_ => ⟨List.mem_cons_of_mem _ (List.mem_append_right _ (List.mem_append_right _ (List.mem_append_right _ (List.mem_append_right _ (List.mem_append_left _ h0_))))), (tb_c_X12_virtual w_ h0_).2⟩) (List.mem_cons_of_mem _ (List.mem_append_left _ (List.mem_of_getElem? (i := 9) rfl))) (List.mem_cons_of_mem _ (List.mem_append_left _ (List.mem_of_getElem? (i := 10) rfl))) (List.mem_cons_of_mem _ (List.mem_append_left _ (List.mem_of_getElem? (i := 11) rfl))) (List.mem_cons_of_mem _ (List.mem_append_left _ (List.mem_of_getElem? (i := 4) rfl)))) rfl rfl rfl (by decide +kernel) ⟨Nat.le_of_ble_eq_true rfl, Nat.le_of_ble_eq_true rfl⟩) ⟨fun a U g mk q => ⟨q.1, q.2.calling rfl rfl⟩, k_recv hK hI i_h0.1 k_9 (ci := 12) rfl, fun U hU hW => ⟨rfl, kIn.of hI hK hE hS hU hW⟩⟩ rfl rfl hl.1 rfl (lv_room (Nat.le_of_ble_eq_true rfl)) dX12_rank_64 ⟨Nat.le_of_ble_eq_true rfl, Nat.le_of_ble_eq_true rfl⟩) hS (fun q _ h => h) (fun q h => h) (fun r_39 u9 t H1 locs ht hvm w_38 hB hz1 hk1 hS => ?_)
                have hI : Iv dC dI g A f_6 t.heap := hB
                rw [ht] at hI
                generalize H1 = H at hI hS ⊢
                refine W.widen (k := 0) (n := 0) (Nat.le_of_ble_eq_true rfl) (Nat.le_of_ble_eq_true rfl) ?_
                refine lv_aload_n hx hb dX12_rank_67 rfl (lv_at hl 2 rfl) ?_
                refine lv_iload_n hx hb dX12_rank_68 rfl (lv_at hl 3 rfl) ?_
                refine k_topi (y := nI m_17) em_17 ?_
                refine va_calll (va_runV (As := [.int (nI m_17)]) (rest := [.long r_39, .int y_22]) ⟨hx, hb, hml, hown, hts⟩ (c_X12_virtual l dC dI g A hG f_6 h0 m_17 q i_h0 k_10 hc1_ok (by first | omega | decide | (simp only [k_c0, k_c1, k_cm1] <;> omega))) (cwV 1 hts (gi_V (fun w_ h0_ => ⟨List.mem_cons_of_mem _ (List.mem_append_right _ (List.mem_append_right _ (List.mem_append_right _ (List.mem_append_right _ (List.mem_append_left _ h0_))))), (tb_c_X12_virtual w_ h0_).2⟩) (List.mem_cons_of_mem _ (List.mem_append_left _ (List.mem_of_getElem? (i := 9) rfl))) (List.mem_cons_of_mem _ (List.mem_append_left _ (List.mem_of_getElem? (i := 10) rfl))) (List.mem_cons_of_mem _ (List.mem_append_left _ (List.mem_of_getElem? (i := 11) rfl))) (List.mem_cons_of_mem _ (List.mem_append_left _ (List.mem_of_getElem? (i := 4) rfl)))) rfl rfl rfl (by decide +kernel) ⟨Nat.le_of_ble_eq_true rfl, Nat.le_of_ble_eq_true rfl⟩) ⟨fun a U g mk q => ⟨q.1, q.2.calling rfl rfl⟩, k_recv hK hI i_h0.1 k_9 (ci := 12) rfl, fun U hU hW => ⟨rfl, kIn.of hI hK hE hS hU hW⟩⟩ rfl rfl hl.1 rfl (lv_room (Nat.le_of_ble_eq_true rfl)) dX12_rank_69 ⟨Nat.le_of_ble_eq_true rfl, Nat.le_of_ble_eq_true rfl⟩) hS (fun q _ h => h) (fun q h => h) (fun r_41 u9 t H1 locs ht hvm w_40 hB hz1 hk1 hS => ?_)
                have hI : Iv dC dI g A f_6 t.heap := hB
                rw [ht] at hI
                generalize H1 = H at hI hS ⊢
                refine W.widen (k := 0) (n := 0) (Nat.le_of_ble_eq_true rfl) (Nat.le_of_ble_eq_true rfl) ?_
                refine W.lcmp hx hb dX12_rank_72 ?_
                refine lv_if_ne (tgt := 85) hx hb dX12_rank_73 (by decide) (fun c_42 => ?_) (fun c_42 => ?_)
                · have c_42 := ln_eq rfl rfl (fun h9 => c_42 ((lg_cmp_eq _ _).mpr h9))
                  exact J_85  _ _ _ hI hS  (lv_sub hl [0, 1, 2, 3] rfl)
                · have c_42 := lc_eq rfl rfl ((lg_cmp_eq _ _).mp c_42)
                  refine lv_iload_n hx hb dX12_rank_76 rfl (lv_at hl 0 rfl) ?_
                  refine lv_iload_n hx hb dX12_rank_77 rfl (lv_at hl 3 rfl) ?_
                  refine k_topi (y := nI m_17) em_17 ?_
                  refine lv_icmp_ge (tgt := 85) hx hb dX12_rank_78 (by decide) (fun c_43 => ?_) (fun c_43 => ?_)
                  · have c_43 := kc_le (nI_toInt (n := m_17) (by omega)) (nI_toInt (n := y_21) (by omega)) c_43
                    exact J_85  _ _ _ hI hS  (lv_sub hl [0, 1, 2, 3] rfl)
                  · have c_43 := kn_le (nI_toInt (n := m_17) (by omega)) (nI_toInt (n := y_21) (by omega)) c_43
                    exact J_81  _ _ _ hI hS  (lv_sub hl [0, 1, 2, 3] rfl)
      exact K_27 _ 0 0 _ _ _ (Nat.lt_succ_self _) hI hS (by first | omega | decide | exact Or.inl (by decide) | (simp only [show Int32.toInt 0 = 0 from by decide] <;> omega)) (lv_sub hl [0, 1, 2, 3] rfl)
    · have c_20 := kc_eq rfl (by decide : Int32.toInt 0 = 0) c_20
      refine lv_iconst (v := (-1)) hx hb dX12_rank_21 (by decide) ?_
      exact W.iret (v := (-1)) hx hb hr (fun t ht hW => ⟨⟨(-1), (), rfl, trivial, ⟨f_6, k_ret ht hI, kp_8, 0, z1, z10, z12, z13, z14, z15, z16, z17, z18, z23, z24, z25, z26, q, u, im, kt, k_9, (by first | omega | decide), (by first | omega | decide), (by first | omega | decide), k_10, hc1_ok, k_11, k_12, k_13, hU⟩⟩, hS.F ht⟩) hS.2.2 dX12_rank_22
theorem tw_953 : q_g (.constantLong RX12 291 (-9223372036854775808)) := ⟨(List.mem_append_right _ (List.mem_of_getElem? (i := 1450) (by decide +kernel))), good_of_word (by decide +kernel)⟩
theorem tw_954 : q_g (.code yX12_exact cX12_exact 3 (some .long)) := ⟨(List.mem_append_right _ (List.mem_of_getElem? (i := 1449) (by decide +kernel))), good_of_word (by decide +kernel)⟩
def ow_c_X12_exact : List Cond := [.fieldLink RX12 67 "DeadlineShareModel" "thrown" "I", .methodLink RX12 142 yX12_isTask, .instanceMethod yX12_isTask, .selects RX12 yX12_isTask yX12_isTask, .initialized RX12, .methodLink RX12 90 yX12_isOn, .instanceMethod yX12_isOn, .selects RX12 yX12_isOn yX12_isOn, .constantLong RX12 291 (-9223372036854775808), .methodLink RX12 119 yX12_lag, .instanceMethod yX12_lag, .selects RX12 yX12_lag yX12_lag, .methodLink RX12 167 yX12_deadline, .instanceMethod yX12_deadline, .selects RX12 yX12_deadline yX12_deadline, .methodLink RX12 98 yX12_virtual, .instanceMethod yX12_virtual, .selects RX12 yX12_virtual yX12_virtual, .fieldLink RX12 16 "DeadlineShareModel" "row" "[J", .methodLink RX12 87 yX12_at, .static yX12_at]
def wq_c_X12_exact : List Cond := .code yX12_exact cX12_exact 3 (some .long) :: (ow_c_X12_exact ++ (u_ws RX12 TX12 27 ++ (wq_c_X12_isTask ++ (wq_c_X12_isOn ++ (wq_c_X12_lag ++ (wq_c_X12_deadline ++ (wq_c_X12_virtual ++ (wq_c_X12_at ++ ([] : List Cond)))))))))
theorem tb_c_X12_exact : ∀ w ∈ wq_c_X12_exact, q_g w := by
  unfold wq_c_X12_exact ow_c_X12_exact
  exact q_cons tw_954 (q_app (q_cons tw_927 (q_cons tw_951 (q_cons tw_950 (q_cons tw_949 (q_cons tw_728 (q_cons tw_744 (q_cons tw_743 (q_cons tw_742 (q_cons tw_953 (q_cons tw_772 (q_cons tw_771 (q_cons tw_770 (q_cons tw_782 (q_cons tw_781 (q_cons tw_780 (q_cons tw_748 (q_cons tw_747 (q_cons tw_746 (q_cons tw_731 (q_cons tw_734 (q_cons tw_733 q_nil))))))))))))))))))))) (q_app tu_X12 (q_app tb_c_X12_isTask (q_app tb_c_X12_isOn (q_app tb_c_X12_lag (q_app tb_c_X12_deadline (q_app tb_c_X12_virtual (q_app tb_c_X12_at q_nil))))))))
set_option maxHeartbeats 4000000 in
set_option maxRecDepth 100000 in
theorem c_X12_exact (l : Launch) (dC : Nat → ClassId) (dI : Nat → Nat → Nat) (g : kG) (A : Nat → Prop) (hG : kWf g) (f : Nat → va_E) (h0 : Nat) (p1 : Int32) (p2 : Int32) (z0 : Int32) (z1 : Int32) (z10 : Int32) (z12 : Int32) (z13 : Int32) (z14 : Int32) (z15 : Int32) (z16 : Int64) (z17 : Int32) (z18 : Int32) (z23 : Int32) (z24 : Int64) (z25 : Int64) (z26 : Int64) (q : Nat → Int64) (u : Nat → Int64) (im : Nat → Int64) (kt : Nat → Int32) (i_h0 : ik g 12 h0) (hc0 : f h0 = .inr (12, [.int z0, .int z1, .ref (gr g h0 2), .ref (gr g h0 3), .ref (gr g h0 4), .ref (gr g h0 5), .ref (gr g h0 6), .ref (gr g h0 7), .ref (gr g h0 8), .ref (gr g h0 9), .int z10, .ref (gr g h0 11), .int z12, .int z13, .int z14, .int z15, .long z16, .int z17, .int z18, .ref (gr g h0 19), .ref (gr g h0 20), .ref (gr g h0 21), .ref (gr g h0 22), .int z23, .long z24, .long z25, .long z26])) (hc0_10 : 0 ≤ z10.toInt ∧ z10.toInt ≤ 10) (hc0_12 : 0 ≤ z12.toInt ∧ z12.toInt ≤ 200) (hc0_23 : 0 ≤ z23.toInt ∧ z23.toInt ≤ 8) (hc1 : f (gr g h0 4) = .inl (gc g 1, 906, .inr (.inl q))) (hc1_ok : RowOK q) (hc2 : f (gr g h0 5) = .inl (gc g 1, 9060, .inr (.inl u))) (hc3 : f (gr g h0 7) = .inl (gc g 1, 1812, .inr (.inl im))) (hc4 : f (gr g h0 8) = .inl (gc g 3, 2, .inl kt)) (hU : UIq z10 u im kt) : Met l yX12_exact wq_c_X12_exact ({ frames := 4, cells := 0, slots := 0, locals := 85 } : Room) (va_Pc [.ref h0, .int p1, .int p2] (fun U => kIn dC dI g A f U)) (va_Ql (fun (r : Int64) (_ : Unit) => True) (fun (_ : Unit) t => ∃ f1 : Nat → va_E, Iv dC dI g A f1 t.heap ∧ Kp g [12] f f1 ∧ ∃ (w0 : Int32) (w1 : Int32) (w10 : Int32) (w12 : Int32) (w13 : Int32) (w14 : Int32) (w15 : Int32) (w16 : Int64) (w17 : Int32) (w18 : Int32) (w23 : Int32) (w24 : Int64) (w25 : Int64) (w26 : Int64) (q1 : Nat → Int64) (u1 : Nat → Int64) (im1 : Nat → Int64) (ik1 : Nat → Int32), (f1 h0 = .inr (12, [.int w0, .int w1, .ref (gr g h0 2), .ref (gr g h0 3), .ref (gr g h0 4), .ref (gr g h0 5), .ref (gr g h0 6), .ref (gr g h0 7), .ref (gr g h0 8), .ref (gr g h0 9), .int w10, .ref (gr g h0 11), .int w12, .int w13, .int w14, .int w15, .long w16, .int w17, .int w18, .ref (gr g h0 19), .ref (gr g h0 20), .ref (gr g h0 21), .ref (gr g h0 22), .int w23, .long w24, .long w25, .long w26])) ∧ (0 ≤ w10.toInt ∧ w10.toInt ≤ 10) ∧ (0 ≤ w12.toInt ∧ w12.toInt ≤ 200) ∧ (0 ≤ w23.toInt ∧ w23.toInt ≤ 8) ∧ (f1 (gr g h0 4) = .inl (gc g 1, 906, .inr (.inl q1))) ∧ (RowOK q1) ∧ (f1 (gr g h0 5) = .inl (gc g 1, 9060, .inr (.inl u1))) ∧ (f1 (gr g h0 7) = .inl (gc g 1, 1812, .inr (.inl im1))) ∧ (f1 (gr g h0 8) = .inl (gc g 3, 2, .inl ik1)) ∧ (UIq w10 u1 im1 ik1)) A) 0 0 A := by
  refine Met.ofW (cc := cX12_exact) (maxL := 3) (ret := (some .long)) (by decide) rfl ?_
  intro p e s m args below meth c s₁ B hml hv
  obtain ⟨rfl, hI, hK, hE⟩ := hv
  have hx := B.exec
  have hb := B.bytes
  have hr := B.returns
  have hts := atoms_spec (ws := wq_c_X12_exact) B.pre
  have hown : s.vm.findClass RX12 = some m.cls := findClass_of_methodNamed B.named
  have hlocks := B.notSynchronized
  have hS : va_S A s.heap s.heap [] := va_S.rf
  have hk0 : Kp g [12] f f := Kp.rf
  have hl := lv_entry ([.ref h0, .int p1, .int p2]) (n := 3) (Nat.le_of_ble_eq_true rfl)
  rw [lg_entry_eq]
  generalize (lg_sl ([.ref h0, .int p1, .int p2]) ++ List.replicate (3 - (lg_sl ([.ref h0, .int p1, .int p2])).length) Slot.unset).toArray = ls at hl ⊢
  have hl : lv_has ls 3 [(0, .ref h0), (1, .int p1), (2, .int p2)] := hl
  have i_1 := kw_12_4 hG i_h0
  have d_2 := rk_hd hc1_ok
  have i_3 := kw_12_5 hG i_h0
  have i_4 := kw_12_7 hG i_h0
  have i_5 := kw_12_8 hG i_h0
  refine lv_aload_n hx hb dX12_exact_0 rfl (lv_at hl 0 rfl) ?_
  refine lv_iconst (v := 0) hx hb dX12_exact_1 (by decide) ?_
  refine k_put (ci := 12) (v := .int 0) (ty := .int) (C := RX12) (T := TX12) (N := 27) hx hb hts (fun _ h0_ => List.mem_cons_of_mem _ (List.mem_append_right _ (List.mem_append_left _ h0_))) tyX12 tyX12_ok nmX12 hown hK hI hS i_h0.1 hc0 rfl 0 (by decide) (hts (.fieldLink RX12 67 "DeadlineShareModel" "thrown" "I") (List.mem_cons_of_mem _ (List.mem_append_left _ (List.mem_of_getElem? (i := 0) rfl)))) (fun _ h9 => h9) rfl (by decide +kernel) rfl rfl (Nat.le_of_ble_eq_true rfl) rfl (cl_12 i_h0 (by omega) (by omega) (by omega)) dX12_exact_2 (fun f_6 H locs e_7 hI hS => ?_)
  have k_9 : f_6 h0 = .inr (12, [.int 0, .int z1, .ref (gr g h0 2), .ref (gr g h0 3), .ref (gr g h0 4), .ref (gr g h0 5), .ref (gr g h0 6), .ref (gr g h0 7), .ref (gr g h0 8), .ref (gr g h0 9), .int z10, .ref (gr g h0 11), .int z12, .int z13, .int z14, .int z15, .long z16, .int z17, .int z18, .ref (gr g h0 19), .ref (gr g h0 20), .ref (gr g h0 21), .ref (gr g h0 22), .int z23, .long z24, .long z25, .long z26]) := by rw [e_7]; exact va_up_self _ _ _
  have k_10 : f_6 (gr g h0 4) = .inl (gc g 1, 906, .inr (.inl q)) := by rw [e_7, va_up_ne _ _ (ik_ne i_1 i_h0 (by decide))]; exact hc1
  have k_11 : f_6 (gr g h0 5) = .inl (gc g 1, 9060, .inr (.inl u)) := by rw [e_7, va_up_ne _ _ (ik_ne i_3 i_h0 (by decide))]; exact hc2
  have k_12 : f_6 (gr g h0 7) = .inl (gc g 1, 1812, .inr (.inl im)) := by rw [e_7, va_up_ne _ _ (ik_ne i_4 i_h0 (by decide))]; exact hc3
  have k_13 : f_6 (gr g h0 8) = .inl (gc g 3, 2, .inl kt) := by rw [e_7, va_up_ne _ _ (ik_ne i_5 i_h0 (by decide))]; exact hc4
  have kp_8 := Kp.put hk0 i_h0 (by decide) e_7
  refine lv_aload_n hx hb dX12_exact_5 rfl (lv_at hl 0 rfl) ?_
  refine lv_iload_n hx hb dX12_exact_6 rfl (lv_at hl 1 rfl) ?_
  refine va_calli (va_runV (As := [.int p1]) (rest := []) ⟨hx, hb, hml, hown, hts⟩ (c_X12_isTask l dC dI g A hG f_6 h0 p1 q i_h0 k_10 hc1_ok) (cwV 1 hts (gi_V (fun w_ h0_ => ⟨List.mem_cons_of_mem _ (List.mem_append_right _ (List.mem_append_right _ (List.mem_append_left _ h0_))), (tb_c_X12_isTask w_ h0_).2⟩) (List.mem_cons_of_mem _ (List.mem_append_left _ (List.mem_of_getElem? (i := 1) rfl))) (List.mem_cons_of_mem _ (List.mem_append_left _ (List.mem_of_getElem? (i := 2) rfl))) (List.mem_cons_of_mem _ (List.mem_append_left _ (List.mem_of_getElem? (i := 3) rfl))) (List.mem_cons_of_mem _ (List.mem_append_left _ (List.mem_of_getElem? (i := 4) rfl)))) rfl rfl rfl (by decide +kernel) ⟨Nat.le_of_ble_eq_true rfl, Nat.le_of_ble_eq_true rfl⟩) ⟨fun a U g mk q => ⟨q.1, q.2.calling rfl rfl⟩, k_recv hK hI i_h0.1 k_9 (ci := 12) rfl, fun U hU hW => ⟨rfl, kIn.of hI hK hE hS hU hW⟩⟩ rfl rfl hl.1 rfl (lv_room (Nat.le_of_ble_eq_true rfl)) dX12_exact_7 ⟨Nat.le_of_ble_eq_true rfl, Nat.le_of_ble_eq_true rfl⟩) hS (fun q _ h => h) (fun q h => h) (fun r_15 u9 t H1 locs ht hvm w_14 hB hz1 hk1 hS => ?_)
  have hI : Iv dC dI g A f_6 t.heap := hB
  rw [ht] at hI
  generalize H1 = H at hI hS ⊢
  refine W.widen (k := 0) (n := 0) (Nat.le_of_ble_eq_true rfl) (Nat.le_of_ble_eq_true rfl) ?_
  have w_14 : (r_15.toInt = 0 ∨ r_15.toInt = 1) ∧ (r_15.toInt = 0 ∨ (0 ≤ p1.toInt ∧ p1.toInt < (q 0).toInt)) := w_14
  refine lv_if_ne (tgt := 17) hx hb dX12_exact_10 (by decide) (fun c_16 => ?_) (fun c_16 => ?_)
  · have c_16 := kn_eq rfl (by decide : Int32.toInt 0 = 0) c_16
    refine lv_aload_n hx hb dX12_exact_17 rfl (lv_at hl 0 rfl) ?_
    obtain ⟨m_17, em_17, tm_17⟩ := k_nat (x := p1) (by omega)
    refine lv_iload_n hx hb dX12_exact_18 rfl (lv_at hl 1 rfl) ?_
    refine k_topi (y := nI m_17) em_17 ?_
    refine va_calli (va_runV (As := [.int (nI m_17)]) (rest := []) ⟨hx, hb, hml, hown, hts⟩ (c_X12_isOn l dC dI g A hG f_6 h0 m_17 q i_h0 k_10 hc1_ok (by first | omega | decide | (simp only [k_c0, k_c1, k_cm1] <;> omega))) (cwV 1 hts (gi_V (fun w_ h0_ => ⟨List.mem_cons_of_mem _ (List.mem_append_right _ (List.mem_append_right _ (List.mem_append_right _ (List.mem_append_left _ h0_)))), (tb_c_X12_isOn w_ h0_).2⟩) (List.mem_cons_of_mem _ (List.mem_append_left _ (List.mem_of_getElem? (i := 5) rfl))) (List.mem_cons_of_mem _ (List.mem_append_left _ (List.mem_of_getElem? (i := 6) rfl))) (List.mem_cons_of_mem _ (List.mem_append_left _ (List.mem_of_getElem? (i := 7) rfl))) (List.mem_cons_of_mem _ (List.mem_append_left _ (List.mem_of_getElem? (i := 4) rfl)))) rfl rfl rfl (by decide +kernel) ⟨Nat.le_of_ble_eq_true rfl, Nat.le_of_ble_eq_true rfl⟩) ⟨fun a U g mk q => ⟨q.1, q.2.calling rfl rfl⟩, k_recv hK hI i_h0.1 k_9 (ci := 12) rfl, fun U hU hW => ⟨rfl, kIn.of hI hK hE hS hU hW⟩⟩ rfl rfl hl.1 rfl (lv_room (Nat.le_of_ble_eq_true rfl)) dX12_exact_19 ⟨Nat.le_of_ble_eq_true rfl, Nat.le_of_ble_eq_true rfl⟩) hS (fun q _ h => h) (fun q h => h) (fun r_19 u9 t H1 locs ht hvm w_18 hB hz1 hk1 hS => ?_)
    have hI : Iv dC dI g A f_6 t.heap := hB
    rw [ht] at hI
    generalize H1 = H at hI hS ⊢
    refine W.widen (k := 0) (n := 0) (Nat.le_of_ble_eq_true rfl) (Nat.le_of_ble_eq_true rfl) ?_
    have w_18 : (r_19.toInt = 0 ∧ (q (6 + 43 * m_17 + 2)).toInt ≠ 1) ∨ (r_19.toInt = 1 ∧ (q (6 + 43 * m_17 + 2)).toInt = 1) := w_18
    refine lv_if_ne (tgt := 49) hx hb dX12_exact_22 (by decide) (fun c_20 => ?_) (fun c_20 => ?_)
    · have c_20 := kn_eq rfl (by decide : Int32.toInt 0 = 0) c_20
      refine lv_iload_n hx hb dX12_exact_49 rfl (lv_at hl 2 rfl) ?_
      refine lv_if_ne (tgt := 61) hx hb dX12_exact_50 (by decide) (fun c_21 => ?_) (fun c_21 => ?_)
      · have c_21 := kn_eq rfl (by decide : Int32.toInt 0 = 0) c_21
        refine lv_iload_n hx hb dX12_exact_61 rfl (lv_at hl 2 rfl) ?_
        refine lv_iconst (v := 1) hx hb dX12_exact_62 (by decide) ?_
        refine lv_icmp_ne (tgt := 74) hx hb dX12_exact_63 (by decide) (fun c_22 => ?_) (fun c_22 => ?_)
        · have c_22 := kn_eq rfl (by decide : Int32.toInt 1 = 1) c_22
          refine lv_iload_n hx hb dX12_exact_74 rfl (lv_at hl 2 rfl) ?_
          refine lv_iconst (v := 2) hx hb dX12_exact_75 (by decide) ?_
          refine lv_icmp_ne (tgt := 87) hx hb dX12_exact_76 (by decide) (fun c_23 => ?_) (fun c_23 => ?_)
          · have c_23 := kn_eq rfl (by decide : Int32.toInt 2 = 2) c_23
            refine lv_ldc2 hx hb hown (hts (.constantLong RX12 291 (-9223372036854775808)) (List.mem_cons_of_mem _ (List.mem_append_left _ (List.mem_of_getElem? (i := 8) rfl)))) dX12_exact_87 ?_
            exact W.lret (v := (-9223372036854775808)) hx hb hr (fun t ht hW => ⟨⟨(-9223372036854775808), (), rfl, trivial, ⟨f_6, k_ret ht hI, kp_8, 0, z1, z10, z12, z13, z14, z15, z16, z17, z18, z23, z24, z25, z26, q, u, im, kt, k_9, (by first | omega | decide), (by first | omega | decide), (by first | omega | decide), k_10, hc1_ok, k_11, k_12, k_13, hU⟩⟩, hS.F ht⟩) hS.2.2 dX12_exact_90
          · have c_23 := kc_eq rfl (by decide : Int32.toInt 2 = 2) c_23
            refine lv_aload_n hx hb dX12_exact_79 rfl (lv_at hl 0 rfl) ?_
            refine lv_iload_n hx hb dX12_exact_80 rfl (lv_at hl 1 rfl) ?_
            refine k_topi (y := nI m_17) em_17 ?_
            refine va_calll (va_runV (As := [.int (nI m_17)]) (rest := []) ⟨hx, hb, hml, hown, hts⟩ (c_X12_lag l dC dI g A hG f_6 h0 m_17 q i_h0 k_10 hc1_ok (by first | omega | decide | (simp only [k_c0, k_c1, k_cm1] <;> omega))) (cwV 1 hts (gi_V (fun w_ h0_ => ⟨List.mem_cons_of_mem _ (List.mem_append_right _ (List.mem_append_right _ (List.mem_append_right _ (List.mem_append_right _ (List.mem_append_left _ h0_))))), (tb_c_X12_lag w_ h0_).2⟩) (List.mem_cons_of_mem _ (List.mem_append_left _ (List.mem_of_getElem? (i := 9) rfl))) (List.mem_cons_of_mem _ (List.mem_append_left _ (List.mem_of_getElem? (i := 10) rfl))) (List.mem_cons_of_mem _ (List.mem_append_left _ (List.mem_of_getElem? (i := 11) rfl))) (List.mem_cons_of_mem _ (List.mem_append_left _ (List.mem_of_getElem? (i := 4) rfl)))) rfl rfl rfl (by decide +kernel) ⟨Nat.le_of_ble_eq_true rfl, Nat.le_of_ble_eq_true rfl⟩) ⟨fun a U g mk q => ⟨q.1, q.2.calling rfl rfl⟩, k_recv hK hI i_h0.1 k_9 (ci := 12) rfl, fun U hU hW => ⟨rfl, kIn.of hI hK hE hS hU hW⟩⟩ rfl rfl hl.1 rfl (lv_room (Nat.le_of_ble_eq_true rfl)) dX12_exact_81 ⟨Nat.le_of_ble_eq_true rfl, Nat.le_of_ble_eq_true rfl⟩) hS (fun q _ h => h) (fun q h => h) (fun r_25 u9 t H1 locs ht hvm w_24 hB hz1 hk1 hS => ?_)
            have hI : Iv dC dI g A f_6 t.heap := hB
            rw [ht] at hI
            generalize H1 = H at hI hS ⊢
            refine W.widen (k := 0) (n := 0) (Nat.le_of_ble_eq_true rfl) (Nat.le_of_ble_eq_true rfl) ?_
            refine lv_goto (tgt := 90) hx hb dX12_exact_84 (by decide) ?_
            exact W.lret (v := r_25) hx hb hr (fun t ht hW => ⟨⟨r_25, (), rfl, trivial, ⟨f_6, k_ret ht hI, kp_8, 0, z1, z10, z12, z13, z14, z15, z16, z17, z18, z23, z24, z25, z26, q, u, im, kt, k_9, (by first | omega | decide), (by first | omega | decide), (by first | omega | decide), k_10, hc1_ok, k_11, k_12, k_13, hU⟩⟩, hS.F ht⟩) hS.2.2 dX12_exact_90
        · have c_22 := kc_eq rfl (by decide : Int32.toInt 1 = 1) c_22
          refine lv_aload_n hx hb dX12_exact_66 rfl (lv_at hl 0 rfl) ?_
          refine lv_iload_n hx hb dX12_exact_67 rfl (lv_at hl 1 rfl) ?_
          refine k_topi (y := nI m_17) em_17 ?_
          refine va_calll (va_runV (As := [.int (nI m_17)]) (rest := []) ⟨hx, hb, hml, hown, hts⟩ (c_X12_deadline l dC dI g A hG f_6 h0 m_17 q i_h0 k_10 hc1_ok (by first | omega | decide | (simp only [k_c0, k_c1, k_cm1] <;> omega))) (cwV 1 hts (gi_V (fun w_ h0_ => ⟨List.mem_cons_of_mem _ (List.mem_append_right _ (List.mem_append_right _ (List.mem_append_right _ (List.mem_append_right _ (List.mem_append_right _ (List.mem_append_left _ h0_)))))), (tb_c_X12_deadline w_ h0_).2⟩) (List.mem_cons_of_mem _ (List.mem_append_left _ (List.mem_of_getElem? (i := 12) rfl))) (List.mem_cons_of_mem _ (List.mem_append_left _ (List.mem_of_getElem? (i := 13) rfl))) (List.mem_cons_of_mem _ (List.mem_append_left _ (List.mem_of_getElem? (i := 14) rfl))) (List.mem_cons_of_mem _ (List.mem_append_left _ (List.mem_of_getElem? (i := 4) rfl)))) rfl rfl rfl (by decide +kernel) ⟨Nat.le_of_ble_eq_true rfl, Nat.le_of_ble_eq_true rfl⟩) ⟨fun a U g mk q => ⟨q.1, q.2.calling rfl rfl⟩, k_recv hK hI i_h0.1 k_9 (ci := 12) rfl, fun U hU hW => ⟨rfl, kIn.of hI hK hE hS hU hW⟩⟩ rfl rfl hl.1 rfl (lv_room (Nat.le_of_ble_eq_true rfl)) dX12_exact_68 ⟨Nat.le_of_ble_eq_true rfl, Nat.le_of_ble_eq_true rfl⟩) hS (fun q _ h => h) (fun q h => h) (fun r_27 u9 t H1 locs ht hvm w_26 hB hz1 hk1 hS => ?_)
          have hI : Iv dC dI g A f_6 t.heap := hB
          rw [ht] at hI
          generalize H1 = H at hI hS ⊢
          refine W.widen (k := 0) (n := 0) (Nat.le_of_ble_eq_true rfl) (Nat.le_of_ble_eq_true rfl) ?_
          refine lv_goto (tgt := 90) hx hb dX12_exact_71 (by decide) ?_
          exact W.lret (v := r_27) hx hb hr (fun t ht hW => ⟨⟨r_27, (), rfl, trivial, ⟨f_6, k_ret ht hI, kp_8, 0, z1, z10, z12, z13, z14, z15, z16, z17, z18, z23, z24, z25, z26, q, u, im, kt, k_9, (by first | omega | decide), (by first | omega | decide), (by first | omega | decide), k_10, hc1_ok, k_11, k_12, k_13, hU⟩⟩, hS.F ht⟩) hS.2.2 dX12_exact_90
      · have c_21 := kc_eq rfl (by decide : Int32.toInt 0 = 0) c_21
        refine lv_aload_n hx hb dX12_exact_53 rfl (lv_at hl 0 rfl) ?_
        refine lv_iload_n hx hb dX12_exact_54 rfl (lv_at hl 1 rfl) ?_
        refine k_topi (y := nI m_17) em_17 ?_
        refine va_calll (va_runV (As := [.int (nI m_17)]) (rest := []) ⟨hx, hb, hml, hown, hts⟩ (c_X12_virtual l dC dI g A hG f_6 h0 m_17 q i_h0 k_10 hc1_ok (by first | omega | decide | (simp only [k_c0, k_c1, k_cm1] <;> omega))) (cwV 1 hts (gi_V (fun w_ h0_ => ⟨List.mem_cons_of_mem _ (List.mem_append_right _ (List.mem_append_right _ (List.mem_append_right _ (List.mem_append_right _ (List.mem_append_right _ (List.mem_append_right _ (List.mem_append_left _ h0_))))))), (tb_c_X12_virtual w_ h0_).2⟩) (List.mem_cons_of_mem _ (List.mem_append_left _ (List.mem_of_getElem? (i := 15) rfl))) (List.mem_cons_of_mem _ (List.mem_append_left _ (List.mem_of_getElem? (i := 16) rfl))) (List.mem_cons_of_mem _ (List.mem_append_left _ (List.mem_of_getElem? (i := 17) rfl))) (List.mem_cons_of_mem _ (List.mem_append_left _ (List.mem_of_getElem? (i := 4) rfl)))) rfl rfl rfl (by decide +kernel) ⟨Nat.le_of_ble_eq_true rfl, Nat.le_of_ble_eq_true rfl⟩) ⟨fun a U g mk q => ⟨q.1, q.2.calling rfl rfl⟩, k_recv hK hI i_h0.1 k_9 (ci := 12) rfl, fun U hU hW => ⟨rfl, kIn.of hI hK hE hS hU hW⟩⟩ rfl rfl hl.1 rfl (lv_room (Nat.le_of_ble_eq_true rfl)) dX12_exact_55 ⟨Nat.le_of_ble_eq_true rfl, Nat.le_of_ble_eq_true rfl⟩) hS (fun q _ h => h) (fun q h => h) (fun r_29 u9 t H1 locs ht hvm w_28 hB hz1 hk1 hS => ?_)
        have hI : Iv dC dI g A f_6 t.heap := hB
        rw [ht] at hI
        generalize H1 = H at hI hS ⊢
        refine W.widen (k := 0) (n := 0) (Nat.le_of_ble_eq_true rfl) (Nat.le_of_ble_eq_true rfl) ?_
        refine lv_goto (tgt := 90) hx hb dX12_exact_58 (by decide) ?_
        exact W.lret (v := r_29) hx hb hr (fun t ht hW => ⟨⟨r_29, (), rfl, trivial, ⟨f_6, k_ret ht hI, kp_8, 0, z1, z10, z12, z13, z14, z15, z16, z17, z18, z23, z24, z25, z26, q, u, im, kt, k_9, (by first | omega | decide), (by first | omega | decide), (by first | omega | decide), k_10, hc1_ok, k_11, k_12, k_13, hU⟩⟩, hS.F ht⟩) hS.2.2 dX12_exact_90
    · have c_20 := kc_eq rfl (by decide : Int32.toInt 0 = 0) c_20
      refine lv_iload_n hx hb dX12_exact_25 rfl (lv_at hl 2 rfl) ?_
      refine lv_iconst (v := 3) hx hb dX12_exact_26 (by decide) ?_
      refine lv_icmp_ne (tgt := 45) hx hb dX12_exact_27 (by decide) (fun c_30 => ?_) (fun c_30 => ?_)
      · have c_30 := kn_eq rfl (by decide : Int32.toInt 3 = 3) c_30
        refine lv_ldc2 hx hb hown (hts (.constantLong RX12 291 (-9223372036854775808)) (List.mem_cons_of_mem _ (List.mem_append_left _ (List.mem_of_getElem? (i := 8) rfl)))) dX12_exact_45 ?_
        exact W.lret (v := (-9223372036854775808)) hx hb hr (fun t ht hW => ⟨⟨(-9223372036854775808), (), rfl, trivial, ⟨f_6, k_ret ht hI, kp_8, 0, z1, z10, z12, z13, z14, z15, z16, z17, z18, z23, z24, z25, z26, q, u, im, kt, k_9, (by first | omega | decide), (by first | omega | decide), (by first | omega | decide), k_10, hc1_ok, k_11, k_12, k_13, hU⟩⟩, hS.F ht⟩) hS.2.2 dX12_exact_48
      · have c_30 := kc_eq rfl (by decide : Int32.toInt 3 = 3) c_30
        refine lv_aload_n hx hb dX12_exact_30 rfl (lv_at hl 0 rfl) ?_
        refine k_get (ci := 12) (v := .ref (gr g h0 4)) (C := RX12) (T := TX12) (N := 27) hx hb hts (fun _ h0_ => List.mem_cons_of_mem _ (List.mem_append_right _ (List.mem_append_left _ h0_))) hown hK hI i_h0.1 k_9 rfl 4 (by decide) (hts (.fieldLink RX12 16 "DeadlineShareModel" "row" "[J") (List.mem_cons_of_mem _ (List.mem_append_left _ (List.mem_of_getElem? (i := 18) rfl)))) (fun _ h9 => h9) rfl dX12_exact_31 ?_
        refine lv_iload_n hx hb dX12_exact_34 rfl (lv_at hl 1 rfl) ?_
        refine k_topi (y := nI m_17) em_17 ?_
        refine va_calli (va_runS (As := [.int (nI m_17)]) (rest := [.ref (gr g h0 4)]) ⟨hx, hb, hml, hown, hts⟩ (c_X12_at l dC dI g A hG f_6 m_17) (va_cwS 1 hts (gi_S (fun w_ h0_ => ⟨List.mem_cons_of_mem _ (List.mem_append_right _ (List.mem_append_right _ (List.mem_append_right _ (List.mem_append_right _ (List.mem_append_right _ (List.mem_append_right _ (List.mem_append_right _ (List.mem_append_left _ h0_)))))))), (tb_c_X12_at w_ h0_).2⟩) (List.mem_cons_of_mem _ (List.mem_append_left _ (List.mem_of_getElem? (i := 19) rfl))) (List.mem_cons_of_mem _ (List.mem_append_left _ (List.mem_of_getElem? (i := 20) rfl))) (List.mem_cons_of_mem _ (List.mem_append_left _ (List.mem_of_getElem? (i := 4) rfl)))) rfl rfl rfl (by decide +kernel) ⟨Nat.le_of_ble_eq_true rfl, Nat.le_of_ble_eq_true rfl⟩) ⟨fun a U g mk q => ⟨q.1, q.2.calling rfl rfl⟩, fun U hU hW => ⟨rfl, kIn.of hI hK hE hS hU hW⟩⟩ rfl rfl hl.1 rfl (lv_room (Nat.le_of_ble_eq_true rfl)) dX12_exact_35 ⟨Nat.le_of_ble_eq_true rfl, Nat.le_of_ble_eq_true rfl⟩) hS (fun q _ h => h) (fun q h => h) (fun r_34 u9 t H1 locs ht hvm w_33 hB hz1 hk1 hS => ?_)
        have hI : Iv dC dI g A f_6 t.heap := hB
        rw [ht] at hI
        generalize H1 = H at hI hS ⊢
        refine W.widen (k := 0) (n := 0) (Nat.le_of_ble_eq_true rfl) (Nat.le_of_ble_eq_true rfl) ?_
        have w_33 : r_34 = nI (6 + 43 * m_17) := w_33
        refine k_topi (y := nI (6 + 43 * m_17)) w_33 ?_
        refine lv_bipush (v := 11) hx hb dX12_exact_38 (by decide) ?_
        refine lv_iadd hx hb dX12_exact_40 ?_
        refine k_topi (y := nI (6 + 43 * m_17 + 11)) ((nI_add (6 + 43 * m_17) 11).trans (congrArg nI (by omega))) ?_
        refine k_lald hx hb hK hI i_1.1 1 k_10 rfl (vp_in_nI (by omega) (by omega)) dX12_exact_41 ?_
        refine k_topl (y := q (6 + 43 * m_17 + 11)) (congrArg q (nI_clamp (by omega))) ?_
        refine lv_goto (tgt := 48) hx hb dX12_exact_42 (by decide) ?_
        exact W.lret (v := (q (6 + 43 * m_17 + 11))) hx hb hr (fun t ht hW => ⟨⟨q (6 + 43 * m_17 + 11), (), rfl, trivial, ⟨f_6, k_ret ht hI, kp_8, 0, z1, z10, z12, z13, z14, z15, z16, z17, z18, z23, z24, z25, z26, q, u, im, kt, k_9, (by first | omega | decide), (by first | omega | decide), (by first | omega | decide), k_10, hc1_ok, k_11, k_12, k_13, hU⟩⟩, hS.F ht⟩) hS.2.2 dX12_exact_48
  · have c_16 := kc_eq rfl (by decide : Int32.toInt 0 = 0) c_16
    refine lv_ldc2 hx hb hown (hts (.constantLong RX12 291 (-9223372036854775808)) (List.mem_cons_of_mem _ (List.mem_append_left _ (List.mem_of_getElem? (i := 8) rfl)))) dX12_exact_13 ?_
    exact W.lret (v := (-9223372036854775808)) hx hb hr (fun t ht hW => ⟨⟨(-9223372036854775808), (), rfl, trivial, ⟨f_6, k_ret ht hI, kp_8, 0, z1, z10, z12, z13, z14, z15, z16, z17, z18, z23, z24, z25, z26, q, u, im, kt, k_9, (by first | omega | decide), (by first | omega | decide), (by first | omega | decide), k_10, hc1_ok, k_11, k_12, k_13, hU⟩⟩, hS.F ht⟩) hS.2.2 dX12_exact_16
theorem tw_955 : q_g (.code yX12_time cX12_time 4 (some .long)) := ⟨(List.mem_append_right _ (List.mem_of_getElem? (i := 1454) (by decide +kernel))), good_of_word (by decide +kernel)⟩
def ow_c_X12_time : List Cond := [.fieldLink RX12 67 "DeadlineShareModel" "thrown" "I", .methodLink RX12 105 yX12_heavy, .instanceMethod yX12_heavy, .selects RX12 yX12_heavy yX12_heavy, .initialized RX12, .methodLink RX12 101 yX12_sum, .instanceMethod yX12_sum, .selects RX12 yX12_sum yX12_sum, .methodLink RX12 115 yX12_down, .static yX12_down, .fieldLink RX12 16 "DeadlineShareModel" "row" "[J", .constantLong RX12 291 (-9223372036854775808)]
def wq_c_X12_time : List Cond := .code yX12_time cX12_time 4 (some .long) :: (ow_c_X12_time ++ (u_ws RX12 TX12 27 ++ (wq_c_X12_heavy ++ (wq_c_X12_sum ++ (wq_c_X12_down ++ ([] : List Cond))))))
theorem tb_c_X12_time : ∀ w ∈ wq_c_X12_time, q_g w := by
  unfold wq_c_X12_time ow_c_X12_time
  exact q_cons tw_955 (q_app (q_cons tw_927 (q_cons tw_752 (q_cons tw_751 (q_cons tw_750 (q_cons tw_728 (q_cons tw_755 (q_cons tw_754 (q_cons tw_753 (q_cons tw_765 (q_cons tw_764 (q_cons tw_731 (q_cons tw_953 q_nil)))))))))))) (q_app tu_X12 (q_app tb_c_X12_heavy (q_app tb_c_X12_sum (q_app tb_c_X12_down q_nil)))))
set_option maxHeartbeats 4000000 in
set_option maxRecDepth 100000 in
theorem c_X12_time (l : Launch) (dC : Nat → ClassId) (dI : Nat → Nat → Nat) (g : kG) (A : Nat → Prop) (hG : kWf g) (f : Nat → va_E) (h0 : Nat) (p1 : Int32) (z0 : Int32) (z1 : Int32) (z10 : Int32) (z12 : Int32) (z13 : Int32) (z14 : Int32) (z15 : Int32) (z16 : Int64) (z17 : Int32) (z18 : Int32) (z23 : Int32) (z24 : Int64) (z25 : Int64) (z26 : Int64) (q : Nat → Int64) (u : Nat → Int64) (im : Nat → Int64) (kt : Nat → Int32) (i_h0 : ik g 12 h0) (hc0 : f h0 = .inr (12, [.int z0, .int z1, .ref (gr g h0 2), .ref (gr g h0 3), .ref (gr g h0 4), .ref (gr g h0 5), .ref (gr g h0 6), .ref (gr g h0 7), .ref (gr g h0 8), .ref (gr g h0 9), .int z10, .ref (gr g h0 11), .int z12, .int z13, .int z14, .int z15, .long z16, .int z17, .int z18, .ref (gr g h0 19), .ref (gr g h0 20), .ref (gr g h0 21), .ref (gr g h0 22), .int z23, .long z24, .long z25, .long z26])) (hc0_10 : 0 ≤ z10.toInt ∧ z10.toInt ≤ 10) (hc0_12 : 0 ≤ z12.toInt ∧ z12.toInt ≤ 200) (hc0_23 : 0 ≤ z23.toInt ∧ z23.toInt ≤ 8) (hc1 : f (gr g h0 4) = .inl (gc g 1, 906, .inr (.inl q))) (hc1_ok : RowOK q) (hc2 : f (gr g h0 5) = .inl (gc g 1, 9060, .inr (.inl u))) (hc3 : f (gr g h0 7) = .inl (gc g 1, 1812, .inr (.inl im))) (hc4 : f (gr g h0 8) = .inl (gc g 3, 2, .inl kt)) (hU : UIq z10 u im kt) : Met l yX12_time wq_c_X12_time ({ frames := 3, cells := 0, slots := 0, locals := 64 } : Room) (va_Pc [.ref h0, .int p1] (fun U => kIn dC dI g A f U)) (va_Ql (fun (r : Int64) (_ : Unit) => True) (fun (_ : Unit) t => ∃ f1 : Nat → va_E, Iv dC dI g A f1 t.heap ∧ Kp g [12] f f1 ∧ ∃ (w0 : Int32) (w1 : Int32) (w10 : Int32) (w12 : Int32) (w13 : Int32) (w14 : Int32) (w15 : Int32) (w16 : Int64) (w17 : Int32) (w18 : Int32) (w23 : Int32) (w24 : Int64) (w25 : Int64) (w26 : Int64) (q1 : Nat → Int64) (u1 : Nat → Int64) (im1 : Nat → Int64) (ik1 : Nat → Int32), (f1 h0 = .inr (12, [.int w0, .int w1, .ref (gr g h0 2), .ref (gr g h0 3), .ref (gr g h0 4), .ref (gr g h0 5), .ref (gr g h0 6), .ref (gr g h0 7), .ref (gr g h0 8), .ref (gr g h0 9), .int w10, .ref (gr g h0 11), .int w12, .int w13, .int w14, .int w15, .long w16, .int w17, .int w18, .ref (gr g h0 19), .ref (gr g h0 20), .ref (gr g h0 21), .ref (gr g h0 22), .int w23, .long w24, .long w25, .long w26])) ∧ (0 ≤ w10.toInt ∧ w10.toInt ≤ 10) ∧ (0 ≤ w12.toInt ∧ w12.toInt ≤ 200) ∧ (0 ≤ w23.toInt ∧ w23.toInt ≤ 8) ∧ (f1 (gr g h0 4) = .inl (gc g 1, 906, .inr (.inl q1))) ∧ (RowOK q1) ∧ (f1 (gr g h0 5) = .inl (gc g 1, 9060, .inr (.inl u1))) ∧ (f1 (gr g h0 7) = .inl (gc g 1, 1812, .inr (.inl im1))) ∧ (f1 (gr g h0 8) = .inl (gc g 3, 2, .inl ik1)) ∧ (UIq w10 u1 im1 ik1)) A) 0 0 A := by
  refine Met.ofW (cc := cX12_time) (maxL := 4) (ret := (some .long)) (by decide) rfl ?_
  intro p e s m args below meth c s₁ B hml hv
  obtain ⟨rfl, hI, hK, hE⟩ := hv
  have hx := B.exec
  have hb := B.bytes
  have hr := B.returns
  have hts := atoms_spec (ws := wq_c_X12_time) B.pre
  have hown : s.vm.findClass RX12 = some m.cls := findClass_of_methodNamed B.named
  have hlocks := B.notSynchronized
  have hS : va_S A s.heap s.heap [] := va_S.rf
  have hk0 : Kp g [12] f f := Kp.rf
  have hl := lv_entry ([.ref h0, .int p1]) (n := 4) (Nat.le_of_ble_eq_true rfl)
  rw [lg_entry_eq]
  generalize (lg_sl ([.ref h0, .int p1]) ++ List.replicate (4 - (lg_sl ([.ref h0, .int p1])).length) Slot.unset).toArray = ls at hl ⊢
  have hl : lv_has ls 4 [(0, .ref h0), (1, .int p1)] := hl
  have i_1 := kw_12_4 hG i_h0
  have d_2 := rk_hd hc1_ok
  have i_3 := kw_12_5 hG i_h0
  have i_4 := kw_12_7 hG i_h0
  have i_5 := kw_12_8 hG i_h0
  refine lv_aload_n hx hb dX12_time_0 rfl (lv_at hl 0 rfl) ?_
  refine lv_iconst (v := 0) hx hb dX12_time_1 (by decide) ?_
  refine k_put (ci := 12) (v := .int 0) (ty := .int) (C := RX12) (T := TX12) (N := 27) hx hb hts (fun _ h0_ => List.mem_cons_of_mem _ (List.mem_append_right _ (List.mem_append_left _ h0_))) tyX12 tyX12_ok nmX12 hown hK hI hS i_h0.1 hc0 rfl 0 (by decide) (hts (.fieldLink RX12 67 "DeadlineShareModel" "thrown" "I") (List.mem_cons_of_mem _ (List.mem_append_left _ (List.mem_of_getElem? (i := 0) rfl)))) (fun _ h9 => h9) rfl (by decide +kernel) rfl rfl (Nat.le_of_ble_eq_true rfl) rfl (cl_12 i_h0 (by omega) (by omega) (by omega)) dX12_time_2 (fun f_6 H locs e_7 hI hS => ?_)
  have k_9 : f_6 h0 = .inr (12, [.int 0, .int z1, .ref (gr g h0 2), .ref (gr g h0 3), .ref (gr g h0 4), .ref (gr g h0 5), .ref (gr g h0 6), .ref (gr g h0 7), .ref (gr g h0 8), .ref (gr g h0 9), .int z10, .ref (gr g h0 11), .int z12, .int z13, .int z14, .int z15, .long z16, .int z17, .int z18, .ref (gr g h0 19), .ref (gr g h0 20), .ref (gr g h0 21), .ref (gr g h0 22), .int z23, .long z24, .long z25, .long z26]) := by rw [e_7]; exact va_up_self _ _ _
  have k_10 : f_6 (gr g h0 4) = .inl (gc g 1, 906, .inr (.inl q)) := by rw [e_7, va_up_ne _ _ (ik_ne i_1 i_h0 (by decide))]; exact hc1
  have k_11 : f_6 (gr g h0 5) = .inl (gc g 1, 9060, .inr (.inl u)) := by rw [e_7, va_up_ne _ _ (ik_ne i_3 i_h0 (by decide))]; exact hc2
  have k_12 : f_6 (gr g h0 7) = .inl (gc g 1, 1812, .inr (.inl im)) := by rw [e_7, va_up_ne _ _ (ik_ne i_4 i_h0 (by decide))]; exact hc3
  have k_13 : f_6 (gr g h0 8) = .inl (gc g 3, 2, .inl kt) := by rw [e_7, va_up_ne _ _ (ik_ne i_5 i_h0 (by decide))]; exact hc4
  have kp_8 := Kp.put hk0 i_h0 (by decide) e_7
  refine lv_aload_n hx hb dX12_time_5 rfl (lv_at hl 0 rfl) ?_
  refine va_calll (va_runV (As := []) (rest := []) ⟨hx, hb, hml, hown, hts⟩ (c_X12_heavy l dC dI g A hG f_6 h0 q i_h0 k_10 hc1_ok) (cwV 0 hts (gi_V (fun w_ h0_ => ⟨List.mem_cons_of_mem _ (List.mem_append_right _ (List.mem_append_right _ (List.mem_append_left _ h0_))), (tb_c_X12_heavy w_ h0_).2⟩) (List.mem_cons_of_mem _ (List.mem_append_left _ (List.mem_of_getElem? (i := 1) rfl))) (List.mem_cons_of_mem _ (List.mem_append_left _ (List.mem_of_getElem? (i := 2) rfl))) (List.mem_cons_of_mem _ (List.mem_append_left _ (List.mem_of_getElem? (i := 3) rfl))) (List.mem_cons_of_mem _ (List.mem_append_left _ (List.mem_of_getElem? (i := 4) rfl)))) rfl rfl rfl (by decide +kernel) ⟨Nat.le_of_ble_eq_true rfl, Nat.le_of_ble_eq_true rfl⟩) ⟨fun a U g mk q => ⟨q.1, q.2.calling rfl rfl⟩, k_recv hK hI i_h0.1 k_9 (ci := 12) rfl, fun U hU hW => ⟨rfl, kIn.of hI hK hE hS hU hW⟩⟩ rfl rfl hl.1 rfl (lv_room (Nat.le_of_ble_eq_true rfl)) dX12_time_6 ⟨Nat.le_of_ble_eq_true rfl, Nat.le_of_ble_eq_true rfl⟩) hS (fun q _ h => h) (fun q h => h) (fun r_15 u9 t H1 locs ht hvm w_14 hB hz1 hk1 hS => ?_)
  have hI : Iv dC dI g A f_6 t.heap := hB
  rw [ht] at hI
  generalize H1 = H at hI hS ⊢
  refine W.widen (k := 0) (n := 0) (Nat.le_of_ble_eq_true rfl) (Nat.le_of_ble_eq_true rfl) ?_
  have w_14 : 0 ≤ r_15.toInt ∧ r_15.toInt ≤ 96 ∧ ∀ t : Nat, (t : Int) < (q 0).toInt → (q (6 + 43 * t + 2)).toInt = 1 → 1 ≤ r_15.toInt := w_14
  refine lv_lstore_n (lv' := [(2, .long r_15), (0, .ref h0), (1, .int p1)]) hx hb dX12_time_9 rfl hl (by decide) rfl (fun ls hl => ?_)
  refine lv_iload_n hx hb dX12_time_10 rfl (lv_at hl 2 rfl) ?_
  by_cases h_16 : p1 = 0
  · refine k_topi (y := 0) h_16 ?_
    refine lv_tableIn (tgt := 40) hx hb dX12_time_11 (by decide) (by decide) rfl (by decide) ?_
    have h_16 := kc_eq rfl (by decide : Int32.toInt 0 = 0) h_16
    refine lv_lload_n hx hb dX12_time_40 rfl (lv_at hl 0 rfl) ?_
    refine lv_lconst (v := 0) hx hb dX12_time_41 (by decide) ?_
    refine W.lcmp hx hb dX12_time_42 ?_
    refine lv_if_ne (tgt := 55) hx hb dX12_time_43 (by decide) (fun c_17 => ?_) (fun c_17 => ?_)
    · have c_17 := ln_eq rfl (by decide : Int64.toInt 0 = 0) (fun h9 => c_17 ((lg_cmp_eq _ _).mpr h9))
      refine lv_aload_n hx hb dX12_time_55 rfl (lv_at hl 1 rfl) ?_
      refine va_calll (va_runV (As := []) (rest := []) ⟨hx, hb, hml, hown, hts⟩ (c_X12_sum l dC dI g A hG f_6 h0 q i_h0 k_10 hc1_ok) (cwV 0 hts (gi_V (fun w_ h0_ => ⟨List.mem_cons_of_mem _ (List.mem_append_right _ (List.mem_append_right _ (List.mem_append_right _ (List.mem_append_left _ h0_)))), (tb_c_X12_sum w_ h0_).2⟩) (List.mem_cons_of_mem _ (List.mem_append_left _ (List.mem_of_getElem? (i := 5) rfl))) (List.mem_cons_of_mem _ (List.mem_append_left _ (List.mem_of_getElem? (i := 6) rfl))) (List.mem_cons_of_mem _ (List.mem_append_left _ (List.mem_of_getElem? (i := 7) rfl))) (List.mem_cons_of_mem _ (List.mem_append_left _ (List.mem_of_getElem? (i := 4) rfl)))) rfl rfl rfl (by decide +kernel) ⟨Nat.le_of_ble_eq_true rfl, Nat.le_of_ble_eq_true rfl⟩) ⟨fun a U g mk q => ⟨q.1, q.2.calling rfl rfl⟩, k_recv hK hI i_h0.1 k_9 (ci := 12) rfl, fun U hU hW => ⟨rfl, kIn.of hI hK hE hS hU hW⟩⟩ rfl rfl hl.1 rfl (lv_room (Nat.le_of_ble_eq_true rfl)) dX12_time_56 ⟨Nat.le_of_ble_eq_true rfl, Nat.le_of_ble_eq_true rfl⟩) hS (fun q _ h => h) (fun q h => h) (fun r_19 u9 t H1 locs ht hvm w_18 hB hz1 hk1 hS => ?_)
      have hI : Iv dC dI g A f_6 t.heap := hB
      rw [ht] at hI
      generalize H1 = H at hI hS ⊢
      refine W.widen (k := 0) (n := 0) (Nat.le_of_ble_eq_true rfl) (Nat.le_of_ble_eq_true rfl) ?_
      refine lv_lload_n hx hb dX12_time_59 rfl (lv_at hl 0 rfl) ?_
      refine va_calll (va_runS (As := [.long r_19, .long r_15]) (rest := []) ⟨hx, hb, hml, hown, hts⟩ (c_X12_down l dC dI g A hG f_6 r_19 r_15 (by first | omega | decide | (simp only [k_c0, k_c1, k_cm1] <;> omega))) (va_cwS 2 hts (gi_S (fun w_ h0_ => ⟨List.mem_cons_of_mem _ (List.mem_append_right _ (List.mem_append_right _ (List.mem_append_right _ (List.mem_append_right _ (List.mem_append_left _ h0_))))), (tb_c_X12_down w_ h0_).2⟩) (List.mem_cons_of_mem _ (List.mem_append_left _ (List.mem_of_getElem? (i := 8) rfl))) (List.mem_cons_of_mem _ (List.mem_append_left _ (List.mem_of_getElem? (i := 9) rfl))) (List.mem_cons_of_mem _ (List.mem_append_left _ (List.mem_of_getElem? (i := 4) rfl)))) rfl rfl rfl (by decide +kernel) ⟨Nat.le_of_ble_eq_true rfl, Nat.le_of_ble_eq_true rfl⟩) ⟨fun a U g mk q => ⟨q.1, q.2.calling rfl rfl⟩, fun U hU hW => ⟨rfl, kIn.of hI hK hE hS hU hW⟩⟩ rfl rfl hl.1 rfl (lv_room (Nat.le_of_ble_eq_true rfl)) dX12_time_60 ⟨Nat.le_of_ble_eq_true rfl, Nat.le_of_ble_eq_true rfl⟩) hS (fun q _ h => h) (fun q h => h) (fun r_21 u9 t H1 locs ht hvm w_20 hB hz1 hk1 hS => ?_)
      have hI : Iv dC dI g A f_6 t.heap := hB
      rw [ht] at hI
      generalize H1 = H at hI hS ⊢
      refine W.widen (k := 0) (n := 0) (Nat.le_of_ble_eq_true rfl) (Nat.le_of_ble_eq_true rfl) ?_
      exact W.lret (v := r_21) hx hb hr (fun t ht hW => ⟨⟨r_21, (), rfl, trivial, ⟨f_6, k_ret ht hI, kp_8, 0, z1, z10, z12, z13, z14, z15, z16, z17, z18, z23, z24, z25, z26, q, u, im, kt, k_9, (by first | omega | decide), (by first | omega | decide), (by first | omega | decide), k_10, hc1_ok, k_11, k_12, k_13, hU⟩⟩, hS.F ht⟩) hS.2.2 dX12_time_63
    · have c_17 := lc_eq rfl (by decide : Int64.toInt 0 = 0) ((lg_cmp_eq _ _).mp c_17)
      refine lv_aload_n hx hb dX12_time_46 rfl (lv_at hl 1 rfl) ?_
      refine k_get (ci := 12) (v := .ref (gr g h0 4)) (C := RX12) (T := TX12) (N := 27) hx hb hts (fun _ h0_ => List.mem_cons_of_mem _ (List.mem_append_right _ (List.mem_append_left _ h0_))) hown hK hI i_h0.1 k_9 rfl 4 (by decide) (hts (.fieldLink RX12 16 "DeadlineShareModel" "row" "[J") (List.mem_cons_of_mem _ (List.mem_append_left _ (List.mem_of_getElem? (i := 10) rfl)))) (fun _ h9 => h9) rfl dX12_time_47 ?_
      refine lv_iconst (v := 2) hx hb dX12_time_50 (by decide) ?_
      refine k_lald hx hb hK hI i_1.1 1 k_10 rfl (by unfold vp_in; decide) dX12_time_51 ?_
      refine k_topl (y := q 2) (congrArg q (show Int32.toNatClampNeg 2 = 2 by decide)) ?_
      refine lv_goto (tgt := 63) hx hb dX12_time_52 (by decide) ?_
      exact W.lret (v := (q 2)) hx hb hr (fun t ht hW => ⟨⟨q 2, (), rfl, trivial, ⟨f_6, k_ret ht hI, kp_8, 0, z1, z10, z12, z13, z14, z15, z16, z17, z18, z23, z24, z25, z26, q, u, im, kt, k_9, (by first | omega | decide), (by first | omega | decide), (by first | omega | decide), k_10, hc1_ok, k_11, k_12, k_13, hU⟩⟩, hS.F ht⟩) hS.2.2 dX12_time_63
  by_cases h_24 : p1 = 1
  · refine k_topi (y := 1) h_24 ?_
    refine lv_tableIn (tgt := 64) hx hb dX12_time_11 (by decide) (by decide) rfl (by decide) ?_
    have h_24 := kc_eq rfl (by decide : Int32.toInt 1 = 1) h_24
    refine lv_lload_n hx hb dX12_time_64 rfl (lv_at hl 0 rfl) ?_
    refine lv_lconst (v := 0) hx hb dX12_time_65 (by decide) ?_
    refine W.lcmp hx hb dX12_time_66 ?_
    refine lv_if_ne (tgt := 74) hx hb dX12_time_67 (by decide) (fun c_25 => ?_) (fun c_25 => ?_)
    · have c_25 := ln_eq rfl (by decide : Int64.toInt 0 = 0) (fun h9 => c_25 ((lg_cmp_eq _ _).mpr h9))
      refine lv_aload_n hx hb dX12_time_74 rfl (lv_at hl 1 rfl) ?_
      refine va_calll (va_runV (As := []) (rest := []) ⟨hx, hb, hml, hown, hts⟩ (c_X12_sum l dC dI g A hG f_6 h0 q i_h0 k_10 hc1_ok) (cwV 0 hts (gi_V (fun w_ h0_ => ⟨List.mem_cons_of_mem _ (List.mem_append_right _ (List.mem_append_right _ (List.mem_append_right _ (List.mem_append_left _ h0_)))), (tb_c_X12_sum w_ h0_).2⟩) (List.mem_cons_of_mem _ (List.mem_append_left _ (List.mem_of_getElem? (i := 5) rfl))) (List.mem_cons_of_mem _ (List.mem_append_left _ (List.mem_of_getElem? (i := 6) rfl))) (List.mem_cons_of_mem _ (List.mem_append_left _ (List.mem_of_getElem? (i := 7) rfl))) (List.mem_cons_of_mem _ (List.mem_append_left _ (List.mem_of_getElem? (i := 4) rfl)))) rfl rfl rfl (by decide +kernel) ⟨Nat.le_of_ble_eq_true rfl, Nat.le_of_ble_eq_true rfl⟩) ⟨fun a U g mk q => ⟨q.1, q.2.calling rfl rfl⟩, k_recv hK hI i_h0.1 k_9 (ci := 12) rfl, fun U hU hW => ⟨rfl, kIn.of hI hK hE hS hU hW⟩⟩ rfl rfl hl.1 rfl (lv_room (Nat.le_of_ble_eq_true rfl)) dX12_time_75 ⟨Nat.le_of_ble_eq_true rfl, Nat.le_of_ble_eq_true rfl⟩) hS (fun q _ h => h) (fun q h => h) (fun r_27 u9 t H1 locs ht hvm w_26 hB hz1 hk1 hS => ?_)
      have hI : Iv dC dI g A f_6 t.heap := hB
      rw [ht] at hI
      generalize H1 = H at hI hS ⊢
      refine W.widen (k := 0) (n := 0) (Nat.le_of_ble_eq_true rfl) (Nat.le_of_ble_eq_true rfl) ?_
      refine lv_lload_n hx hb dX12_time_78 rfl (lv_at hl 0 rfl) ?_
      refine lv_aload_n hx hb dX12_time_79 rfl (lv_at hl 1 rfl) ?_
      refine va_calll (va_runV (As := []) (rest := [.long r_15, .long r_27]) ⟨hx, hb, hml, hown, hts⟩ (c_X12_sum l dC dI g A hG f_6 h0 q i_h0 k_10 hc1_ok) (cwV 0 hts (gi_V (fun w_ h0_ => ⟨List.mem_cons_of_mem _ (List.mem_append_right _ (List.mem_append_right _ (List.mem_append_right _ (List.mem_append_left _ h0_)))), (tb_c_X12_sum w_ h0_).2⟩) (List.mem_cons_of_mem _ (List.mem_append_left _ (List.mem_of_getElem? (i := 5) rfl))) (List.mem_cons_of_mem _ (List.mem_append_left _ (List.mem_of_getElem? (i := 6) rfl))) (List.mem_cons_of_mem _ (List.mem_append_left _ (List.mem_of_getElem? (i := 7) rfl))) (List.mem_cons_of_mem _ (List.mem_append_left _ (List.mem_of_getElem? (i := 4) rfl)))) rfl rfl rfl (by decide +kernel) ⟨Nat.le_of_ble_eq_true rfl, Nat.le_of_ble_eq_true rfl⟩) ⟨fun a U g mk q => ⟨q.1, q.2.calling rfl rfl⟩, k_recv hK hI i_h0.1 k_9 (ci := 12) rfl, fun U hU hW => ⟨rfl, kIn.of hI hK hE hS hU hW⟩⟩ rfl rfl hl.1 rfl (lv_room (Nat.le_of_ble_eq_true rfl)) dX12_time_80 ⟨Nat.le_of_ble_eq_true rfl, Nat.le_of_ble_eq_true rfl⟩) hS (fun q _ h => h) (fun q h => h) (fun r_29 u9 t H1 locs ht hvm w_28 hB hz1 hk1 hS => ?_)
      have hI : Iv dC dI g A f_6 t.heap := hB
      rw [ht] at hI
      generalize H1 = H at hI hS ⊢
      refine W.widen (k := 0) (n := 0) (Nat.le_of_ble_eq_true rfl) (Nat.le_of_ble_eq_true rfl) ?_
      refine lv_lload_n hx hb dX12_time_83 rfl (lv_at hl 0 rfl) ?_
      refine va_calll (va_runS (As := [.long r_29, .long r_15]) (rest := [.long r_15, .long r_27]) ⟨hx, hb, hml, hown, hts⟩ (c_X12_down l dC dI g A hG f_6 r_29 r_15 (by first | omega | decide | (simp only [k_c0, k_c1, k_cm1] <;> omega))) (va_cwS 2 hts (gi_S (fun w_ h0_ => ⟨List.mem_cons_of_mem _ (List.mem_append_right _ (List.mem_append_right _ (List.mem_append_right _ (List.mem_append_right _ (List.mem_append_left _ h0_))))), (tb_c_X12_down w_ h0_).2⟩) (List.mem_cons_of_mem _ (List.mem_append_left _ (List.mem_of_getElem? (i := 8) rfl))) (List.mem_cons_of_mem _ (List.mem_append_left _ (List.mem_of_getElem? (i := 9) rfl))) (List.mem_cons_of_mem _ (List.mem_append_left _ (List.mem_of_getElem? (i := 4) rfl)))) rfl rfl rfl (by decide +kernel) ⟨Nat.le_of_ble_eq_true rfl, Nat.le_of_ble_eq_true rfl⟩) ⟨fun a U g mk q => ⟨q.1, q.2.calling rfl rfl⟩, fun U hU hW => ⟨rfl, kIn.of hI hK hE hS hU hW⟩⟩ rfl rfl hl.1 rfl (lv_room (Nat.le_of_ble_eq_true rfl)) dX12_time_84 ⟨Nat.le_of_ble_eq_true rfl, Nat.le_of_ble_eq_true rfl⟩) hS (fun q _ h => h) (fun q h => h) (fun r_31 u9 t H1 locs ht hvm w_30 hB hz1 hk1 hS => ?_)
      have hI : Iv dC dI g A f_6 t.heap := hB
      rw [ht] at hI
      generalize H1 = H at hI hS ⊢
      refine W.widen (k := 0) (n := 0) (Nat.le_of_ble_eq_true rfl) (Nat.le_of_ble_eq_true rfl) ?_
      refine lv_lmul hx hb dX12_time_87 ?_
      refine lv_topl (fun v_32 ev_32 => ?_)
      refine lv_lsub hx hb dX12_time_88 ?_
      refine lv_topl (fun v_33 ev_33 => ?_)
      have tv_33 := l_sb r_27 v_32
      rw [← ev_33] at tv_33
      exact W.lret (v := v_33) hx hb hr (fun t ht hW => ⟨⟨v_33, (), rfl, trivial, ⟨f_6, k_ret ht hI, kp_8, 0, z1, z10, z12, z13, z14, z15, z16, z17, z18, z23, z24, z25, z26, q, u, im, kt, k_9, (by first | omega | decide), (by first | omega | decide), (by first | omega | decide), k_10, hc1_ok, k_11, k_12, k_13, hU⟩⟩, hS.F ht⟩) hS.2.2 dX12_time_89
    · have c_25 := lc_eq rfl (by decide : Int64.toInt 0 = 0) ((lg_cmp_eq _ _).mp c_25)
      refine lv_lconst (v := 0) hx hb dX12_time_70 (by decide) ?_
      refine lv_goto (tgt := 89) hx hb dX12_time_71 (by decide) ?_
      exact W.lret (v := 0) hx hb hr (fun t ht hW => ⟨⟨0, (), rfl, trivial, ⟨f_6, k_ret ht hI, kp_8, 0, z1, z10, z12, z13, z14, z15, z16, z17, z18, z23, z24, z25, z26, q, u, im, kt, k_9, (by first | omega | decide), (by first | omega | decide), (by first | omega | decide), k_10, hc1_ok, k_11, k_12, k_13, hU⟩⟩, hS.F ht⟩) hS.2.2 dX12_time_89
  by_cases h_34 : p1 = 2
  · refine k_topi (y := 2) h_34 ?_
    refine lv_tableIn (tgt := 90) hx hb dX12_time_11 (by decide) (by decide) rfl (by decide) ?_
    have h_34 := kc_eq rfl (by decide : Int32.toInt 2 = 2) h_34
    refine lv_lload_n hx hb dX12_time_90 rfl (lv_at hl 0 rfl) ?_
    exact W.lret (v := r_15) hx hb hr (fun t ht hW => ⟨⟨r_15, (), rfl, trivial, ⟨f_6, k_ret ht hI, kp_8, 0, z1, z10, z12, z13, z14, z15, z16, z17, z18, z23, z24, z25, z26, q, u, im, kt, k_9, (by first | omega | decide), (by first | omega | decide), (by first | omega | decide), k_10, hc1_ok, k_11, k_12, k_13, hU⟩⟩, hS.F ht⟩) hS.2.2 dX12_time_91
  by_cases h_35 : p1 = 3
  · refine k_topi (y := 3) h_35 ?_
    refine lv_tableIn (tgt := 92) hx hb dX12_time_11 (by decide) (by decide) rfl (by decide) ?_
    have h_35 := kc_eq rfl (by decide : Int32.toInt 3 = 3) h_35
    refine lv_aload_n hx hb dX12_time_92 rfl (lv_at hl 1 rfl) ?_
    refine k_get (ci := 12) (v := .ref (gr g h0 4)) (C := RX12) (T := TX12) (N := 27) hx hb hts (fun _ h0_ => List.mem_cons_of_mem _ (List.mem_append_right _ (List.mem_append_left _ h0_))) hown hK hI i_h0.1 k_9 rfl 4 (by decide) (hts (.fieldLink RX12 16 "DeadlineShareModel" "row" "[J") (List.mem_cons_of_mem _ (List.mem_append_left _ (List.mem_of_getElem? (i := 10) rfl)))) (fun _ h9 => h9) rfl dX12_time_93 ?_
    refine lv_iconst (v := 1) hx hb dX12_time_96 (by decide) ?_
    refine k_lald hx hb hK hI i_1.1 1 k_10 rfl (by unfold vp_in; decide) dX12_time_97 ?_
    refine k_topl (y := q 1) (congrArg q (show Int32.toNatClampNeg 1 = 1 by decide)) ?_
    exact W.lret (v := (q 1)) hx hb hr (fun t ht hW => ⟨⟨q 1, (), rfl, trivial, ⟨f_6, k_ret ht hI, kp_8, 0, z1, z10, z12, z13, z14, z15, z16, z17, z18, z23, z24, z25, z26, q, u, im, kt, k_9, (by first | omega | decide), (by first | omega | decide), (by first | omega | decide), k_10, hc1_ok, k_11, k_12, k_13, hU⟩⟩, hS.F ht⟩) hS.2.2 dX12_time_98
  have h_16 := kn_eq rfl (by decide : Int32.toInt 0 = 0) h_16
  have h_24 := kn_eq rfl (by decide : Int32.toInt 1 = 1) h_24
  have h_34 := kn_eq rfl (by decide : Int32.toInt 2 = 2) h_34
  have h_35 := kn_eq rfl (by decide : Int32.toInt 3 = 3) h_35
  refine lv_tableOut (tgt := 99) hx hb dX12_time_11 (by omega) (by decide) ?_
  refine lv_ldc2 hx hb hown (hts (.constantLong RX12 291 (-9223372036854775808)) (List.mem_cons_of_mem _ (List.mem_append_left _ (List.mem_of_getElem? (i := 11) rfl)))) dX12_time_99 ?_
  exact W.lret (v := (-9223372036854775808)) hx hb hr (fun t ht hW => ⟨⟨(-9223372036854775808), (), rfl, trivial, ⟨f_6, k_ret ht hI, kp_8, 0, z1, z10, z12, z13, z14, z15, z16, z17, z18, z23, z24, z25, z26, q, u, im, kt, k_9, (by first | omega | decide), (by first | omega | decide), (by first | omega | decide), k_10, hc1_ok, k_11, k_12, k_13, hU⟩⟩, hS.F ht⟩) hS.2.2 dX12_time_102
theorem tw_956 : q_g (.constantLong RX12 135 (8)) := ⟨(List.mem_append_right _ (List.mem_of_getElem? (i := 1221) (by decide +kernel))), good_of_word (by decide +kernel)⟩
theorem tw_957 : q_g (.code yX12_of cX12_of 6 (some .int)) := ⟨(List.mem_append_right _ (List.mem_of_getElem? (i := 1445) (by decide +kernel))), good_of_word (by decide +kernel)⟩
def ow_c_X12_of : List Cond := [.fieldLink RX12 67 "DeadlineShareModel" "thrown" "I", .methodLink RX12 142 yX12_isTask, .instanceMethod yX12_isTask, .selects RX12 yX12_isTask yX12_isTask, .initialized RX12, .methodLink RX12 87 yX12_at, .static yX12_at, .methodLink RX12 90 yX12_isOn, .instanceMethod yX12_isOn, .selects RX12 yX12_isOn yX12_isOn, .fieldLink RX12 16 "DeadlineShareModel" "row" "[J", .constantLong RX12 135 (8), .methodLink RX12 83 yX12_in, .static yX12_in, .constantLong RX12 122 (2)]
def wq_c_X12_of : List Cond := .code yX12_of cX12_of 6 (some .int) :: (ow_c_X12_of ++ (u_ws RX12 TX12 27 ++ (wq_c_X12_isTask ++ (wq_c_X12_at ++ (wq_c_X12_isOn ++ (wq_c_X12_in ++ ([] : List Cond)))))))
theorem tb_c_X12_of : ∀ w ∈ wq_c_X12_of, q_g w := by
  unfold wq_c_X12_of ow_c_X12_of
  exact q_cons tw_957 (q_app (q_cons tw_927 (q_cons tw_951 (q_cons tw_950 (q_cons tw_949 (q_cons tw_728 (q_cons tw_734 (q_cons tw_733 (q_cons tw_744 (q_cons tw_743 (q_cons tw_742 (q_cons tw_731 (q_cons tw_956 (q_cons tw_730 (q_cons tw_729 (q_cons tw_822 q_nil))))))))))))))) (q_app tu_X12 (q_app tb_c_X12_isTask (q_app tb_c_X12_at (q_app tb_c_X12_isOn (q_app tb_c_X12_in q_nil))))))
set_option maxHeartbeats 4000000 in
set_option maxRecDepth 100000 in
theorem c_X12_of (l : Launch) (dC : Nat → ClassId) (dI : Nat → Nat → Nat) (g : kG) (A : Nat → Prop) (hG : kWf g) (f : Nat → va_E) (h0 : Nat) (p1 : Int32) (p2 : Int32) (z0 : Int32) (z1 : Int32) (z10 : Int32) (z12 : Int32) (z13 : Int32) (z14 : Int32) (z15 : Int32) (z16 : Int64) (z17 : Int32) (z18 : Int32) (z23 : Int32) (z24 : Int64) (z25 : Int64) (z26 : Int64) (q : Nat → Int64) (u : Nat → Int64) (im : Nat → Int64) (kt : Nat → Int32) (i_h0 : ik g 12 h0) (hc0 : f h0 = .inr (12, [.int z0, .int z1, .ref (gr g h0 2), .ref (gr g h0 3), .ref (gr g h0 4), .ref (gr g h0 5), .ref (gr g h0 6), .ref (gr g h0 7), .ref (gr g h0 8), .ref (gr g h0 9), .int z10, .ref (gr g h0 11), .int z12, .int z13, .int z14, .int z15, .long z16, .int z17, .int z18, .ref (gr g h0 19), .ref (gr g h0 20), .ref (gr g h0 21), .ref (gr g h0 22), .int z23, .long z24, .long z25, .long z26])) (hc0_10 : 0 ≤ z10.toInt ∧ z10.toInt ≤ 10) (hc0_12 : 0 ≤ z12.toInt ∧ z12.toInt ≤ 200) (hc0_23 : 0 ≤ z23.toInt ∧ z23.toInt ≤ 8) (hc1 : f (gr g h0 4) = .inl (gc g 1, 906, .inr (.inl q))) (hc1_ok : RowOK q) (hc2 : f (gr g h0 5) = .inl (gc g 1, 9060, .inr (.inl u))) (hc3 : f (gr g h0 7) = .inl (gc g 1, 1812, .inr (.inl im))) (hc4 : f (gr g h0 8) = .inl (gc g 3, 2, .inl kt)) (hU : UIq z10 u im kt) : Met l yX12_of wq_c_X12_of ({ frames := 2, cells := 0, slots := 0, locals := 46 } : Room) (va_Pc [.ref h0, .int p1, .int p2] (fun U => kIn dC dI g A f U)) (va_Qi (fun (r : Int32) (_ : Unit) => True) (fun (_ : Unit) t => ∃ f1 : Nat → va_E, Iv dC dI g A f1 t.heap ∧ Kp g [12] f f1 ∧ ∃ (w0 : Int32) (w1 : Int32) (w10 : Int32) (w12 : Int32) (w13 : Int32) (w14 : Int32) (w15 : Int32) (w16 : Int64) (w17 : Int32) (w18 : Int32) (w23 : Int32) (w24 : Int64) (w25 : Int64) (w26 : Int64) (q1 : Nat → Int64) (u1 : Nat → Int64) (im1 : Nat → Int64) (ik1 : Nat → Int32), (f1 h0 = .inr (12, [.int w0, .int w1, .ref (gr g h0 2), .ref (gr g h0 3), .ref (gr g h0 4), .ref (gr g h0 5), .ref (gr g h0 6), .ref (gr g h0 7), .ref (gr g h0 8), .ref (gr g h0 9), .int w10, .ref (gr g h0 11), .int w12, .int w13, .int w14, .int w15, .long w16, .int w17, .int w18, .ref (gr g h0 19), .ref (gr g h0 20), .ref (gr g h0 21), .ref (gr g h0 22), .int w23, .long w24, .long w25, .long w26])) ∧ (0 ≤ w10.toInt ∧ w10.toInt ≤ 10) ∧ (0 ≤ w12.toInt ∧ w12.toInt ≤ 200) ∧ (0 ≤ w23.toInt ∧ w23.toInt ≤ 8) ∧ (f1 (gr g h0 4) = .inl (gc g 1, 906, .inr (.inl q1))) ∧ (RowOK q1) ∧ (f1 (gr g h0 5) = .inl (gc g 1, 9060, .inr (.inl u1))) ∧ (f1 (gr g h0 7) = .inl (gc g 1, 1812, .inr (.inl im1))) ∧ (f1 (gr g h0 8) = .inl (gc g 3, 2, .inl ik1)) ∧ (UIq w10 u1 im1 ik1)) A) 0 0 A := by
  refine Met.ofW (cc := cX12_of) (maxL := 6) (ret := (some .int)) (by decide) rfl ?_
  intro p e s m args below meth c s₁ B hml hv
  obtain ⟨rfl, hI, hK, hE⟩ := hv
  have hx := B.exec
  have hb := B.bytes
  have hr := B.returns
  have hts := atoms_spec (ws := wq_c_X12_of) B.pre
  have hown : s.vm.findClass RX12 = some m.cls := findClass_of_methodNamed B.named
  have hlocks := B.notSynchronized
  have hS : va_S A s.heap s.heap [] := va_S.rf
  have hk0 : Kp g [12] f f := Kp.rf
  have hl := lv_entry ([.ref h0, .int p1, .int p2]) (n := 6) (Nat.le_of_ble_eq_true rfl)
  rw [lg_entry_eq]
  generalize (lg_sl ([.ref h0, .int p1, .int p2]) ++ List.replicate (6 - (lg_sl ([.ref h0, .int p1, .int p2])).length) Slot.unset).toArray = ls at hl ⊢
  have hl : lv_has ls 6 [(0, .ref h0), (1, .int p1), (2, .int p2)] := hl
  have i_1 := kw_12_4 hG i_h0
  have d_2 := rk_hd hc1_ok
  have i_3 := kw_12_5 hG i_h0
  have i_4 := kw_12_7 hG i_h0
  have i_5 := kw_12_8 hG i_h0
  refine lv_aload_n hx hb dX12_of_0 rfl (lv_at hl 0 rfl) ?_
  refine lv_iconst (v := 0) hx hb dX12_of_1 (by decide) ?_
  refine k_put (ci := 12) (v := .int 0) (ty := .int) (C := RX12) (T := TX12) (N := 27) hx hb hts (fun _ h0_ => List.mem_cons_of_mem _ (List.mem_append_right _ (List.mem_append_left _ h0_))) tyX12 tyX12_ok nmX12 hown hK hI hS i_h0.1 hc0 rfl 0 (by decide) (hts (.fieldLink RX12 67 "DeadlineShareModel" "thrown" "I") (List.mem_cons_of_mem _ (List.mem_append_left _ (List.mem_of_getElem? (i := 0) rfl)))) (fun _ h9 => h9) rfl (by decide +kernel) rfl rfl (Nat.le_of_ble_eq_true rfl) rfl (cl_12 i_h0 (by omega) (by omega) (by omega)) dX12_of_2 (fun f_6 H locs e_7 hI hS => ?_)
  have k_9 : f_6 h0 = .inr (12, [.int 0, .int z1, .ref (gr g h0 2), .ref (gr g h0 3), .ref (gr g h0 4), .ref (gr g h0 5), .ref (gr g h0 6), .ref (gr g h0 7), .ref (gr g h0 8), .ref (gr g h0 9), .int z10, .ref (gr g h0 11), .int z12, .int z13, .int z14, .int z15, .long z16, .int z17, .int z18, .ref (gr g h0 19), .ref (gr g h0 20), .ref (gr g h0 21), .ref (gr g h0 22), .int z23, .long z24, .long z25, .long z26]) := by rw [e_7]; exact va_up_self _ _ _
  have k_10 : f_6 (gr g h0 4) = .inl (gc g 1, 906, .inr (.inl q)) := by rw [e_7, va_up_ne _ _ (ik_ne i_1 i_h0 (by decide))]; exact hc1
  have k_11 : f_6 (gr g h0 5) = .inl (gc g 1, 9060, .inr (.inl u)) := by rw [e_7, va_up_ne _ _ (ik_ne i_3 i_h0 (by decide))]; exact hc2
  have k_12 : f_6 (gr g h0 7) = .inl (gc g 1, 1812, .inr (.inl im)) := by rw [e_7, va_up_ne _ _ (ik_ne i_4 i_h0 (by decide))]; exact hc3
  have k_13 : f_6 (gr g h0 8) = .inl (gc g 3, 2, .inl kt) := by rw [e_7, va_up_ne _ _ (ik_ne i_5 i_h0 (by decide))]; exact hc4
  have kp_8 := Kp.put hk0 i_h0 (by decide) e_7
  refine lv_aload_n hx hb dX12_of_5 rfl (lv_at hl 0 rfl) ?_
  refine lv_iload_n hx hb dX12_of_6 rfl (lv_at hl 1 rfl) ?_
  refine va_calli (va_runV (As := [.int p1]) (rest := []) ⟨hx, hb, hml, hown, hts⟩ (c_X12_isTask l dC dI g A hG f_6 h0 p1 q i_h0 k_10 hc1_ok) (cwV 1 hts (gi_V (fun w_ h0_ => ⟨List.mem_cons_of_mem _ (List.mem_append_right _ (List.mem_append_right _ (List.mem_append_left _ h0_))), (tb_c_X12_isTask w_ h0_).2⟩) (List.mem_cons_of_mem _ (List.mem_append_left _ (List.mem_of_getElem? (i := 1) rfl))) (List.mem_cons_of_mem _ (List.mem_append_left _ (List.mem_of_getElem? (i := 2) rfl))) (List.mem_cons_of_mem _ (List.mem_append_left _ (List.mem_of_getElem? (i := 3) rfl))) (List.mem_cons_of_mem _ (List.mem_append_left _ (List.mem_of_getElem? (i := 4) rfl)))) rfl rfl rfl (by decide +kernel) ⟨Nat.le_of_ble_eq_true rfl, Nat.le_of_ble_eq_true rfl⟩) ⟨fun a U g mk q => ⟨q.1, q.2.calling rfl rfl⟩, k_recv hK hI i_h0.1 k_9 (ci := 12) rfl, fun U hU hW => ⟨rfl, kIn.of hI hK hE hS hU hW⟩⟩ rfl rfl hl.1 rfl (lv_room (Nat.le_of_ble_eq_true rfl)) dX12_of_7 ⟨Nat.le_of_ble_eq_true rfl, Nat.le_of_ble_eq_true rfl⟩) hS (fun q _ h => h) (fun q h => h) (fun r_15 u9 t H1 locs ht hvm w_14 hB hz1 hk1 hS => ?_)
  have hI : Iv dC dI g A f_6 t.heap := hB
  rw [ht] at hI
  generalize H1 = H at hI hS ⊢
  refine W.widen (k := 0) (n := 0) (Nat.le_of_ble_eq_true rfl) (Nat.le_of_ble_eq_true rfl) ?_
  have w_14 : (r_15.toInt = 0 ∨ r_15.toInt = 1) ∧ (r_15.toInt = 0 ∨ (0 ≤ p1.toInt ∧ p1.toInt < (q 0).toInt)) := w_14
  refine lv_if_ne (tgt := 15) hx hb dX12_of_10 (by decide) (fun c_16 => ?_) (fun c_16 => ?_)
  · have c_16 := kn_eq rfl (by decide : Int32.toInt 0 = 0) c_16
    obtain ⟨m_17, em_17, tm_17⟩ := k_nat (x := p1) (by omega)
    refine lv_iload_n hx hb dX12_of_15 rfl (lv_at hl 1 rfl) ?_
    refine k_topi (y := nI m_17) em_17 ?_
    refine va_calli (va_runS (As := [.int (nI m_17)]) (rest := []) ⟨hx, hb, hml, hown, hts⟩ (c_X12_at l dC dI g A hG f_6 m_17) (va_cwS 1 hts (gi_S (fun w_ h0_ => ⟨List.mem_cons_of_mem _ (List.mem_append_right _ (List.mem_append_right _ (List.mem_append_right _ (List.mem_append_left _ h0_)))), (tb_c_X12_at w_ h0_).2⟩) (List.mem_cons_of_mem _ (List.mem_append_left _ (List.mem_of_getElem? (i := 5) rfl))) (List.mem_cons_of_mem _ (List.mem_append_left _ (List.mem_of_getElem? (i := 6) rfl))) (List.mem_cons_of_mem _ (List.mem_append_left _ (List.mem_of_getElem? (i := 4) rfl)))) rfl rfl rfl (by decide +kernel) ⟨Nat.le_of_ble_eq_true rfl, Nat.le_of_ble_eq_true rfl⟩) ⟨fun a U g mk q => ⟨q.1, q.2.calling rfl rfl⟩, fun U hU hW => ⟨rfl, kIn.of hI hK hE hS hU hW⟩⟩ rfl rfl hl.1 rfl (lv_room (Nat.le_of_ble_eq_true rfl)) dX12_of_16 ⟨Nat.le_of_ble_eq_true rfl, Nat.le_of_ble_eq_true rfl⟩) hS (fun q _ h => h) (fun q h => h) (fun r_19 u9 t H1 locs ht hvm w_18 hB hz1 hk1 hS => ?_)
    have hI : Iv dC dI g A f_6 t.heap := hB
    rw [ht] at hI
    generalize H1 = H at hI hS ⊢
    refine W.widen (k := 0) (n := 0) (Nat.le_of_ble_eq_true rfl) (Nat.le_of_ble_eq_true rfl) ?_
    have w_18 : r_19 = nI (6 + 43 * m_17) := w_18
    refine k_topi (y := nI (6 + 43 * m_17)) w_18 ?_
    refine lv_istore_n (lv' := [(3, .int (nI (6 + 43 * m_17))), (0, .ref h0), (1, .int p1), (2, .int p2)]) hx hb dX12_of_19 rfl hl (by decide) rfl (fun ls hl => ?_)
    refine lv_aload_n hx hb dX12_of_20 rfl (lv_at hl 1 rfl) ?_
    refine lv_iload_n hx hb dX12_of_21 rfl (lv_at hl 2 rfl) ?_
    refine k_topi (y := nI m_17) em_17 ?_
    refine va_calli (va_runV (As := [.int (nI m_17)]) (rest := []) ⟨hx, hb, hml, hown, hts⟩ (c_X12_isOn l dC dI g A hG f_6 h0 m_17 q i_h0 k_10 hc1_ok (by first | omega | decide | (simp only [k_c0, k_c1, k_cm1] <;> omega))) (cwV 1 hts (gi_V (fun w_ h0_ => ⟨List.mem_cons_of_mem _ (List.mem_append_right _ (List.mem_append_right _ (List.mem_append_right _ (List.mem_append_right _ (List.mem_append_left _ h0_))))), (tb_c_X12_isOn w_ h0_).2⟩) (List.mem_cons_of_mem _ (List.mem_append_left _ (List.mem_of_getElem? (i := 7) rfl))) (List.mem_cons_of_mem _ (List.mem_append_left _ (List.mem_of_getElem? (i := 8) rfl))) (List.mem_cons_of_mem _ (List.mem_append_left _ (List.mem_of_getElem? (i := 9) rfl))) (List.mem_cons_of_mem _ (List.mem_append_left _ (List.mem_of_getElem? (i := 4) rfl)))) rfl rfl rfl (by decide +kernel) ⟨Nat.le_of_ble_eq_true rfl, Nat.le_of_ble_eq_true rfl⟩) ⟨fun a U g mk q => ⟨q.1, q.2.calling rfl rfl⟩, k_recv hK hI i_h0.1 k_9 (ci := 12) rfl, fun U hU hW => ⟨rfl, kIn.of hI hK hE hS hU hW⟩⟩ rfl rfl hl.1 rfl (lv_room (Nat.le_of_ble_eq_true rfl)) dX12_of_22 ⟨Nat.le_of_ble_eq_true rfl, Nat.le_of_ble_eq_true rfl⟩) hS (fun q _ h => h) (fun q h => h) (fun r_21 u9 t H1 locs ht hvm w_20 hB hz1 hk1 hS => ?_)
    have hI : Iv dC dI g A f_6 t.heap := hB
    rw [ht] at hI
    generalize H1 = H at hI hS ⊢
    refine W.widen (k := 0) (n := 0) (Nat.le_of_ble_eq_true rfl) (Nat.le_of_ble_eq_true rfl) ?_
    have w_20 : (r_21.toInt = 0 ∧ (q (6 + 43 * m_17 + 2)).toInt ≠ 1) ∨ (r_21.toInt = 1 ∧ (q (6 + 43 * m_17 + 2)).toInt = 1) := w_20
    refine lv_istore (lv' := [(4, .int r_21), (3, .int (nI (6 + 43 * m_17))), (0, .ref h0), (1, .int p1), (2, .int p2)]) hx hb dX12_of_25 hl (by decide) rfl (fun ls hl => ?_)
    refine lv_aload_n hx hb dX12_of_27 rfl (lv_at hl 2 rfl) ?_
    refine k_get (ci := 12) (v := .ref (gr g h0 4)) (C := RX12) (T := TX12) (N := 27) hx hb hts (fun _ h0_ => List.mem_cons_of_mem _ (List.mem_append_right _ (List.mem_append_left _ h0_))) hown hK hI i_h0.1 k_9 rfl 4 (by decide) (hts (.fieldLink RX12 16 "DeadlineShareModel" "row" "[J") (List.mem_cons_of_mem _ (List.mem_append_left _ (List.mem_of_getElem? (i := 10) rfl)))) (fun _ h9 => h9) rfl dX12_of_28 ?_
    refine lv_iload_n hx hb dX12_of_31 rfl (lv_at hl 1 rfl) ?_
    refine lv_bipush (v := 13) hx hb dX12_of_32 (by decide) ?_
    refine lv_iadd hx hb dX12_of_34 ?_
    refine k_topi (y := nI (6 + 43 * m_17 + 13)) ((nI_add (6 + 43 * m_17) 13).trans (congrArg nI (by omega))) ?_
    refine k_lald hx hb hK hI i_1.1 1 k_10 rfl (vp_in_nI (by omega) (by omega)) dX12_of_35 ?_
    refine k_topl (y := q (6 + 43 * m_17 + 13)) (congrArg q (nI_clamp (by omega))) ?_
    have d_24 := rk_13 hc1_ok (t := m_17) (by omega)
    refine lv_lconst (v := 0) hx hb dX12_of_36 (by decide) ?_
    refine W.lcmp hx hb dX12_of_37 ?_
    have J_46 : ∀ (y_25 : Int32) (H : Heap) (locs : List Loc) (ls : Array Slot), Iv dC dI g A f_6 H → va_S A s.heap H locs → lv_has ls 6 [(4, .int r_21), (3, .int (nI (6 + 43 * m_17))), (0, .ref h0), (1, .int p1), (2, .int p2)] → W p l e (headSpec wq_c_X12_of ({ frames := 2, cells := 0, slots := 0, locals := 46 } : Room)).room s m ([.ref h0, .int p1, .int p2].toArray) below meth c H locs 0 0 (MQ below (va_Qi (fun (r : Int32) (_ : Unit) => True) (fun (_ : Unit) t => ∃ f1 : Nat → va_E, Iv dC dI g A f1 t.heap ∧ Kp g [12] f f1 ∧ ∃ (w0 : Int32) (w1 : Int32) (w10 : Int32) (w12 : Int32) (w13 : Int32) (w14 : Int32) (w15 : Int32) (w16 : Int64) (w17 : Int32) (w18 : Int32) (w23 : Int32) (w24 : Int64) (w25 : Int64) (w26 : Int64) (q1 : Nat → Int64) (u1 : Nat → Int64) (im1 : Nat → Int64) (ik1 : Nat → Int32), (f1 h0 = .inr (12, [.int w0, .int w1, .ref (gr g h0 2), .ref (gr g h0 3), .ref (gr g h0 4), .ref (gr g h0 5), .ref (gr g h0 6), .ref (gr g h0 7), .ref (gr g h0 8), .ref (gr g h0 9), .int w10, .ref (gr g h0 11), .int w12, .int w13, .int w14, .int w15, .long w16, .int w17, .int w18, .ref (gr g h0 19), .ref (gr g h0 20), .ref (gr g h0 21), .ref (gr g h0 22), .int w23, .long w24, .long w25, .long w26])) ∧ (0 ≤ w10.toInt ∧ w10.toInt ≤ 10) ∧ (0 ≤ w12.toInt ∧ w12.toInt ≤ 200) ∧ (0 ≤ w23.toInt ∧ w23.toInt ≤ 8) ∧ (f1 (gr g h0 4) = .inl (gc g 1, 906, .inr (.inl q1))) ∧ (RowOK q1) ∧ (f1 (gr g h0 5) = .inl (gc g 1, 9060, .inr (.inl u1))) ∧ (f1 (gr g h0 7) = .inl (gc g 1, 1812, .inr (.inl im1))) ∧ (f1 (gr g h0 8) = .inl (gc g 3, 2, .inl ik1)) ∧ (UIq w10 u1 im1 ik1)) A) ([.ref h0, .int p1, .int p2].toArray) s 0 0 A) (F0 m 46 ls [.int y_25]) := by
      intro y_25 H locs ls hI hS  hl
      refine lv_istore (lv' := [(5, .int y_25), (4, .int r_21), (3, .int (nI (6 + 43 * m_17))), (0, .ref h0), (1, .int p1), (2, .int p2)]) hx hb dX12_of_46 hl (by decide) rfl (fun ls hl => ?_)
      refine lv_iload_n hx hb dX12_of_48 rfl (lv_at hl 5 rfl) ?_
      by_cases h_26 : p2 = 3
      · refine k_topi (y := 3) h_26 ?_
        refine lv_tableIn (tgt := 112) hx hb dX12_of_49 (by decide) (by decide) rfl (by decide) ?_
        have h_26 := kc_eq rfl (by decide : Int32.toInt 3 = 3) h_26
        refine lv_iload hx hb dX12_of_112 (lv_at hl 1 rfl) ?_
        refine lv_if_eq (tgt := 129) hx hb dX12_of_114 (by decide) (fun c_27 => ?_) (fun c_27 => ?_)
        · have c_27 := kc_eq rfl (by decide : Int32.toInt 0 = 0) c_27
          refine lv_iconst (v := (-1)) hx hb dX12_of_129 (by decide) ?_
          exact W.iret (v := (-1)) hx hb hr (fun t ht hW => ⟨⟨(-1), (), rfl, trivial, ⟨f_6, k_ret ht hI, kp_8, 0, z1, z10, z12, z13, z14, z15, z16, z17, z18, z23, z24, z25, z26, q, u, im, kt, k_9, (by first | omega | decide), (by first | omega | decide), (by first | omega | decide), k_10, hc1_ok, k_11, k_12, k_13, hU⟩⟩, hS.F ht⟩) hS.2.2 dX12_of_130
        · have c_27 := kn_eq rfl (by decide : Int32.toInt 0 = 0) c_27
          refine lv_aload_n hx hb dX12_of_117 rfl (lv_at hl 3 rfl) ?_
          refine k_get (ci := 12) (v := .ref (gr g h0 4)) (C := RX12) (T := TX12) (N := 27) hx hb hts (fun _ h0_ => List.mem_cons_of_mem _ (List.mem_append_right _ (List.mem_append_left _ h0_))) hown hK hI i_h0.1 k_9 rfl 4 (by decide) (hts (.fieldLink RX12 16 "DeadlineShareModel" "row" "[J") (List.mem_cons_of_mem _ (List.mem_append_left _ (List.mem_of_getElem? (i := 10) rfl)))) (fun _ h9 => h9) rfl dX12_of_118 ?_
          refine lv_iload_n hx hb dX12_of_121 rfl (lv_at hl 2 rfl) ?_
          refine lv_iconst (v := 3) hx hb dX12_of_122 (by decide) ?_
          refine lv_iadd hx hb dX12_of_123 ?_
          refine k_topi (y := nI (6 + 43 * m_17 + 3)) ((nI_add (6 + 43 * m_17) 3).trans (congrArg nI (by omega))) ?_
          refine k_lald hx hb hK hI i_1.1 1 k_10 rfl (vp_in_nI (by omega) (by omega)) dX12_of_124 ?_
          refine k_topl (y := q (6 + 43 * m_17 + 3)) (congrArg q (nI_clamp (by omega))) ?_
          refine lv_l2i (v := (q (6 + 43 * m_17 + 3)).toInt32) hx hb dX12_of_125 rfl ?_
          refine lv_topi (fun v_30 ev_30 => ?_)
          have tv_30 := k_l2i (q (6 + 43 * m_17 + 3))
          rw [← ev_30] at tv_30
          refine lv_goto (tgt := 130) hx hb dX12_of_126 (by decide) ?_
          exact W.iret (v := v_30) hx hb hr (fun t ht hW => ⟨⟨v_30, (), rfl, trivial, ⟨f_6, k_ret ht hI, kp_8, 0, z1, z10, z12, z13, z14, z15, z16, z17, z18, z23, z24, z25, z26, q, u, im, kt, k_9, (by first | omega | decide), (by first | omega | decide), (by first | omega | decide), k_10, hc1_ok, k_11, k_12, k_13, hU⟩⟩, hS.F ht⟩) hS.2.2 dX12_of_130
      by_cases h_31 : p2 = 4
      · refine k_topi (y := 4) h_31 ?_
        refine lv_tableIn (tgt := 297) hx hb dX12_of_49 (by decide) (by decide) rfl (by decide) ?_
        have h_31 := kc_eq rfl (by decide : Int32.toInt 4 = 4) h_31
        refine lv_iload_n hx hb dX12_of_297 rfl (lv_at hl 5 rfl) ?_
        refine lv_i2l (v := p2.toInt64) hx hb dX12_of_298 rfl ?_
        have t_32 := Int32.toInt_toInt64 p2
        have g_33 := Int32.toInt_lt p2
        have g_34 := Int32.le_toInt p2
        refine lv_lconst (v := 0) hx hb dX12_of_299 (by decide) ?_
        refine lv_ldc2 hx hb hown (hts (.constantLong RX12 135 (8)) (List.mem_cons_of_mem _ (List.mem_append_left _ (List.mem_of_getElem? (i := 11) rfl)))) dX12_of_300 ?_
        refine va_calli (va_runS (As := [.long p2.toInt64, .long 0, .long 8]) (rest := []) ⟨hx, hb, hml, hown, hts⟩ (c_X12_in l dC dI g A hG f_6 p2.toInt64 0 8) (va_cwS 3 hts (gi_S (fun w_ h0_ => ⟨List.mem_cons_of_mem _ (List.mem_append_right _ (List.mem_append_right _ (List.mem_append_right _ (List.mem_append_right _ (List.mem_append_right _ (List.mem_append_left _ h0_)))))), (tb_c_X12_in w_ h0_).2⟩) (List.mem_cons_of_mem _ (List.mem_append_left _ (List.mem_of_getElem? (i := 12) rfl))) (List.mem_cons_of_mem _ (List.mem_append_left _ (List.mem_of_getElem? (i := 13) rfl))) (List.mem_cons_of_mem _ (List.mem_append_left _ (List.mem_of_getElem? (i := 4) rfl)))) rfl rfl rfl (by decide +kernel) ⟨Nat.le_of_ble_eq_true rfl, Nat.le_of_ble_eq_true rfl⟩) ⟨fun a U g mk q => ⟨q.1, q.2.calling rfl rfl⟩, fun U hU hW => ⟨rfl, kIn.of hI hK hE hS hU hW⟩⟩ rfl rfl hl.1 rfl (lv_room (Nat.le_of_ble_eq_true rfl)) dX12_of_303 ⟨Nat.le_of_ble_eq_true rfl, Nat.le_of_ble_eq_true rfl⟩) hS (fun q _ h => h) (fun q h => h) (fun r_36 u9 t H1 locs ht hvm w_35 hB hz1 hk1 hS => ?_)
        have hI : Iv dC dI g A f_6 t.heap := hB
        rw [ht] at hI
        generalize H1 = H at hI hS ⊢
        refine W.widen (k := 0) (n := 0) (Nat.le_of_ble_eq_true rfl) (Nat.le_of_ble_eq_true rfl) ?_
        have w_35 : (r_36.toInt = 0 ∧ (p2.toInt64.toInt < (0 : Int64).toInt ∨ (8 : Int64).toInt < p2.toInt64.toInt)) ∨ (r_36.toInt = 1 ∧ (0 : Int64).toInt ≤ p2.toInt64.toInt ∧ p2.toInt64.toInt ≤ (8 : Int64).toInt) := w_35
        have g_37 : Int64.toInt (0) = 0 := by decide
        have g_38 : Int64.toInt (8) = 8 := by decide
        refine lv_if_eq (tgt := 321) hx hb dX12_of_306 (by decide) (fun c_39 => ?_) (fun c_39 => ?_)
        · have c_39 := kc_eq rfl (by decide : Int32.toInt 0 = 0) c_39
          refine lv_iconst (v := (-1)) hx hb dX12_of_321 (by decide) ?_
          exact W.iret (v := (-1)) hx hb hr (fun t ht hW => ⟨⟨(-1), (), rfl, trivial, ⟨f_6, k_ret ht hI, kp_8, 0, z1, z10, z12, z13, z14, z15, z16, z17, z18, z23, z24, z25, z26, q, u, im, kt, k_9, (by first | omega | decide), (by first | omega | decide), (by first | omega | decide), k_10, hc1_ok, k_11, k_12, k_13, hU⟩⟩, hS.F ht⟩) hS.2.2 dX12_of_322
        · have c_39 := kn_eq rfl (by decide : Int32.toInt 0 = 0) c_39
          refine lv_aload_n hx hb dX12_of_309 rfl (lv_at hl 3 rfl) ?_
          refine k_get (ci := 12) (v := .ref (gr g h0 4)) (C := RX12) (T := TX12) (N := 27) hx hb hts (fun _ h0_ => List.mem_cons_of_mem _ (List.mem_append_right _ (List.mem_append_left _ h0_))) hown hK hI i_h0.1 k_9 rfl 4 (by decide) (hts (.fieldLink RX12 16 "DeadlineShareModel" "row" "[J") (List.mem_cons_of_mem _ (List.mem_append_left _ (List.mem_of_getElem? (i := 10) rfl)))) (fun _ h9 => h9) rfl dX12_of_310 ?_
          refine lv_iload_n hx hb dX12_of_313 rfl (lv_at hl 2 rfl) ?_
          obtain ⟨m_42, em_42, tm_42⟩ := k_nat (x := p2) (by omega)
          refine lv_iload_n hx hb dX12_of_314 rfl (lv_at hl 5 rfl) ?_
          refine k_topi (y := nI m_42) em_42 ?_
          refine lv_iadd hx hb dX12_of_315 ?_
          refine k_topi (y := nI (6 + 43 * m_17 + m_42)) ((nI_add (6 + 43 * m_17) m_42).trans (congrArg nI (by omega))) ?_
          refine k_lald hx hb hK hI i_1.1 1 k_10 rfl (vp_in_nI (by omega) (by omega)) dX12_of_316 ?_
          refine k_topl (y := q (6 + 43 * m_17 + m_42)) (congrArg q (nI_clamp (by omega))) ?_
          refine lv_l2i (v := (q (6 + 43 * m_17 + m_42)).toInt32) hx hb dX12_of_317 rfl ?_
          refine lv_topi (fun v_43 ev_43 => ?_)
          have tv_43 := k_l2i (q (6 + 43 * m_17 + m_42))
          rw [← ev_43] at tv_43
          refine lv_goto (tgt := 322) hx hb dX12_of_318 (by decide) ?_
          exact W.iret (v := v_43) hx hb hr (fun t ht hW => ⟨⟨v_43, (), rfl, trivial, ⟨f_6, k_ret ht hI, kp_8, 0, z1, z10, z12, z13, z14, z15, z16, z17, z18, z23, z24, z25, z26, q, u, im, kt, k_9, (by first | omega | decide), (by first | omega | decide), (by first | omega | decide), k_10, hc1_ok, k_11, k_12, k_13, hU⟩⟩, hS.F ht⟩) hS.2.2 dX12_of_322
      by_cases h_44 : p2 = 5
      · refine k_topi (y := 5) h_44 ?_
        refine lv_tableIn (tgt := 297) hx hb dX12_of_49 (by decide) (by decide) rfl (by decide) ?_
        have h_44 := kc_eq rfl (by decide : Int32.toInt 5 = 5) h_44
        refine lv_iload_n hx hb dX12_of_297 rfl (lv_at hl 5 rfl) ?_
        refine lv_i2l (v := p2.toInt64) hx hb dX12_of_298 rfl ?_
        have t_45 := Int32.toInt_toInt64 p2
        have g_46 := Int32.toInt_lt p2
        have g_47 := Int32.le_toInt p2
        refine lv_lconst (v := 0) hx hb dX12_of_299 (by decide) ?_
        refine lv_ldc2 hx hb hown (hts (.constantLong RX12 135 (8)) (List.mem_cons_of_mem _ (List.mem_append_left _ (List.mem_of_getElem? (i := 11) rfl)))) dX12_of_300 ?_
        refine va_calli (va_runS (As := [.long p2.toInt64, .long 0, .long 8]) (rest := []) ⟨hx, hb, hml, hown, hts⟩ (c_X12_in l dC dI g A hG f_6 p2.toInt64 0 8) (va_cwS 3 hts (gi_S (fun w_ h0_ => ⟨List.mem_cons_of_mem _ (List.mem_append_right _ (List.mem_append_right _ (List.mem_append_right _ (List.mem_append_right _ (List.mem_append_right _ (List.mem_append_left _ h0_)))))), (tb_c_X12_in w_ h0_).2⟩) (List.mem_cons_of_mem _ (List.mem_append_left _ (List.mem_of_getElem? (i := 12) rfl))) (List.mem_cons_of_mem _ (List.mem_append_left _ (List.mem_of_getElem? (i := 13) rfl))) (List.mem_cons_of_mem _ (List.mem_append_left _ (List.mem_of_getElem? (i := 4) rfl)))) rfl rfl rfl (by decide +kernel) ⟨Nat.le_of_ble_eq_true rfl, Nat.le_of_ble_eq_true rfl⟩) ⟨fun a U g mk q => ⟨q.1, q.2.calling rfl rfl⟩, fun U hU hW => ⟨rfl, kIn.of hI hK hE hS hU hW⟩⟩ rfl rfl hl.1 rfl (lv_room (Nat.le_of_ble_eq_true rfl)) dX12_of_303 ⟨Nat.le_of_ble_eq_true rfl, Nat.le_of_ble_eq_true rfl⟩) hS (fun q _ h => h) (fun q h => h) (fun r_49 u9 t H1 locs ht hvm w_48 hB hz1 hk1 hS => ?_)
        have hI : Iv dC dI g A f_6 t.heap := hB
        rw [ht] at hI
        generalize H1 = H at hI hS ⊢
        refine W.widen (k := 0) (n := 0) (Nat.le_of_ble_eq_true rfl) (Nat.le_of_ble_eq_true rfl) ?_
        have w_48 : (r_49.toInt = 0 ∧ (p2.toInt64.toInt < (0 : Int64).toInt ∨ (8 : Int64).toInt < p2.toInt64.toInt)) ∨ (r_49.toInt = 1 ∧ (0 : Int64).toInt ≤ p2.toInt64.toInt ∧ p2.toInt64.toInt ≤ (8 : Int64).toInt) := w_48
        have g_50 : Int64.toInt (0) = 0 := by decide
        have g_51 : Int64.toInt (8) = 8 := by decide
        refine lv_if_eq (tgt := 321) hx hb dX12_of_306 (by decide) (fun c_52 => ?_) (fun c_52 => ?_)
        · have c_52 := kc_eq rfl (by decide : Int32.toInt 0 = 0) c_52
          refine lv_iconst (v := (-1)) hx hb dX12_of_321 (by decide) ?_
          exact W.iret (v := (-1)) hx hb hr (fun t ht hW => ⟨⟨(-1), (), rfl, trivial, ⟨f_6, k_ret ht hI, kp_8, 0, z1, z10, z12, z13, z14, z15, z16, z17, z18, z23, z24, z25, z26, q, u, im, kt, k_9, (by first | omega | decide), (by first | omega | decide), (by first | omega | decide), k_10, hc1_ok, k_11, k_12, k_13, hU⟩⟩, hS.F ht⟩) hS.2.2 dX12_of_322
        · have c_52 := kn_eq rfl (by decide : Int32.toInt 0 = 0) c_52
          refine lv_aload_n hx hb dX12_of_309 rfl (lv_at hl 3 rfl) ?_
          refine k_get (ci := 12) (v := .ref (gr g h0 4)) (C := RX12) (T := TX12) (N := 27) hx hb hts (fun _ h0_ => List.mem_cons_of_mem _ (List.mem_append_right _ (List.mem_append_left _ h0_))) hown hK hI i_h0.1 k_9 rfl 4 (by decide) (hts (.fieldLink RX12 16 "DeadlineShareModel" "row" "[J") (List.mem_cons_of_mem _ (List.mem_append_left _ (List.mem_of_getElem? (i := 10) rfl)))) (fun _ h9 => h9) rfl dX12_of_310 ?_
          refine lv_iload_n hx hb dX12_of_313 rfl (lv_at hl 2 rfl) ?_
          obtain ⟨m_55, em_55, tm_55⟩ := k_nat (x := p2) (by omega)
          refine lv_iload_n hx hb dX12_of_314 rfl (lv_at hl 5 rfl) ?_
          refine k_topi (y := nI m_55) em_55 ?_
          refine lv_iadd hx hb dX12_of_315 ?_
          refine k_topi (y := nI (6 + 43 * m_17 + m_55)) ((nI_add (6 + 43 * m_17) m_55).trans (congrArg nI (by omega))) ?_
          refine k_lald hx hb hK hI i_1.1 1 k_10 rfl (vp_in_nI (by omega) (by omega)) dX12_of_316 ?_
          refine k_topl (y := q (6 + 43 * m_17 + m_55)) (congrArg q (nI_clamp (by omega))) ?_
          refine lv_l2i (v := (q (6 + 43 * m_17 + m_55)).toInt32) hx hb dX12_of_317 rfl ?_
          refine lv_topi (fun v_56 ev_56 => ?_)
          have tv_56 := k_l2i (q (6 + 43 * m_17 + m_55))
          rw [← ev_56] at tv_56
          refine lv_goto (tgt := 322) hx hb dX12_of_318 (by decide) ?_
          exact W.iret (v := v_56) hx hb hr (fun t ht hW => ⟨⟨v_56, (), rfl, trivial, ⟨f_6, k_ret ht hI, kp_8, 0, z1, z10, z12, z13, z14, z15, z16, z17, z18, z23, z24, z25, z26, q, u, im, kt, k_9, (by first | omega | decide), (by first | omega | decide), (by first | omega | decide), k_10, hc1_ok, k_11, k_12, k_13, hU⟩⟩, hS.F ht⟩) hS.2.2 dX12_of_322
      by_cases h_57 : p2 = 6
      · refine k_topi (y := 6) h_57 ?_
        refine lv_tableIn (tgt := 297) hx hb dX12_of_49 (by decide) (by decide) rfl (by decide) ?_
        have h_57 := kc_eq rfl (by decide : Int32.toInt 6 = 6) h_57
        refine lv_iload_n hx hb dX12_of_297 rfl (lv_at hl 5 rfl) ?_
        refine lv_i2l (v := p2.toInt64) hx hb dX12_of_298 rfl ?_
        have t_58 := Int32.toInt_toInt64 p2
        have g_59 := Int32.toInt_lt p2
        have g_60 := Int32.le_toInt p2
        refine lv_lconst (v := 0) hx hb dX12_of_299 (by decide) ?_
        refine lv_ldc2 hx hb hown (hts (.constantLong RX12 135 (8)) (List.mem_cons_of_mem _ (List.mem_append_left _ (List.mem_of_getElem? (i := 11) rfl)))) dX12_of_300 ?_
        refine va_calli (va_runS (As := [.long p2.toInt64, .long 0, .long 8]) (rest := []) ⟨hx, hb, hml, hown, hts⟩ (c_X12_in l dC dI g A hG f_6 p2.toInt64 0 8) (va_cwS 3 hts (gi_S (fun w_ h0_ => ⟨List.mem_cons_of_mem _ (List.mem_append_right _ (List.mem_append_right _ (List.mem_append_right _ (List.mem_append_right _ (List.mem_append_right _ (List.mem_append_left _ h0_)))))), (tb_c_X12_in w_ h0_).2⟩) (List.mem_cons_of_mem _ (List.mem_append_left _ (List.mem_of_getElem? (i := 12) rfl))) (List.mem_cons_of_mem _ (List.mem_append_left _ (List.mem_of_getElem? (i := 13) rfl))) (List.mem_cons_of_mem _ (List.mem_append_left _ (List.mem_of_getElem? (i := 4) rfl)))) rfl rfl rfl (by decide +kernel) ⟨Nat.le_of_ble_eq_true rfl, Nat.le_of_ble_eq_true rfl⟩) ⟨fun a U g mk q => ⟨q.1, q.2.calling rfl rfl⟩, fun U hU hW => ⟨rfl, kIn.of hI hK hE hS hU hW⟩⟩ rfl rfl hl.1 rfl (lv_room (Nat.le_of_ble_eq_true rfl)) dX12_of_303 ⟨Nat.le_of_ble_eq_true rfl, Nat.le_of_ble_eq_true rfl⟩) hS (fun q _ h => h) (fun q h => h) (fun r_62 u9 t H1 locs ht hvm w_61 hB hz1 hk1 hS => ?_)
        have hI : Iv dC dI g A f_6 t.heap := hB
        rw [ht] at hI
        generalize H1 = H at hI hS ⊢
        refine W.widen (k := 0) (n := 0) (Nat.le_of_ble_eq_true rfl) (Nat.le_of_ble_eq_true rfl) ?_
        have w_61 : (r_62.toInt = 0 ∧ (p2.toInt64.toInt < (0 : Int64).toInt ∨ (8 : Int64).toInt < p2.toInt64.toInt)) ∨ (r_62.toInt = 1 ∧ (0 : Int64).toInt ≤ p2.toInt64.toInt ∧ p2.toInt64.toInt ≤ (8 : Int64).toInt) := w_61
        have g_63 : Int64.toInt (0) = 0 := by decide
        have g_64 : Int64.toInt (8) = 8 := by decide
        refine lv_if_eq (tgt := 321) hx hb dX12_of_306 (by decide) (fun c_65 => ?_) (fun c_65 => ?_)
        · have c_65 := kc_eq rfl (by decide : Int32.toInt 0 = 0) c_65
          refine lv_iconst (v := (-1)) hx hb dX12_of_321 (by decide) ?_
          exact W.iret (v := (-1)) hx hb hr (fun t ht hW => ⟨⟨(-1), (), rfl, trivial, ⟨f_6, k_ret ht hI, kp_8, 0, z1, z10, z12, z13, z14, z15, z16, z17, z18, z23, z24, z25, z26, q, u, im, kt, k_9, (by first | omega | decide), (by first | omega | decide), (by first | omega | decide), k_10, hc1_ok, k_11, k_12, k_13, hU⟩⟩, hS.F ht⟩) hS.2.2 dX12_of_322
        · have c_65 := kn_eq rfl (by decide : Int32.toInt 0 = 0) c_65
          refine lv_aload_n hx hb dX12_of_309 rfl (lv_at hl 3 rfl) ?_
          refine k_get (ci := 12) (v := .ref (gr g h0 4)) (C := RX12) (T := TX12) (N := 27) hx hb hts (fun _ h0_ => List.mem_cons_of_mem _ (List.mem_append_right _ (List.mem_append_left _ h0_))) hown hK hI i_h0.1 k_9 rfl 4 (by decide) (hts (.fieldLink RX12 16 "DeadlineShareModel" "row" "[J") (List.mem_cons_of_mem _ (List.mem_append_left _ (List.mem_of_getElem? (i := 10) rfl)))) (fun _ h9 => h9) rfl dX12_of_310 ?_
          refine lv_iload_n hx hb dX12_of_313 rfl (lv_at hl 2 rfl) ?_
          obtain ⟨m_68, em_68, tm_68⟩ := k_nat (x := p2) (by omega)
          refine lv_iload_n hx hb dX12_of_314 rfl (lv_at hl 5 rfl) ?_
          refine k_topi (y := nI m_68) em_68 ?_
          refine lv_iadd hx hb dX12_of_315 ?_
          refine k_topi (y := nI (6 + 43 * m_17 + m_68)) ((nI_add (6 + 43 * m_17) m_68).trans (congrArg nI (by omega))) ?_
          refine k_lald hx hb hK hI i_1.1 1 k_10 rfl (vp_in_nI (by omega) (by omega)) dX12_of_316 ?_
          refine k_topl (y := q (6 + 43 * m_17 + m_68)) (congrArg q (nI_clamp (by omega))) ?_
          refine lv_l2i (v := (q (6 + 43 * m_17 + m_68)).toInt32) hx hb dX12_of_317 rfl ?_
          refine lv_topi (fun v_69 ev_69 => ?_)
          have tv_69 := k_l2i (q (6 + 43 * m_17 + m_68))
          rw [← ev_69] at tv_69
          refine lv_goto (tgt := 322) hx hb dX12_of_318 (by decide) ?_
          exact W.iret (v := v_69) hx hb hr (fun t ht hW => ⟨⟨v_69, (), rfl, trivial, ⟨f_6, k_ret ht hI, kp_8, 0, z1, z10, z12, z13, z14, z15, z16, z17, z18, z23, z24, z25, z26, q, u, im, kt, k_9, (by first | omega | decide), (by first | omega | decide), (by first | omega | decide), k_10, hc1_ok, k_11, k_12, k_13, hU⟩⟩, hS.F ht⟩) hS.2.2 dX12_of_322
      by_cases h_70 : p2 = 7
      · refine k_topi (y := 7) h_70 ?_
        refine lv_tableIn (tgt := 131) hx hb dX12_of_49 (by decide) (by decide) rfl (by decide) ?_
        have h_70 := kc_eq rfl (by decide : Int32.toInt 7 = 7) h_70
        refine lv_iload hx hb dX12_of_131 (lv_at hl 1 rfl) ?_
        refine lv_if_eq (tgt := 149) hx hb dX12_of_133 (by decide) (fun c_71 => ?_) (fun c_71 => ?_)
        · have c_71 := kc_eq rfl (by decide : Int32.toInt 0 = 0) c_71
          refine lv_iconst (v := (-1)) hx hb dX12_of_149 (by decide) ?_
          exact W.iret (v := (-1)) hx hb hr (fun t ht hW => ⟨⟨(-1), (), rfl, trivial, ⟨f_6, k_ret ht hI, kp_8, 0, z1, z10, z12, z13, z14, z15, z16, z17, z18, z23, z24, z25, z26, q, u, im, kt, k_9, (by first | omega | decide), (by first | omega | decide), (by first | omega | decide), k_10, hc1_ok, k_11, k_12, k_13, hU⟩⟩, hS.F ht⟩) hS.2.2 dX12_of_150
        · have c_71 := kn_eq rfl (by decide : Int32.toInt 0 = 0) c_71
          refine lv_aload_n hx hb dX12_of_136 rfl (lv_at hl 3 rfl) ?_
          refine k_get (ci := 12) (v := .ref (gr g h0 4)) (C := RX12) (T := TX12) (N := 27) hx hb hts (fun _ h0_ => List.mem_cons_of_mem _ (List.mem_append_right _ (List.mem_append_left _ h0_))) hown hK hI i_h0.1 k_9 rfl 4 (by decide) (hts (.fieldLink RX12 16 "DeadlineShareModel" "row" "[J") (List.mem_cons_of_mem _ (List.mem_append_left _ (List.mem_of_getElem? (i := 10) rfl)))) (fun _ h9 => h9) rfl dX12_of_137 ?_
          refine lv_iload_n hx hb dX12_of_140 rfl (lv_at hl 2 rfl) ?_
          refine lv_bipush (v := 7) hx hb dX12_of_141 (by decide) ?_
          refine lv_iadd hx hb dX12_of_143 ?_
          refine k_topi (y := nI (6 + 43 * m_17 + 7)) ((nI_add (6 + 43 * m_17) 7).trans (congrArg nI (by omega))) ?_
          refine k_lald hx hb hK hI i_1.1 1 k_10 rfl (vp_in_nI (by omega) (by omega)) dX12_of_144 ?_
          refine k_topl (y := q (6 + 43 * m_17 + 7)) (congrArg q (nI_clamp (by omega))) ?_
          refine lv_l2i (v := (q (6 + 43 * m_17 + 7)).toInt32) hx hb dX12_of_145 rfl ?_
          refine lv_topi (fun v_74 ev_74 => ?_)
          have tv_74 := k_l2i (q (6 + 43 * m_17 + 7))
          rw [← ev_74] at tv_74
          refine lv_goto (tgt := 150) hx hb dX12_of_146 (by decide) ?_
          exact W.iret (v := v_74) hx hb hr (fun t ht hW => ⟨⟨v_74, (), rfl, trivial, ⟨f_6, k_ret ht hI, kp_8, 0, z1, z10, z12, z13, z14, z15, z16, z17, z18, z23, z24, z25, z26, q, u, im, kt, k_9, (by first | omega | decide), (by first | omega | decide), (by first | omega | decide), k_10, hc1_ok, k_11, k_12, k_13, hU⟩⟩, hS.F ht⟩) hS.2.2 dX12_of_150
      by_cases h_75 : p2 = 8
      · refine k_topi (y := 8) h_75 ?_
        refine lv_tableIn (tgt := 297) hx hb dX12_of_49 (by decide) (by decide) rfl (by decide) ?_
        have h_75 := kc_eq rfl (by decide : Int32.toInt 8 = 8) h_75
        refine lv_iload_n hx hb dX12_of_297 rfl (lv_at hl 5 rfl) ?_
        refine lv_i2l (v := p2.toInt64) hx hb dX12_of_298 rfl ?_
        have t_76 := Int32.toInt_toInt64 p2
        have g_77 := Int32.toInt_lt p2
        have g_78 := Int32.le_toInt p2
        refine lv_lconst (v := 0) hx hb dX12_of_299 (by decide) ?_
        refine lv_ldc2 hx hb hown (hts (.constantLong RX12 135 (8)) (List.mem_cons_of_mem _ (List.mem_append_left _ (List.mem_of_getElem? (i := 11) rfl)))) dX12_of_300 ?_
        refine va_calli (va_runS (As := [.long p2.toInt64, .long 0, .long 8]) (rest := []) ⟨hx, hb, hml, hown, hts⟩ (c_X12_in l dC dI g A hG f_6 p2.toInt64 0 8) (va_cwS 3 hts (gi_S (fun w_ h0_ => ⟨List.mem_cons_of_mem _ (List.mem_append_right _ (List.mem_append_right _ (List.mem_append_right _ (List.mem_append_right _ (List.mem_append_right _ (List.mem_append_left _ h0_)))))), (tb_c_X12_in w_ h0_).2⟩) (List.mem_cons_of_mem _ (List.mem_append_left _ (List.mem_of_getElem? (i := 12) rfl))) (List.mem_cons_of_mem _ (List.mem_append_left _ (List.mem_of_getElem? (i := 13) rfl))) (List.mem_cons_of_mem _ (List.mem_append_left _ (List.mem_of_getElem? (i := 4) rfl)))) rfl rfl rfl (by decide +kernel) ⟨Nat.le_of_ble_eq_true rfl, Nat.le_of_ble_eq_true rfl⟩) ⟨fun a U g mk q => ⟨q.1, q.2.calling rfl rfl⟩, fun U hU hW => ⟨rfl, kIn.of hI hK hE hS hU hW⟩⟩ rfl rfl hl.1 rfl (lv_room (Nat.le_of_ble_eq_true rfl)) dX12_of_303 ⟨Nat.le_of_ble_eq_true rfl, Nat.le_of_ble_eq_true rfl⟩) hS (fun q _ h => h) (fun q h => h) (fun r_80 u9 t H1 locs ht hvm w_79 hB hz1 hk1 hS => ?_)
        have hI : Iv dC dI g A f_6 t.heap := hB
        rw [ht] at hI
        generalize H1 = H at hI hS ⊢
        refine W.widen (k := 0) (n := 0) (Nat.le_of_ble_eq_true rfl) (Nat.le_of_ble_eq_true rfl) ?_
        have w_79 : (r_80.toInt = 0 ∧ (p2.toInt64.toInt < (0 : Int64).toInt ∨ (8 : Int64).toInt < p2.toInt64.toInt)) ∨ (r_80.toInt = 1 ∧ (0 : Int64).toInt ≤ p2.toInt64.toInt ∧ p2.toInt64.toInt ≤ (8 : Int64).toInt) := w_79
        have g_81 : Int64.toInt (0) = 0 := by decide
        have g_82 : Int64.toInt (8) = 8 := by decide
        refine lv_if_eq (tgt := 321) hx hb dX12_of_306 (by decide) (fun c_83 => ?_) (fun c_83 => ?_)
        · have c_83 := kc_eq rfl (by decide : Int32.toInt 0 = 0) c_83
          refine lv_iconst (v := (-1)) hx hb dX12_of_321 (by decide) ?_
          exact W.iret (v := (-1)) hx hb hr (fun t ht hW => ⟨⟨(-1), (), rfl, trivial, ⟨f_6, k_ret ht hI, kp_8, 0, z1, z10, z12, z13, z14, z15, z16, z17, z18, z23, z24, z25, z26, q, u, im, kt, k_9, (by first | omega | decide), (by first | omega | decide), (by first | omega | decide), k_10, hc1_ok, k_11, k_12, k_13, hU⟩⟩, hS.F ht⟩) hS.2.2 dX12_of_322
        · have c_83 := kn_eq rfl (by decide : Int32.toInt 0 = 0) c_83
          refine lv_aload_n hx hb dX12_of_309 rfl (lv_at hl 3 rfl) ?_
          refine k_get (ci := 12) (v := .ref (gr g h0 4)) (C := RX12) (T := TX12) (N := 27) hx hb hts (fun _ h0_ => List.mem_cons_of_mem _ (List.mem_append_right _ (List.mem_append_left _ h0_))) hown hK hI i_h0.1 k_9 rfl 4 (by decide) (hts (.fieldLink RX12 16 "DeadlineShareModel" "row" "[J") (List.mem_cons_of_mem _ (List.mem_append_left _ (List.mem_of_getElem? (i := 10) rfl)))) (fun _ h9 => h9) rfl dX12_of_310 ?_
          refine lv_iload_n hx hb dX12_of_313 rfl (lv_at hl 2 rfl) ?_
          obtain ⟨m_86, em_86, tm_86⟩ := k_nat (x := p2) (by omega)
          refine lv_iload_n hx hb dX12_of_314 rfl (lv_at hl 5 rfl) ?_
          refine k_topi (y := nI m_86) em_86 ?_
          refine lv_iadd hx hb dX12_of_315 ?_
          refine k_topi (y := nI (6 + 43 * m_17 + m_86)) ((nI_add (6 + 43 * m_17) m_86).trans (congrArg nI (by omega))) ?_
          refine k_lald hx hb hK hI i_1.1 1 k_10 rfl (vp_in_nI (by omega) (by omega)) dX12_of_316 ?_
          refine k_topl (y := q (6 + 43 * m_17 + m_86)) (congrArg q (nI_clamp (by omega))) ?_
          refine lv_l2i (v := (q (6 + 43 * m_17 + m_86)).toInt32) hx hb dX12_of_317 rfl ?_
          refine lv_topi (fun v_87 ev_87 => ?_)
          have tv_87 := k_l2i (q (6 + 43 * m_17 + m_86))
          rw [← ev_87] at tv_87
          refine lv_goto (tgt := 322) hx hb dX12_of_318 (by decide) ?_
          exact W.iret (v := v_87) hx hb hr (fun t ht hW => ⟨⟨v_87, (), rfl, trivial, ⟨f_6, k_ret ht hI, kp_8, 0, z1, z10, z12, z13, z14, z15, z16, z17, z18, z23, z24, z25, z26, q, u, im, kt, k_9, (by first | omega | decide), (by first | omega | decide), (by first | omega | decide), k_10, hc1_ok, k_11, k_12, k_13, hU⟩⟩, hS.F ht⟩) hS.2.2 dX12_of_322
      by_cases h_88 : p2 = 9
      · refine k_topi (y := 9) h_88 ?_
        refine lv_tableIn (tgt := 151) hx hb dX12_of_49 (by decide) (by decide) rfl (by decide) ?_
        have h_88 := kc_eq rfl (by decide : Int32.toInt 9 = 9) h_88
        refine lv_aload_n hx hb dX12_of_151 rfl (lv_at hl 3 rfl) ?_
        refine k_get (ci := 12) (v := .ref (gr g h0 4)) (C := RX12) (T := TX12) (N := 27) hx hb hts (fun _ h0_ => List.mem_cons_of_mem _ (List.mem_append_right _ (List.mem_append_left _ h0_))) hown hK hI i_h0.1 k_9 rfl 4 (by decide) (hts (.fieldLink RX12 16 "DeadlineShareModel" "row" "[J") (List.mem_cons_of_mem _ (List.mem_append_left _ (List.mem_of_getElem? (i := 10) rfl)))) (fun _ h9 => h9) rfl dX12_of_152 ?_
        refine lv_iload_n hx hb dX12_of_155 rfl (lv_at hl 2 rfl) ?_
        refine lv_iconst (v := 2) hx hb dX12_of_156 (by decide) ?_
        refine lv_iadd hx hb dX12_of_157 ?_
        refine k_topi (y := nI (6 + 43 * m_17 + 2)) ((nI_add (6 + 43 * m_17) 2).trans (congrArg nI (by omega))) ?_
        refine k_lald hx hb hK hI i_1.1 1 k_10 rfl (vp_in_nI (by omega) (by omega)) dX12_of_158 ?_
        refine k_topl (y := q (6 + 43 * m_17 + 2)) (congrArg q (nI_clamp (by omega))) ?_
        refine lv_ldc2 hx hb hown (hts (.constantLong RX12 122 (2)) (List.mem_cons_of_mem _ (List.mem_append_left _ (List.mem_of_getElem? (i := 14) rfl)))) dX12_of_159 ?_
        refine W.lcmp hx hb dX12_of_162 ?_
        refine lv_if_ne (tgt := 179) hx hb dX12_of_163 (by decide) (fun c_91 => ?_) (fun c_91 => ?_)
        · have c_91 := ln_eq rfl (by decide : Int64.toInt 2 = 2) (fun h9 => c_91 ((lg_cmp_eq _ _).mpr h9))
          refine lv_iconst (v := (-1)) hx hb dX12_of_179 (by decide) ?_
          exact W.iret (v := (-1)) hx hb hr (fun t ht hW => ⟨⟨(-1), (), rfl, trivial, ⟨f_6, k_ret ht hI, kp_8, 0, z1, z10, z12, z13, z14, z15, z16, z17, z18, z23, z24, z25, z26, q, u, im, kt, k_9, (by first | omega | decide), (by first | omega | decide), (by first | omega | decide), k_10, hc1_ok, k_11, k_12, k_13, hU⟩⟩, hS.F ht⟩) hS.2.2 dX12_of_180
        · have c_91 := lc_eq rfl (by decide : Int64.toInt 2 = 2) ((lg_cmp_eq _ _).mp c_91)
          refine lv_aload_n hx hb dX12_of_166 rfl (lv_at hl 3 rfl) ?_
          refine k_get (ci := 12) (v := .ref (gr g h0 4)) (C := RX12) (T := TX12) (N := 27) hx hb hts (fun _ h0_ => List.mem_cons_of_mem _ (List.mem_append_right _ (List.mem_append_left _ h0_))) hown hK hI i_h0.1 k_9 rfl 4 (by decide) (hts (.fieldLink RX12 16 "DeadlineShareModel" "row" "[J") (List.mem_cons_of_mem _ (List.mem_append_left _ (List.mem_of_getElem? (i := 10) rfl)))) (fun _ h9 => h9) rfl dX12_of_167 ?_
          refine lv_iload_n hx hb dX12_of_170 rfl (lv_at hl 2 rfl) ?_
          refine lv_bipush (v := 9) hx hb dX12_of_171 (by decide) ?_
          refine lv_iadd hx hb dX12_of_173 ?_
          refine k_topi (y := nI (6 + 43 * m_17 + 9)) ((nI_add (6 + 43 * m_17) 9).trans (congrArg nI (by omega))) ?_
          refine k_lald hx hb hK hI i_1.1 1 k_10 rfl (vp_in_nI (by omega) (by omega)) dX12_of_174 ?_
          refine k_topl (y := q (6 + 43 * m_17 + 9)) (congrArg q (nI_clamp (by omega))) ?_
          refine lv_l2i (v := (q (6 + 43 * m_17 + 9)).toInt32) hx hb dX12_of_175 rfl ?_
          refine lv_topi (fun v_94 ev_94 => ?_)
          have tv_94 := k_l2i (q (6 + 43 * m_17 + 9))
          rw [← ev_94] at tv_94
          refine lv_goto (tgt := 180) hx hb dX12_of_176 (by decide) ?_
          exact W.iret (v := v_94) hx hb hr (fun t ht hW => ⟨⟨v_94, (), rfl, trivial, ⟨f_6, k_ret ht hI, kp_8, 0, z1, z10, z12, z13, z14, z15, z16, z17, z18, z23, z24, z25, z26, q, u, im, kt, k_9, (by first | omega | decide), (by first | omega | decide), (by first | omega | decide), k_10, hc1_ok, k_11, k_12, k_13, hU⟩⟩, hS.F ht⟩) hS.2.2 dX12_of_180
      by_cases h_95 : p2 = 10
      · refine k_topi (y := 10) h_95 ?_
        refine lv_tableIn (tgt := 181) hx hb dX12_of_49 (by decide) (by decide) rfl (by decide) ?_
        have h_95 := kc_eq rfl (by decide : Int32.toInt 10 = 10) h_95
        refine lv_iload hx hb dX12_of_181 (lv_at hl 0 rfl) ?_
        refine lv_if_eq (tgt := 199) hx hb dX12_of_183 (by decide) (fun c_96 => ?_) (fun c_96 => ?_)
        · have c_96 := kc_eq rfl (by decide : Int32.toInt 0 = 0) c_96
          refine lv_iconst (v := (-1)) hx hb dX12_of_199 (by decide) ?_
          exact W.iret (v := (-1)) hx hb hr (fun t ht hW => ⟨⟨(-1), (), rfl, trivial, ⟨f_6, k_ret ht hI, kp_8, 0, z1, z10, z12, z13, z14, z15, z16, z17, z18, z23, z24, z25, z26, q, u, im, kt, k_9, (by first | omega | decide), (by first | omega | decide), (by first | omega | decide), k_10, hc1_ok, k_11, k_12, k_13, hU⟩⟩, hS.F ht⟩) hS.2.2 dX12_of_200
        · have c_96 := kn_eq rfl (by decide : Int32.toInt 0 = 0) c_96
          refine lv_aload_n hx hb dX12_of_186 rfl (lv_at hl 3 rfl) ?_
          refine k_get (ci := 12) (v := .ref (gr g h0 4)) (C := RX12) (T := TX12) (N := 27) hx hb hts (fun _ h0_ => List.mem_cons_of_mem _ (List.mem_append_right _ (List.mem_append_left _ h0_))) hown hK hI i_h0.1 k_9 rfl 4 (by decide) (hts (.fieldLink RX12 16 "DeadlineShareModel" "row" "[J") (List.mem_cons_of_mem _ (List.mem_append_left _ (List.mem_of_getElem? (i := 10) rfl)))) (fun _ h9 => h9) rfl dX12_of_187 ?_
          refine lv_iload_n hx hb dX12_of_190 rfl (lv_at hl 2 rfl) ?_
          refine lv_bipush (v := 14) hx hb dX12_of_191 (by decide) ?_
          refine lv_iadd hx hb dX12_of_193 ?_
          refine k_topi (y := nI (6 + 43 * m_17 + 14)) ((nI_add (6 + 43 * m_17) 14).trans (congrArg nI (by omega))) ?_
          refine k_lald hx hb hK hI i_1.1 1 k_10 rfl (vp_in_nI (by omega) (by omega)) dX12_of_194 ?_
          refine k_topl (y := q (6 + 43 * m_17 + 14)) (congrArg q (nI_clamp (by omega))) ?_
          have d_99 := rk_14 hc1_ok (t := m_17) (by omega)
          refine lv_l2i (v := (q (6 + 43 * m_17 + 14)).toInt32) hx hb dX12_of_195 rfl ?_
          refine lv_topi (fun v_100 ev_100 => ?_)
          have tv_100 := k_l2i (q (6 + 43 * m_17 + 14))
          rw [← ev_100] at tv_100
          refine lv_goto (tgt := 200) hx hb dX12_of_196 (by decide) ?_
          exact W.iret (v := v_100) hx hb hr (fun t ht hW => ⟨⟨v_100, (), rfl, trivial, ⟨f_6, k_ret ht hI, kp_8, 0, z1, z10, z12, z13, z14, z15, z16, z17, z18, z23, z24, z25, z26, q, u, im, kt, k_9, (by first | omega | decide), (by first | omega | decide), (by first | omega | decide), k_10, hc1_ok, k_11, k_12, k_13, hU⟩⟩, hS.F ht⟩) hS.2.2 dX12_of_200
      by_cases h_101 : p2 = 11
      · refine k_topi (y := 11) h_101 ?_
        refine lv_tableIn (tgt := 201) hx hb dX12_of_49 (by decide) (by decide) rfl (by decide) ?_
        have h_101 := kc_eq rfl (by decide : Int32.toInt 11 = 11) h_101
        refine lv_iload hx hb dX12_of_201 (lv_at hl 0 rfl) ?_
        refine lv_if_eq (tgt := 244) hx hb dX12_of_203 (by decide) (fun c_102 => ?_) (fun c_102 => ?_)
        · have c_102 := kc_eq rfl (by decide : Int32.toInt 0 = 0) c_102
          refine lv_iconst (v := (-1)) hx hb dX12_of_244 (by decide) ?_
          exact W.iret (v := (-1)) hx hb hr (fun t ht hW => ⟨⟨(-1), (), rfl, trivial, ⟨f_6, k_ret ht hI, kp_8, 0, z1, z10, z12, z13, z14, z15, z16, z17, z18, z23, z24, z25, z26, q, u, im, kt, k_9, (by first | omega | decide), (by first | omega | decide), (by first | omega | decide), k_10, hc1_ok, k_11, k_12, k_13, hU⟩⟩, hS.F ht⟩) hS.2.2 dX12_of_245
        · have c_102 := kn_eq rfl (by decide : Int32.toInt 0 = 0) c_102
          refine lv_aload_n hx hb dX12_of_206 rfl (lv_at hl 3 rfl) ?_
          refine k_get (ci := 12) (v := .ref (gr g h0 4)) (C := RX12) (T := TX12) (N := 27) hx hb hts (fun _ h0_ => List.mem_cons_of_mem _ (List.mem_append_right _ (List.mem_append_left _ h0_))) hown hK hI i_h0.1 k_9 rfl 4 (by decide) (hts (.fieldLink RX12 16 "DeadlineShareModel" "row" "[J") (List.mem_cons_of_mem _ (List.mem_append_left _ (List.mem_of_getElem? (i := 10) rfl)))) (fun _ h9 => h9) rfl dX12_of_207 ?_
          refine lv_iload_n hx hb dX12_of_210 rfl (lv_at hl 2 rfl) ?_
          refine lv_bipush (v := 16) hx hb dX12_of_211 (by decide) ?_
          refine lv_iadd hx hb dX12_of_213 ?_
          refine k_topi (y := nI (6 + 43 * m_17 + 16)) ((nI_add (6 + 43 * m_17) 16).trans (congrArg nI (by omega))) ?_
          refine lv_aload_n hx hb dX12_of_214 rfl (lv_at hl 3 rfl) ?_
          refine k_get (ci := 12) (v := .ref (gr g h0 4)) (C := RX12) (T := TX12) (N := 27) hx hb hts (fun _ h0_ => List.mem_cons_of_mem _ (List.mem_append_right _ (List.mem_append_left _ h0_))) hown hK hI i_h0.1 k_9 rfl 4 (by decide) (hts (.fieldLink RX12 16 "DeadlineShareModel" "row" "[J") (List.mem_cons_of_mem _ (List.mem_append_left _ (List.mem_of_getElem? (i := 10) rfl)))) (fun _ h9 => h9) rfl dX12_of_215 ?_
          refine lv_iload_n hx hb dX12_of_218 rfl (lv_at hl 2 rfl) ?_
          refine lv_bipush (v := 14) hx hb dX12_of_219 (by decide) ?_
          refine lv_iadd hx hb dX12_of_221 ?_
          refine k_topi (y := nI (6 + 43 * m_17 + 14)) ((nI_add (6 + 43 * m_17) 14).trans (congrArg nI (by omega))) ?_
          refine k_lald hx hb hK hI i_1.1 1 k_10 rfl (vp_in_nI (by omega) (by omega)) dX12_of_222 ?_
          refine k_topl (y := q (6 + 43 * m_17 + 14)) (congrArg q (nI_clamp (by omega))) ?_
          have d_107 := rk_14 hc1_ok (t := m_17) (by omega)
          refine lv_l2i (v := (q (6 + 43 * m_17 + 14)).toInt32) hx hb dX12_of_223 rfl ?_
          refine lv_topi (fun v_108 ev_108 => ?_)
          have tv_108 := k_l2i (q (6 + 43 * m_17 + 14))
          rw [← ev_108] at tv_108
          obtain ⟨m_109, em_109, tm_109⟩ := k_nat (x := v_108) (by omega)
          refine k_topi (y := nI m_109) em_109 ?_
          refine lv_iadd hx hb dX12_of_224 ?_
          refine k_topi (y := nI (6 + 43 * m_17 + 16 + m_109)) ((nI_add (6 + 43 * m_17 + 16) m_109).trans (congrArg nI (by omega))) ?_
          refine k_lald hx hb hK hI i_1.1 1 k_10 rfl (vp_in_nI (by omega) (by omega)) dX12_of_225 ?_
          refine k_topl (y := q (6 + 43 * m_17 + 16 + m_109)) (congrArg q (nI_clamp (by omega))) ?_
          have d_110 := rk_k hc1_ok (t := m_17) (k := m_109) (by omega) (by omega)
          refine lv_lconst (v := 0) hx hb dX12_of_226 (by decide) ?_
          refine W.lcmp hx hb dX12_of_227 ?_
          refine lv_if_ne (tgt := 244) hx hb dX12_of_228 (by decide) (fun c_111 => ?_) (fun c_111 => ?_)
          · have c_111 := ln_eq rfl (by decide : Int64.toInt 0 = 0) (fun h9 => c_111 ((lg_cmp_eq _ _).mpr h9))
            refine lv_iconst (v := (-1)) hx hb dX12_of_244 (by decide) ?_
            exact W.iret (v := (-1)) hx hb hr (fun t ht hW => ⟨⟨(-1), (), rfl, trivial, ⟨f_6, k_ret ht hI, kp_8, 0, z1, z10, z12, z13, z14, z15, z16, z17, z18, z23, z24, z25, z26, q, u, im, kt, k_9, (by first | omega | decide), (by first | omega | decide), (by first | omega | decide), k_10, hc1_ok, k_11, k_12, k_13, hU⟩⟩, hS.F ht⟩) hS.2.2 dX12_of_245
          · have c_111 := lc_eq rfl (by decide : Int64.toInt 0 = 0) ((lg_cmp_eq _ _).mp c_111)
            refine lv_aload_n hx hb dX12_of_231 rfl (lv_at hl 3 rfl) ?_
            refine k_get (ci := 12) (v := .ref (gr g h0 4)) (C := RX12) (T := TX12) (N := 27) hx hb hts (fun _ h0_ => List.mem_cons_of_mem _ (List.mem_append_right _ (List.mem_append_left _ h0_))) hown hK hI i_h0.1 k_9 rfl 4 (by decide) (hts (.fieldLink RX12 16 "DeadlineShareModel" "row" "[J") (List.mem_cons_of_mem _ (List.mem_append_left _ (List.mem_of_getElem? (i := 10) rfl)))) (fun _ h9 => h9) rfl dX12_of_232 ?_
            refine lv_iload_n hx hb dX12_of_235 rfl (lv_at hl 2 rfl) ?_
            refine lv_bipush (v := 15) hx hb dX12_of_236 (by decide) ?_
            refine lv_iadd hx hb dX12_of_238 ?_
            refine k_topi (y := nI (6 + 43 * m_17 + 15)) ((nI_add (6 + 43 * m_17) 15).trans (congrArg nI (by omega))) ?_
            refine k_lald hx hb hK hI i_1.1 1 k_10 rfl (vp_in_nI (by omega) (by omega)) dX12_of_239 ?_
            refine k_topl (y := q (6 + 43 * m_17 + 15)) (congrArg q (nI_clamp (by omega))) ?_
            refine lv_l2i (v := (q (6 + 43 * m_17 + 15)).toInt32) hx hb dX12_of_240 rfl ?_
            refine lv_topi (fun v_114 ev_114 => ?_)
            have tv_114 := k_l2i (q (6 + 43 * m_17 + 15))
            rw [← ev_114] at tv_114
            refine lv_goto (tgt := 245) hx hb dX12_of_241 (by decide) ?_
            exact W.iret (v := v_114) hx hb hr (fun t ht hW => ⟨⟨v_114, (), rfl, trivial, ⟨f_6, k_ret ht hI, kp_8, 0, z1, z10, z12, z13, z14, z15, z16, z17, z18, z23, z24, z25, z26, q, u, im, kt, k_9, (by first | omega | decide), (by first | omega | decide), (by first | omega | decide), k_10, hc1_ok, k_11, k_12, k_13, hU⟩⟩, hS.F ht⟩) hS.2.2 dX12_of_245
      by_cases h_115 : p2 = 12
      · refine k_topi (y := 12) h_115 ?_
        refine lv_tableIn (tgt := 246) hx hb dX12_of_49 (by decide) (by decide) rfl (by decide) ?_
        have h_115 := kc_eq rfl (by decide : Int32.toInt 12 = 12) h_115
        refine lv_aload_n hx hb dX12_of_246 rfl (lv_at hl 3 rfl) ?_
        refine k_get (ci := 12) (v := .ref (gr g h0 4)) (C := RX12) (T := TX12) (N := 27) hx hb hts (fun _ h0_ => List.mem_cons_of_mem _ (List.mem_append_right _ (List.mem_append_left _ h0_))) hown hK hI i_h0.1 k_9 rfl 4 (by decide) (hts (.fieldLink RX12 16 "DeadlineShareModel" "row" "[J") (List.mem_cons_of_mem _ (List.mem_append_left _ (List.mem_of_getElem? (i := 10) rfl)))) (fun _ h9 => h9) rfl dX12_of_247 ?_
        refine lv_iload_n hx hb dX12_of_250 rfl (lv_at hl 2 rfl) ?_
        refine lv_bipush (v := 41) hx hb dX12_of_251 (by decide) ?_
        refine lv_iadd hx hb dX12_of_253 ?_
        refine k_topi (y := nI (6 + 43 * m_17 + 41)) ((nI_add (6 + 43 * m_17) 41).trans (congrArg nI (by omega))) ?_
        refine k_lald hx hb hK hI i_1.1 1 k_10 rfl (vp_in_nI (by omega) (by omega)) dX12_of_254 ?_
        refine k_topl (y := q (6 + 43 * m_17 + 41)) (congrArg q (nI_clamp (by omega))) ?_
        have d_118 := rk_41 hc1_ok (t := m_17) (by omega)
        refine lv_lconst (v := 0) hx hb dX12_of_255 (by decide) ?_
        refine W.lcmp hx hb dX12_of_256 ?_
        refine lv_if_le (tgt := 273) hx hb dX12_of_257 (by decide) (fun c_119 => ?_) (fun c_119 => ?_)
        · have c_119 := lc_le rfl (by decide : Int64.toInt 0 = 0) ((lg_cmp_le _ _).mp c_119)
          refine lv_iconst (v := (-1)) hx hb dX12_of_273 (by decide) ?_
          exact W.iret (v := (-1)) hx hb hr (fun t ht hW => ⟨⟨(-1), (), rfl, trivial, ⟨f_6, k_ret ht hI, kp_8, 0, z1, z10, z12, z13, z14, z15, z16, z17, z18, z23, z24, z25, z26, q, u, im, kt, k_9, (by first | omega | decide), (by first | omega | decide), (by first | omega | decide), k_10, hc1_ok, k_11, k_12, k_13, hU⟩⟩, hS.F ht⟩) hS.2.2 dX12_of_274
        · have c_119 := ln_le rfl (by decide : Int64.toInt 0 = 0) (fun h9 => c_119 ((lg_cmp_le _ _).mpr h9))
          refine lv_aload_n hx hb dX12_of_260 rfl (lv_at hl 3 rfl) ?_
          refine k_get (ci := 12) (v := .ref (gr g h0 4)) (C := RX12) (T := TX12) (N := 27) hx hb hts (fun _ h0_ => List.mem_cons_of_mem _ (List.mem_append_right _ (List.mem_append_left _ h0_))) hown hK hI i_h0.1 k_9 rfl 4 (by decide) (hts (.fieldLink RX12 16 "DeadlineShareModel" "row" "[J") (List.mem_cons_of_mem _ (List.mem_append_left _ (List.mem_of_getElem? (i := 10) rfl)))) (fun _ h9 => h9) rfl dX12_of_261 ?_
          refine lv_iload_n hx hb dX12_of_264 rfl (lv_at hl 2 rfl) ?_
          refine lv_bipush (v := 40) hx hb dX12_of_265 (by decide) ?_
          refine lv_iadd hx hb dX12_of_267 ?_
          refine k_topi (y := nI (6 + 43 * m_17 + 40)) ((nI_add (6 + 43 * m_17) 40).trans (congrArg nI (by omega))) ?_
          refine k_lald hx hb hK hI i_1.1 1 k_10 rfl (vp_in_nI (by omega) (by omega)) dX12_of_268 ?_
          refine k_topl (y := q (6 + 43 * m_17 + 40)) (congrArg q (nI_clamp (by omega))) ?_
          refine lv_l2i (v := (q (6 + 43 * m_17 + 40)).toInt32) hx hb dX12_of_269 rfl ?_
          refine lv_topi (fun v_122 ev_122 => ?_)
          have tv_122 := k_l2i (q (6 + 43 * m_17 + 40))
          rw [← ev_122] at tv_122
          refine lv_goto (tgt := 274) hx hb dX12_of_270 (by decide) ?_
          exact W.iret (v := v_122) hx hb hr (fun t ht hW => ⟨⟨v_122, (), rfl, trivial, ⟨f_6, k_ret ht hI, kp_8, 0, z1, z10, z12, z13, z14, z15, z16, z17, z18, z23, z24, z25, z26, q, u, im, kt, k_9, (by first | omega | decide), (by first | omega | decide), (by first | omega | decide), k_10, hc1_ok, k_11, k_12, k_13, hU⟩⟩, hS.F ht⟩) hS.2.2 dX12_of_274
      by_cases h_123 : p2 = 13
      · refine k_topi (y := 13) h_123 ?_
        refine lv_tableIn (tgt := 275) hx hb dX12_of_49 (by decide) (by decide) rfl (by decide) ?_
        have h_123 := kc_eq rfl (by decide : Int32.toInt 13 = 13) h_123
        refine lv_aload_n hx hb dX12_of_275 rfl (lv_at hl 3 rfl) ?_
        refine k_get (ci := 12) (v := .ref (gr g h0 4)) (C := RX12) (T := TX12) (N := 27) hx hb hts (fun _ h0_ => List.mem_cons_of_mem _ (List.mem_append_right _ (List.mem_append_left _ h0_))) hown hK hI i_h0.1 k_9 rfl 4 (by decide) (hts (.fieldLink RX12 16 "DeadlineShareModel" "row" "[J") (List.mem_cons_of_mem _ (List.mem_append_left _ (List.mem_of_getElem? (i := 10) rfl)))) (fun _ h9 => h9) rfl dX12_of_276 ?_
        refine lv_iload_n hx hb dX12_of_279 rfl (lv_at hl 2 rfl) ?_
        refine lv_bipush (v := 41) hx hb dX12_of_280 (by decide) ?_
        refine lv_iadd hx hb dX12_of_282 ?_
        refine k_topi (y := nI (6 + 43 * m_17 + 41)) ((nI_add (6 + 43 * m_17) 41).trans (congrArg nI (by omega))) ?_
        refine k_lald hx hb hK hI i_1.1 1 k_10 rfl (vp_in_nI (by omega) (by omega)) dX12_of_283 ?_
        refine k_topl (y := q (6 + 43 * m_17 + 41)) (congrArg q (nI_clamp (by omega))) ?_
        have d_126 := rk_41 hc1_ok (t := m_17) (by omega)
        refine lv_l2i (v := (q (6 + 43 * m_17 + 41)).toInt32) hx hb dX12_of_284 rfl ?_
        refine lv_topi (fun v_127 ev_127 => ?_)
        have tv_127 := k_l2i (q (6 + 43 * m_17 + 41))
        rw [← ev_127] at tv_127
        exact W.iret (v := v_127) hx hb hr (fun t ht hW => ⟨⟨v_127, (), rfl, trivial, ⟨f_6, k_ret ht hI, kp_8, 0, z1, z10, z12, z13, z14, z15, z16, z17, z18, z23, z24, z25, z26, q, u, im, kt, k_9, (by first | omega | decide), (by first | omega | decide), (by first | omega | decide), k_10, hc1_ok, k_11, k_12, k_13, hU⟩⟩, hS.F ht⟩) hS.2.2 dX12_of_285
      by_cases h_128 : p2 = 14
      · refine k_topi (y := 14) h_128 ?_
        refine lv_tableIn (tgt := 286) hx hb dX12_of_49 (by decide) (by decide) rfl (by decide) ?_
        have h_128 := kc_eq rfl (by decide : Int32.toInt 14 = 14) h_128
        refine lv_aload_n hx hb dX12_of_286 rfl (lv_at hl 3 rfl) ?_
        refine k_get (ci := 12) (v := .ref (gr g h0 4)) (C := RX12) (T := TX12) (N := 27) hx hb hts (fun _ h0_ => List.mem_cons_of_mem _ (List.mem_append_right _ (List.mem_append_left _ h0_))) hown hK hI i_h0.1 k_9 rfl 4 (by decide) (hts (.fieldLink RX12 16 "DeadlineShareModel" "row" "[J") (List.mem_cons_of_mem _ (List.mem_append_left _ (List.mem_of_getElem? (i := 10) rfl)))) (fun _ h9 => h9) rfl dX12_of_287 ?_
        refine lv_iload_n hx hb dX12_of_290 rfl (lv_at hl 2 rfl) ?_
        refine lv_bipush (v := 42) hx hb dX12_of_291 (by decide) ?_
        refine lv_iadd hx hb dX12_of_293 ?_
        refine k_topi (y := nI (6 + 43 * m_17 + 42)) ((nI_add (6 + 43 * m_17) 42).trans (congrArg nI (by omega))) ?_
        refine k_lald hx hb hK hI i_1.1 1 k_10 rfl (vp_in_nI (by omega) (by omega)) dX12_of_294 ?_
        refine k_topl (y := q (6 + 43 * m_17 + 42)) (congrArg q (nI_clamp (by omega))) ?_
        have d_131 := rk_41 hc1_ok (t := m_17) (by omega)
        refine lv_l2i (v := (q (6 + 43 * m_17 + 42)).toInt32) hx hb dX12_of_295 rfl ?_
        refine lv_topi (fun v_132 ev_132 => ?_)
        have tv_132 := k_l2i (q (6 + 43 * m_17 + 42))
        rw [← ev_132] at tv_132
        exact W.iret (v := v_132) hx hb hr (fun t ht hW => ⟨⟨v_132, (), rfl, trivial, ⟨f_6, k_ret ht hI, kp_8, 0, z1, z10, z12, z13, z14, z15, z16, z17, z18, z23, z24, z25, z26, q, u, im, kt, k_9, (by first | omega | decide), (by first | omega | decide), (by first | omega | decide), k_10, hc1_ok, k_11, k_12, k_13, hU⟩⟩, hS.F ht⟩) hS.2.2 dX12_of_296
      have h_26 := kn_eq rfl (by decide : Int32.toInt 3 = 3) h_26
      have h_31 := kn_eq rfl (by decide : Int32.toInt 4 = 4) h_31
      have h_44 := kn_eq rfl (by decide : Int32.toInt 5 = 5) h_44
      have h_57 := kn_eq rfl (by decide : Int32.toInt 6 = 6) h_57
      have h_70 := kn_eq rfl (by decide : Int32.toInt 7 = 7) h_70
      have h_75 := kn_eq rfl (by decide : Int32.toInt 8 = 8) h_75
      have h_88 := kn_eq rfl (by decide : Int32.toInt 9 = 9) h_88
      have h_95 := kn_eq rfl (by decide : Int32.toInt 10 = 10) h_95
      have h_101 := kn_eq rfl (by decide : Int32.toInt 11 = 11) h_101
      have h_115 := kn_eq rfl (by decide : Int32.toInt 12 = 12) h_115
      have h_123 := kn_eq rfl (by decide : Int32.toInt 13 = 13) h_123
      have h_128 := kn_eq rfl (by decide : Int32.toInt 14 = 14) h_128
      refine lv_tableOut (tgt := 297) hx hb dX12_of_49 (by omega) (by decide) ?_
      refine lv_iload_n hx hb dX12_of_297 rfl (lv_at hl 5 rfl) ?_
      refine lv_i2l (v := p2.toInt64) hx hb dX12_of_298 rfl ?_
      have t_133 := Int32.toInt_toInt64 p2
      have g_134 := Int32.toInt_lt p2
      have g_135 := Int32.le_toInt p2
      refine lv_lconst (v := 0) hx hb dX12_of_299 (by decide) ?_
      refine lv_ldc2 hx hb hown (hts (.constantLong RX12 135 (8)) (List.mem_cons_of_mem _ (List.mem_append_left _ (List.mem_of_getElem? (i := 11) rfl)))) dX12_of_300 ?_
      refine va_calli (va_runS (As := [.long p2.toInt64, .long 0, .long 8]) (rest := []) ⟨hx, hb, hml, hown, hts⟩ (c_X12_in l dC dI g A hG f_6 p2.toInt64 0 8) (va_cwS 3 hts (gi_S (fun w_ h0_ => ⟨List.mem_cons_of_mem _ (List.mem_append_right _ (List.mem_append_right _ (List.mem_append_right _ (List.mem_append_right _ (List.mem_append_right _ (List.mem_append_left _ h0_)))))), (tb_c_X12_in w_ h0_).2⟩) (List.mem_cons_of_mem _ (List.mem_append_left _ (List.mem_of_getElem? (i := 12) rfl))) (List.mem_cons_of_mem _ (List.mem_append_left _ (List.mem_of_getElem? (i := 13) rfl))) (List.mem_cons_of_mem _ (List.mem_append_left _ (List.mem_of_getElem? (i := 4) rfl)))) rfl rfl rfl (by decide +kernel) ⟨Nat.le_of_ble_eq_true rfl, Nat.le_of_ble_eq_true rfl⟩) ⟨fun a U g mk q => ⟨q.1, q.2.calling rfl rfl⟩, fun U hU hW => ⟨rfl, kIn.of hI hK hE hS hU hW⟩⟩ rfl rfl hl.1 rfl (lv_room (Nat.le_of_ble_eq_true rfl)) dX12_of_303 ⟨Nat.le_of_ble_eq_true rfl, Nat.le_of_ble_eq_true rfl⟩) hS (fun q _ h => h) (fun q h => h) (fun r_137 u9 t H1 locs ht hvm w_136 hB hz1 hk1 hS => ?_)
      have hI : Iv dC dI g A f_6 t.heap := hB
      rw [ht] at hI
      generalize H1 = H at hI hS ⊢
      refine W.widen (k := 0) (n := 0) (Nat.le_of_ble_eq_true rfl) (Nat.le_of_ble_eq_true rfl) ?_
      have w_136 : (r_137.toInt = 0 ∧ (p2.toInt64.toInt < (0 : Int64).toInt ∨ (8 : Int64).toInt < p2.toInt64.toInt)) ∨ (r_137.toInt = 1 ∧ (0 : Int64).toInt ≤ p2.toInt64.toInt ∧ p2.toInt64.toInt ≤ (8 : Int64).toInt) := w_136
      have g_138 : Int64.toInt (0) = 0 := by decide
      have g_139 : Int64.toInt (8) = 8 := by decide
      refine lv_if_eq (tgt := 321) hx hb dX12_of_306 (by decide) (fun c_140 => ?_) (fun c_140 => ?_)
      · have c_140 := kc_eq rfl (by decide : Int32.toInt 0 = 0) c_140
        refine lv_iconst (v := (-1)) hx hb dX12_of_321 (by decide) ?_
        exact W.iret (v := (-1)) hx hb hr (fun t ht hW => ⟨⟨(-1), (), rfl, trivial, ⟨f_6, k_ret ht hI, kp_8, 0, z1, z10, z12, z13, z14, z15, z16, z17, z18, z23, z24, z25, z26, q, u, im, kt, k_9, (by first | omega | decide), (by first | omega | decide), (by first | omega | decide), k_10, hc1_ok, k_11, k_12, k_13, hU⟩⟩, hS.F ht⟩) hS.2.2 dX12_of_322
      · have c_140 := kn_eq rfl (by decide : Int32.toInt 0 = 0) c_140
        refine lv_aload_n hx hb dX12_of_309 rfl (lv_at hl 3 rfl) ?_
        refine k_get (ci := 12) (v := .ref (gr g h0 4)) (C := RX12) (T := TX12) (N := 27) hx hb hts (fun _ h0_ => List.mem_cons_of_mem _ (List.mem_append_right _ (List.mem_append_left _ h0_))) hown hK hI i_h0.1 k_9 rfl 4 (by decide) (hts (.fieldLink RX12 16 "DeadlineShareModel" "row" "[J") (List.mem_cons_of_mem _ (List.mem_append_left _ (List.mem_of_getElem? (i := 10) rfl)))) (fun _ h9 => h9) rfl dX12_of_310 ?_
        refine lv_iload_n hx hb dX12_of_313 rfl (lv_at hl 2 rfl) ?_
        obtain ⟨m_143, em_143, tm_143⟩ := k_nat (x := p2) (by omega)
        refine lv_iload_n hx hb dX12_of_314 rfl (lv_at hl 5 rfl) ?_
        refine k_topi (y := nI m_143) em_143 ?_
        refine lv_iadd hx hb dX12_of_315 ?_
        refine k_topi (y := nI (6 + 43 * m_17 + m_143)) ((nI_add (6 + 43 * m_17) m_143).trans (congrArg nI (by omega))) ?_
        refine k_lald hx hb hK hI i_1.1 1 k_10 rfl (vp_in_nI (by omega) (by omega)) dX12_of_316 ?_
        refine k_topl (y := q (6 + 43 * m_17 + m_143)) (congrArg q (nI_clamp (by omega))) ?_
        refine lv_l2i (v := (q (6 + 43 * m_17 + m_143)).toInt32) hx hb dX12_of_317 rfl ?_
        refine lv_topi (fun v_144 ev_144 => ?_)
        have tv_144 := k_l2i (q (6 + 43 * m_17 + m_143))
        rw [← ev_144] at tv_144
        refine lv_goto (tgt := 322) hx hb dX12_of_318 (by decide) ?_
        exact W.iret (v := v_144) hx hb hr (fun t ht hW => ⟨⟨v_144, (), rfl, trivial, ⟨f_6, k_ret ht hI, kp_8, 0, z1, z10, z12, z13, z14, z15, z16, z17, z18, z23, z24, z25, z26, q, u, im, kt, k_9, (by first | omega | decide), (by first | omega | decide), (by first | omega | decide), k_10, hc1_ok, k_11, k_12, k_13, hU⟩⟩, hS.F ht⟩) hS.2.2 dX12_of_322
    refine lv_if_le (tgt := 45) hx hb dX12_of_38 (by decide) (fun c_145 => ?_) (fun c_145 => ?_)
    · have c_145 := lc_le rfl (by decide : Int64.toInt 0 = 0) ((lg_cmp_le _ _).mp c_145)
      refine lv_iconst (v := 0) hx hb dX12_of_45 (by decide) ?_
      exact J_46 0 _ _ _ hI hS  (lv_sub hl [0, 1, 2, 3, 4] rfl)
    · have c_145 := ln_le rfl (by decide : Int64.toInt 0 = 0) (fun h9 => c_145 ((lg_cmp_le _ _).mpr h9))
      refine lv_iconst (v := 1) hx hb dX12_of_41 (by decide) ?_
      refine lv_goto (tgt := 46) hx hb dX12_of_42 (by decide) ?_
      exact J_46 1 _ _ _ hI hS  (lv_sub hl [0, 1, 2, 3, 4] rfl)
  · have c_16 := kc_eq rfl (by decide : Int32.toInt 0 = 0) c_16
    refine lv_iconst (v := (-1)) hx hb dX12_of_13 (by decide) ?_
    exact W.iret (v := (-1)) hx hb hr (fun t ht hW => ⟨⟨(-1), (), rfl, trivial, ⟨f_6, k_ret ht hI, kp_8, 0, z1, z10, z12, z13, z14, z15, z16, z17, z18, z23, z24, z25, z26, q, u, im, kt, k_9, (by first | omega | decide), (by first | omega | decide), (by first | omega | decide), k_10, hc1_ok, k_11, k_12, k_13, hU⟩⟩, hS.F ht⟩) hS.2.2 dX12_of_14
