theorem tw_910 : q_g (.code yX12_logAt cX12_logAt 5 (some .int)) := ⟨(List.mem_append_right _ (List.mem_of_getElem? (i := 1478) (by decide +kernel))), good_of_word (by decide +kernel)⟩
def ow_c_X12_logAt : List Cond := [.fieldLink RX12 16 "DeadlineShareModel" "row" "[J", .methodLink RX12 83 yX12_in, .static yX12_in, .initialized RX12]
def wq_c_X12_logAt : List Cond := .code yX12_logAt cX12_logAt 5 (some .int) :: (ow_c_X12_logAt ++ (u_ws RX12 TX12 27 ++ (wq_c_X12_in ++ ([] : List Cond))))
theorem tb_c_X12_logAt : ∀ w ∈ wq_c_X12_logAt, q_g w := by
  unfold wq_c_X12_logAt ow_c_X12_logAt
  exact q_cons tw_910 (q_app (q_cons tw_731 (q_cons tw_730 (q_cons tw_729 (q_cons tw_728 q_nil)))) (q_app tu_X12 (q_app tb_c_X12_in q_nil)))
set_option maxHeartbeats 4000000 in
set_option maxRecDepth 100000 in
theorem c_X12_logAt (l : Launch) (dC : Nat → ClassId) (dI : Nat → Nat → Nat) (g : kG) (A : Nat → Prop) (hG : kWf g) (f : Nat → va_E) (h0 : Nat) (p1 : Int64) (q : Nat → Int64) (i_h0 : ik g 12 h0) (hc0 : f (gr g h0 4) = .inl (gc g 1, 906, .inr (.inl q))) (hc0_ok : RowOK q) : Met l yX12_logAt wq_c_X12_logAt ({ frames := 1, cells := 0, slots := 0, locals := 25 } : Room) (va_Pc [.ref h0, .long p1] (fun U => kIn dC dI g A f U)) (va_Qi (fun (r : Int32) (_ : Unit) => (r.toInt = -1 ∧ ¬ ((q 1).toInt - (q 5).toInt ≤ p1.toInt ∧ p1.toInt ≤ (q 1).toInt - 1)) ∨ ((q 1).toInt - (q 5).toInt ≤ p1.toInt ∧ p1.toInt ≤ (q 1).toInt - 1 ∧ ∃ l : Nat, r = nI (522 + 3 * l) ∧ (l : Int) < (q 5).toInt)) (fun (_ : Unit) t => Iv dC dI g A f t.heap) A) 0 0 A := by
  refine Met.ofW (cc := cX12_logAt) (maxL := 5) (ret := (some .int)) (by decide) rfl ?_
  intro p e s m args below meth c s₁ B hml hv
  obtain ⟨rfl, hI, hK, hE⟩ := hv
  have hx := B.exec
  have hb := B.bytes
  have hr := B.returns
  have hts := atoms_spec (ws := wq_c_X12_logAt) B.pre
  have hown : s.vm.findClass RX12 = some m.cls := findClass_of_methodNamed B.named
  have hlocks := B.notSynchronized
  have hS : va_S A s.heap s.heap [] := va_S.rf
  have hl := lv_entry ([.ref h0, .long p1]) (n := 5) (Nat.le_of_ble_eq_true rfl)
  rw [lg_entry_eq]
  generalize (lg_sl ([.ref h0, .long p1]) ++ List.replicate (5 - (lg_sl ([.ref h0, .long p1])).length) Slot.unset).toArray = ls at hl ⊢
  have hl : lv_has ls 5 [(0, .ref h0), (1, .long p1)] := hl
  have i_1 := kw_12_4 hG i_h0
  have d_2 := rk_hd hc0_ok
  refine lv_aload_n hx hb dX12_logAt_0 rfl (lv_at hl 0 rfl) ?_
  obtain ⟨x_4, x_5, x_6, x_7, x_8, x_9, x_10, x_11, x_12, x_13, x_14, x_15, x_16, x_17, k_3, b_18, b_19, b_20, b_21, b_22, b_23⟩ := op_12 hI i_h0
  refine k_get (ci := 12) (v := .ref (gr g h0 4)) (C := RX12) (T := TX12) (N := 27) hx hb hts (fun _ h0_ => List.mem_cons_of_mem _ (List.mem_append_right _ (List.mem_append_left _ h0_))) hown hK hI i_h0.1 k_3 rfl 4 (by decide) (hts (.fieldLink RX12 16 "DeadlineShareModel" "row" "[J") (List.mem_cons_of_mem _ (List.mem_append_left _ (List.mem_of_getElem? (i := 0) rfl)))) (fun _ h9 => h9) rfl dX12_logAt_1 ?_
  refine lv_iconst (v := 1) hx hb dX12_logAt_4 (by decide) ?_
  refine k_lald hx hb hK hI i_1.1 1 hc0 rfl (by unfold vp_in; decide) dX12_logAt_5 ?_
  refine k_topl (y := q 1) (congrArg q (show Int32.toNatClampNeg 1 = 1 by decide)) ?_
  refine lv_aload_n hx hb dX12_logAt_6 rfl (lv_at hl 0 rfl) ?_
  refine k_get (ci := 12) (v := .ref (gr g h0 4)) (C := RX12) (T := TX12) (N := 27) hx hb hts (fun _ h0_ => List.mem_cons_of_mem _ (List.mem_append_right _ (List.mem_append_left _ h0_))) hown hK hI i_h0.1 k_3 rfl 4 (by decide) (hts (.fieldLink RX12 16 "DeadlineShareModel" "row" "[J") (List.mem_cons_of_mem _ (List.mem_append_left _ (List.mem_of_getElem? (i := 0) rfl)))) (fun _ h9 => h9) rfl dX12_logAt_7 ?_
  refine lv_iconst (v := 5) hx hb dX12_logAt_10 (by decide) ?_
  refine k_lald hx hb hK hI i_1.1 1 hc0 rfl (by unfold vp_in; decide) dX12_logAt_11 ?_
  refine k_topl (y := q 5) (congrArg q (show Int32.toNatClampNeg 5 = 5 by decide)) ?_
  refine lv_lsub hx hb dX12_logAt_12 ?_
  refine lv_topl (fun v_28 ev_28 => ?_)
  have tv_28 := l_sb (q 1) (q 5)
  rw [← ev_28] at tv_28
  refine lv_lstore_n (lv' := [(3, .long v_28), (0, .ref h0), (1, .long p1)]) hx hb dX12_logAt_13 rfl hl (by decide) rfl (fun ls hl => ?_)
  refine lv_lload_n hx hb dX12_logAt_14 rfl (lv_at hl 2 rfl) ?_
  refine lv_lload_n hx hb dX12_logAt_15 rfl (lv_at hl 0 rfl) ?_
  refine lv_aload_n hx hb dX12_logAt_16 rfl (lv_at hl 1 rfl) ?_
  refine k_get (ci := 12) (v := .ref (gr g h0 4)) (C := RX12) (T := TX12) (N := 27) hx hb hts (fun _ h0_ => List.mem_cons_of_mem _ (List.mem_append_right _ (List.mem_append_left _ h0_))) hown hK hI i_h0.1 k_3 rfl 4 (by decide) (hts (.fieldLink RX12 16 "DeadlineShareModel" "row" "[J") (List.mem_cons_of_mem _ (List.mem_append_left _ (List.mem_of_getElem? (i := 0) rfl)))) (fun _ h9 => h9) rfl dX12_logAt_17 ?_
  refine lv_iconst (v := 1) hx hb dX12_logAt_20 (by decide) ?_
  refine k_lald hx hb hK hI i_1.1 1 hc0 rfl (by unfold vp_in; decide) dX12_logAt_21 ?_
  refine k_topl (y := q 1) (congrArg q (show Int32.toNatClampNeg 1 = 1 by decide)) ?_
  refine lv_lconst (v := 1) hx hb dX12_logAt_22 (by decide) ?_
  refine lv_lsub hx hb dX12_logAt_23 ?_
  refine lv_topl (fun v_31 ev_31 => ?_)
  have tv_31 := l_sb (q 1) 1
  rw [← ev_31, show Int64.toInt 1 = 1 from by decide] at tv_31
  refine va_calli (va_runS (As := [.long p1, .long v_28, .long v_31]) (rest := []) ⟨hx, hb, hml, hown, hts⟩ (c_X12_in l dC dI g A hG f p1 v_28 v_31) (va_cwS 3 hts (gi_S (fun w_ h0_ => ⟨List.mem_cons_of_mem _ (List.mem_append_right _ (List.mem_append_right _ (List.mem_append_left _ h0_))), (tb_c_X12_in w_ h0_).2⟩) (List.mem_cons_of_mem _ (List.mem_append_left _ (List.mem_of_getElem? (i := 1) rfl))) (List.mem_cons_of_mem _ (List.mem_append_left _ (List.mem_of_getElem? (i := 2) rfl))) (List.mem_cons_of_mem _ (List.mem_append_left _ (List.mem_of_getElem? (i := 3) rfl)))) rfl rfl rfl (by decide +kernel) ⟨Nat.le_of_ble_eq_true rfl, Nat.le_of_ble_eq_true rfl⟩) ⟨fun a U g mk q => ⟨q.1, q.2.calling rfl rfl⟩, fun U hU hW => ⟨rfl, kIn.of hI hK hE hS hU hW⟩⟩ rfl rfl hl.1 rfl (lv_room (Nat.le_of_ble_eq_true rfl)) dX12_logAt_24 ⟨Nat.le_of_ble_eq_true rfl, Nat.le_of_ble_eq_true rfl⟩) hS (fun q _ h => h) (fun q h => h) (fun r_33 u t H1 locs ht hvm w_32 hB hz1 hk1 hS => ?_)
  have hI : Iv dC dI g A f t.heap := hB
  rw [ht] at hI
  generalize H1 = H at hI hS ⊢
  refine W.widen (k := 0) (n := 0) (Nat.le_of_ble_eq_true rfl) (Nat.le_of_ble_eq_true rfl) ?_
  have w_32 : (r_33.toInt = 0 ∧ (p1.toInt < v_28.toInt ∨ v_31.toInt < p1.toInt)) ∨ (r_33.toInt = 1 ∧ v_28.toInt ≤ p1.toInt ∧ p1.toInt ≤ v_31.toInt) := w_32
  refine lv_if_eq (tgt := 43) hx hb dX12_logAt_27 (by decide) (fun c_34 => ?_) (fun c_34 => ?_)
  · have c_34 := kc_eq rfl (by decide : Int32.toInt 0 = 0) c_34
    refine lv_iconst (v := (-1)) hx hb dX12_logAt_43 (by decide) ?_
    exact W.iret (v := (-1)) hx hb hr (fun t ht hW => ⟨⟨(-1), (), rfl, (Or.inl ⟨by decide, by omega⟩), k_ret ht hI⟩, hS.F ht⟩) hS.2.2 dX12_logAt_44
  · have c_34 := kn_eq rfl (by decide : Int32.toInt 0 = 0) c_34
    refine lv_sipush (v := 522) hx hb dX12_logAt_30 (by decide) ?_
    refine lv_iconst (v := 3) hx hb dX12_logAt_33 (by decide) ?_
    refine lv_lload_n hx hb dX12_logAt_34 rfl (lv_at hl 2 rfl) ?_
    refine lv_lload_n hx hb dX12_logAt_35 rfl (lv_at hl 0 rfl) ?_
    refine lv_lsub hx hb dX12_logAt_36 ?_
    refine lv_topl (fun v_35 ev_35 => ?_)
    have tv_35 := l_sb p1 v_28
    rw [← ev_35] at tv_35
    refine lv_l2i (v := v_35.toInt32) hx hb dX12_logAt_37 rfl ?_
    refine lv_topi (fun v_36 ev_36 => ?_)
    have tv_36 := k_l2i v_35
    rw [← ev_36] at tv_36
    obtain ⟨m_37, em_37, tm_37⟩ := k_nat (x := v_36) (by omega)
    refine k_topi (y := nI m_37) em_37 ?_
    refine lv_imul hx hb dX12_logAt_38 ?_
    refine k_topi (y := nI (3 * m_37)) ((pk_mul 3 m_37).trans (congrArg nI (by omega))) ?_
    refine lv_iadd hx hb dX12_logAt_39 ?_
    refine k_topi (y := nI (522 + 3 * m_37)) ((nI_add 522 (3 * m_37)).trans (congrArg nI (by omega))) ?_
    refine lv_goto (tgt := 44) hx hb dX12_logAt_40 (by decide) ?_
    exact W.iret (v := (nI (522 + 3 * m_37))) hx hb hr (fun t ht hW => ⟨⟨nI (522 + 3 * m_37), (), rfl, (Or.inr ⟨by omega, by omega, m_37, rfl, by omega⟩), k_ret ht hI⟩, hS.F ht⟩) hS.2.2 dX12_logAt_44
theorem tw_911 : q_g (.selects RX12 yX12_logAt yX12_logAt) := ⟨(List.mem_append_left _ (List.mem_of_getElem? (i := 59) (by decide +kernel))), good_of_word (by decide +kernel)⟩
theorem tw_912 : q_g (.instanceMethod yX12_logAt) := ⟨(List.mem_append_right _ (List.mem_of_getElem? (i := 1477) (by decide +kernel))), good_of_word (by decide +kernel)⟩
theorem tw_913 : q_g (.methodLink RX12 296 yX12_logAt) := ⟨(List.mem_append_right _ (List.mem_of_getElem? (i := 1475) (by decide +kernel))), good_of_word (by decide +kernel)⟩
theorem tw_914 : q_g (.code yX12_areKept cX12_areKept 3 (some .boolean)) := ⟨(List.mem_append_right _ (List.mem_of_getElem? (i := 1486) (by decide +kernel))), good_of_word (by decide +kernel)⟩
def ow_c_X12_areKept : List Cond := [.methodLink RX12 296 yX12_logAt, .instanceMethod yX12_logAt, .selects RX12 yX12_logAt yX12_logAt, .initialized RX12]
def wq_c_X12_areKept : List Cond := .code yX12_areKept cX12_areKept 3 (some .boolean) :: (ow_c_X12_areKept ++ (wq_c_X12_logAt ++ ([] : List Cond)))
theorem tb_c_X12_areKept : ∀ w ∈ wq_c_X12_areKept, q_g w := by
  unfold wq_c_X12_areKept ow_c_X12_areKept
  exact q_cons tw_914 (q_app (q_cons tw_913 (q_cons tw_912 (q_cons tw_911 (q_cons tw_728 q_nil)))) (q_app tb_c_X12_logAt q_nil))
set_option maxHeartbeats 4000000 in
set_option maxRecDepth 100000 in
theorem c_X12_areKept (l : Launch) (dC : Nat → ClassId) (dI : Nat → Nat → Nat) (g : kG) (A : Nat → Prop) (hG : kWf g) (f : Nat → va_E) (h0 : Nat) (p1 : Int32) (p2 : Int32) (q : Nat → Int64) (i_h0 : ik g 12 h0) (hc0 : f (gr g h0 4) = .inl (gc g 1, 906, .inr (.inl q))) (hc0_ok : RowOK q) : Met l yX12_areKept wq_c_X12_areKept ({ frames := 2, cells := 0, slots := 0, locals := 49 } : Room) (va_Pc [.ref h0, .int p1, .int p2] (fun U => kIn dC dI g A f U)) (va_Qi (fun (r : Int32) (_ : Unit) => r.toInt = 0 ∨ p1.toInt = p2.toInt ∨ (p1.toInt < p2.toInt ∧ (q 1).toInt - (q 5).toInt ≤ p1.toInt ∧ p2.toInt ≤ (q 1).toInt)) (fun (_ : Unit) t => Iv dC dI g A f t.heap) A) 0 0 A := by
  refine Met.ofW (cc := cX12_areKept) (maxL := 3) (ret := (some .boolean)) (by decide) rfl ?_
  intro p e s m args below meth c s₁ B hml hv
  obtain ⟨rfl, hI, hK, hE⟩ := hv
  have hx := B.exec
  have hb := B.bytes
  have hr := B.returns
  have hts := atoms_spec (ws := wq_c_X12_areKept) B.pre
  have hown : s.vm.findClass RX12 = some m.cls := findClass_of_methodNamed B.named
  have hlocks := B.notSynchronized
  have hS : va_S A s.heap s.heap [] := va_S.rf
  have hl := lv_entry ([.ref h0, .int p1, .int p2]) (n := 3) (Nat.le_of_ble_eq_true rfl)
  rw [lg_entry_eq]
  generalize (lg_sl ([.ref h0, .int p1, .int p2]) ++ List.replicate (3 - (lg_sl ([.ref h0, .int p1, .int p2])).length) Slot.unset).toArray = ls at hl ⊢
  have hl : lv_has ls 3 [(0, .ref h0), (1, .int p1), (2, .int p2)] := hl
  have i_1 := kw_12_4 hG i_h0
  have d_2 := rk_hd hc0_ok
  refine lv_iload_n hx hb dX12_areKept_0 rfl (lv_at hl 1 rfl) ?_
  refine lv_iload_n hx hb dX12_areKept_1 rfl (lv_at hl 2 rfl) ?_
  refine lv_icmp_eq (tgt := 32) hx hb dX12_areKept_2 (by decide) (fun c_3 => ?_) (fun c_3 => ?_)
  · have c_3 := kc_eq rfl rfl c_3
    refine lv_iconst (v := 1) hx hb dX12_areKept_32 (by decide) ?_
    refine lv_goto (tgt := 37) hx hb dX12_areKept_33 (by decide) ?_
    have w_4 : (1 : Int32).toInt = 0 ∨ p1.toInt = p2.toInt ∨ (p1.toInt < p2.toInt ∧ (q 1).toInt - (q 5).toInt ≤ p1.toInt ∧ p2.toInt ≤ (q 1).toInt) := by rw [show Int32.toInt (1) = 1 from by decide]; omega
    exact W.zret (v := 1) hx hb hr rfl (fun t ht hW => ⟨⟨1, (), rfl, w_4, k_ret ht hI⟩, hS.F ht⟩) hS.2.2 dX12_areKept_37
  · have c_3 := kn_eq rfl rfl c_3
    refine lv_iload_n hx hb dX12_areKept_5 rfl (lv_at hl 1 rfl) ?_
    refine lv_iload_n hx hb dX12_areKept_6 rfl (lv_at hl 2 rfl) ?_
    refine lv_icmp_ge (tgt := 36) hx hb dX12_areKept_7 (by decide) (fun c_5 => ?_) (fun c_5 => ?_)
    · have c_5 := kc_le rfl rfl c_5
      refine lv_iconst (v := 0) hx hb dX12_areKept_36 (by decide) ?_
      have w_6 : (0 : Int32).toInt = 0 ∨ p1.toInt = p2.toInt ∨ (p1.toInt < p2.toInt ∧ (q 1).toInt - (q 5).toInt ≤ p1.toInt ∧ p2.toInt ≤ (q 1).toInt) := by rw [show Int32.toInt (0) = 0 from by decide]; omega
      exact W.zret (v := 0) hx hb hr rfl (fun t ht hW => ⟨⟨0, (), rfl, w_6, k_ret ht hI⟩, hS.F ht⟩) hS.2.2 dX12_areKept_37
    · have c_5 := kn_le rfl rfl c_5
      refine lv_aload_n hx hb dX12_areKept_10 rfl (lv_at hl 0 rfl) ?_
      refine lv_iload_n hx hb dX12_areKept_11 rfl (lv_at hl 1 rfl) ?_
      refine lv_i2l (v := p1.toInt64) hx hb dX12_areKept_12 rfl ?_
      have t_7 := Int32.toInt_toInt64 p1
      obtain ⟨x_9, x_10, x_11, x_12, x_13, x_14, x_15, x_16, x_17, x_18, x_19, x_20, x_21, x_22, k_8, b_23, b_24, b_25, b_26, b_27, b_28⟩ := op_12 hI i_h0
      refine va_calli (va_runV (As := [.long p1.toInt64]) (rest := []) ⟨hx, hb, hml, hown, hts⟩ (c_X12_logAt l dC dI g A hG f h0 p1.toInt64 q i_h0 hc0 hc0_ok) (cwV 1 hts (gi_V (fun w_ h0_ => ⟨List.mem_cons_of_mem _ (List.mem_append_right _ (List.mem_append_left _ h0_)), (tb_c_X12_logAt w_ h0_).2⟩) (List.mem_cons_of_mem _ (List.mem_append_left _ (List.mem_of_getElem? (i := 0) rfl))) (List.mem_cons_of_mem _ (List.mem_append_left _ (List.mem_of_getElem? (i := 1) rfl))) (List.mem_cons_of_mem _ (List.mem_append_left _ (List.mem_of_getElem? (i := 2) rfl))) (List.mem_cons_of_mem _ (List.mem_append_left _ (List.mem_of_getElem? (i := 3) rfl)))) rfl rfl rfl (by decide +kernel) ⟨Nat.le_of_ble_eq_true rfl, Nat.le_of_ble_eq_true rfl⟩) ⟨fun a U g mk q => ⟨q.1, q.2.calling rfl rfl⟩, k_recv hK hI i_h0.1 k_8 (ci := 12) rfl, fun U hU hW => ⟨rfl, kIn.of hI hK hE hS hU hW⟩⟩ rfl rfl hl.1 rfl (lv_room (Nat.le_of_ble_eq_true rfl)) dX12_areKept_13 ⟨Nat.le_of_ble_eq_true rfl, Nat.le_of_ble_eq_true rfl⟩) hS (fun q _ h => h) (fun q h => h) (fun r_30 u t H1 locs ht hvm w_29 hB hz1 hk1 hS => ?_)
      have hI : Iv dC dI g A f t.heap := hB
      rw [ht] at hI
      generalize H1 = H at hI hS ⊢
      refine W.widen (k := 0) (n := 0) (Nat.le_of_ble_eq_true rfl) (Nat.le_of_ble_eq_true rfl) ?_
      have w_29 : (r_30.toInt = -1 ∧ ¬ ((q 1).toInt - (q 5).toInt ≤ p1.toInt64.toInt ∧ p1.toInt64.toInt ≤ (q 1).toInt - 1)) ∨ ((q 1).toInt - (q 5).toInt ≤ p1.toInt64.toInt ∧ p1.toInt64.toInt ≤ (q 1).toInt - 1 ∧ ∃ l : Nat, r_30 = nI (522 + 3 * l) ∧ (l : Int) < (q 5).toInt) := w_29
      have d_31 : r_30.toInt = -1 ∨ 522 ≤ r_30.toInt := by rcases w_29 with h9 | ⟨_, _, l9, e9, h9⟩
        · exact Or.inl h9.1
        · rw [e9, nI_toInt (by omega)]; exact Or.inr (by omega)
      have d_32 : r_30.toInt ≠ -1 → ((q 1).toInt - (q 5).toInt ≤ Int64.toInt p1.toInt64 ∧ Int64.toInt p1.toInt64 ≤ (q 1).toInt - 1) := fun h9 => w_29.elim (fun h8 => absurd h8.1 h9) (fun h8 => ⟨h8.1, h8.2.1⟩)
      refine lv_iconst (v := (-1)) hx hb dX12_areKept_16 (by decide) ?_
      refine lv_icmp_eq (tgt := 36) hx hb dX12_areKept_17 (by decide) (fun c_33 => ?_) (fun c_33 => ?_)
      · have c_33 := kc_eq rfl (by decide : Int32.toInt (-1) = (-1)) c_33
        refine lv_iconst (v := 0) hx hb dX12_areKept_36 (by decide) ?_
        have w_34 : (0 : Int32).toInt = 0 ∨ p1.toInt = p2.toInt ∨ (p1.toInt < p2.toInt ∧ (q 1).toInt - (q 5).toInt ≤ p1.toInt ∧ p2.toInt ≤ (q 1).toInt) := by rw [show Int32.toInt (0) = 0 from by decide]; omega
        exact W.zret (v := 0) hx hb hr rfl (fun t ht hW => ⟨⟨0, (), rfl, w_34, k_ret ht hI⟩, hS.F ht⟩) hS.2.2 dX12_areKept_37
      · have c_33 := kn_eq rfl (by decide : Int32.toInt (-1) = (-1)) c_33
        refine lv_aload_n hx hb dX12_areKept_20 rfl (lv_at hl 0 rfl) ?_
        refine lv_iload_n hx hb dX12_areKept_21 rfl (lv_at hl 2 rfl) ?_
        refine lv_i2l (v := p2.toInt64) hx hb dX12_areKept_22 rfl ?_
        have t_35 := Int32.toInt_toInt64 p2
        refine lv_lconst (v := 1) hx hb dX12_areKept_23 (by decide) ?_
        refine lv_lsub hx hb dX12_areKept_24 ?_
        refine lv_topl (fun v_36 ev_36 => ?_)
        have tv_36 := l_sb p2.toInt64 1
        rw [← ev_36, show Int64.toInt 1 = 1 from by decide] at tv_36
        refine va_calli (va_runV (As := [.long v_36]) (rest := []) ⟨hx, hb, hml, hown, hts⟩ (c_X12_logAt l dC dI g A hG f h0 v_36 q i_h0 hc0 hc0_ok) (cwV 1 hts (gi_V (fun w_ h0_ => ⟨List.mem_cons_of_mem _ (List.mem_append_right _ (List.mem_append_left _ h0_)), (tb_c_X12_logAt w_ h0_).2⟩) (List.mem_cons_of_mem _ (List.mem_append_left _ (List.mem_of_getElem? (i := 0) rfl))) (List.mem_cons_of_mem _ (List.mem_append_left _ (List.mem_of_getElem? (i := 1) rfl))) (List.mem_cons_of_mem _ (List.mem_append_left _ (List.mem_of_getElem? (i := 2) rfl))) (List.mem_cons_of_mem _ (List.mem_append_left _ (List.mem_of_getElem? (i := 3) rfl)))) rfl rfl rfl (by decide +kernel) ⟨Nat.le_of_ble_eq_true rfl, Nat.le_of_ble_eq_true rfl⟩) ⟨fun a U g mk q => ⟨q.1, q.2.calling rfl rfl⟩, k_recv hK hI i_h0.1 k_8 (ci := 12) rfl, fun U hU hW => ⟨rfl, kIn.of hI hK hE hS hU hW⟩⟩ rfl rfl hl.1 rfl (lv_room (Nat.le_of_ble_eq_true rfl)) dX12_areKept_25 ⟨Nat.le_of_ble_eq_true rfl, Nat.le_of_ble_eq_true rfl⟩) hS (fun q _ h => h) (fun q h => h) (fun r_38 u t H1 locs ht hvm w_37 hB hz1 hk1 hS => ?_)
        have hI : Iv dC dI g A f t.heap := hB
        rw [ht] at hI
        generalize H1 = H at hI hS ⊢
        refine W.widen (k := 0) (n := 0) (Nat.le_of_ble_eq_true rfl) (Nat.le_of_ble_eq_true rfl) ?_
        have w_37 : (r_38.toInt = -1 ∧ ¬ ((q 1).toInt - (q 5).toInt ≤ v_36.toInt ∧ v_36.toInt ≤ (q 1).toInt - 1)) ∨ ((q 1).toInt - (q 5).toInt ≤ v_36.toInt ∧ v_36.toInt ≤ (q 1).toInt - 1 ∧ ∃ l : Nat, r_38 = nI (522 + 3 * l) ∧ (l : Int) < (q 5).toInt) := w_37
        have d_39 : r_38.toInt = -1 ∨ 522 ≤ r_38.toInt := by rcases w_37 with h9 | ⟨_, _, l9, e9, h9⟩
          · exact Or.inl h9.1
          · rw [e9, nI_toInt (by omega)]; exact Or.inr (by omega)
        have d_40 : r_38.toInt ≠ -1 → ((q 1).toInt - (q 5).toInt ≤ Int64.toInt v_36 ∧ Int64.toInt v_36 ≤ (q 1).toInt - 1) := fun h9 => w_37.elim (fun h8 => absurd h8.1 h9) (fun h8 => ⟨h8.1, h8.2.1⟩)
        refine lv_iconst (v := (-1)) hx hb dX12_areKept_28 (by decide) ?_
        refine lv_icmp_eq (tgt := 36) hx hb dX12_areKept_29 (by decide) (fun c_41 => ?_) (fun c_41 => ?_)
        · have c_41 := kc_eq rfl (by decide : Int32.toInt (-1) = (-1)) c_41
          refine lv_iconst (v := 0) hx hb dX12_areKept_36 (by decide) ?_
          have w_42 : (0 : Int32).toInt = 0 ∨ p1.toInt = p2.toInt ∨ (p1.toInt < p2.toInt ∧ (q 1).toInt - (q 5).toInt ≤ p1.toInt ∧ p2.toInt ≤ (q 1).toInt) := by rw [show Int32.toInt (0) = 0 from by decide]; omega
          exact W.zret (v := 0) hx hb hr rfl (fun t ht hW => ⟨⟨0, (), rfl, w_42, k_ret ht hI⟩, hS.F ht⟩) hS.2.2 dX12_areKept_37
        · have c_41 := kn_eq rfl (by decide : Int32.toInt (-1) = (-1)) c_41
          refine lv_iconst (v := 1) hx hb dX12_areKept_32 (by decide) ?_
          refine lv_goto (tgt := 37) hx hb dX12_areKept_33 (by decide) ?_
          have w_43 : (1 : Int32).toInt = 0 ∨ p1.toInt = p2.toInt ∨ (p1.toInt < p2.toInt ∧ (q 1).toInt - (q 5).toInt ≤ p1.toInt ∧ p2.toInt ≤ (q 1).toInt) := by rw [show Int32.toInt (1) = 1 from by decide]; omega
          exact W.zret (v := 1) hx hb hr rfl (fun t ht hW => ⟨⟨1, (), rfl, w_43, k_ret ht hI⟩, hS.F ht⟩) hS.2.2 dX12_areKept_37
theorem tw_915 : q_g (.constantLong RX12 304 (15)) := ⟨(List.mem_append_right _ (List.mem_of_getElem? (i := 1495) (by decide +kernel))), good_of_word (by decide +kernel)⟩
theorem tw_916 : q_g (.code yX12_shareAt cX12_shareAt 5 (some .long)) := ⟨(List.mem_append_right _ (List.mem_of_getElem? (i := 1494) (by decide +kernel))), good_of_word (by decide +kernel)⟩
def ow_c_X12_shareAt : List Cond := [.fieldLink RX12 16 "DeadlineShareModel" "row" "[J", .constantLong RX12 304 (15), .constantLong RX12 108 (5354228880)]
def wq_c_X12_shareAt : List Cond := .code yX12_shareAt cX12_shareAt 5 (some .long) :: (ow_c_X12_shareAt ++ (u_ws RX12 TX12 27 ++ ([] : List Cond)))
theorem tb_c_X12_shareAt : ∀ w ∈ wq_c_X12_shareAt, q_g w := by
  unfold wq_c_X12_shareAt ow_c_X12_shareAt
  exact q_cons tw_916 (q_app (q_cons tw_731 (q_cons tw_915 (q_cons tw_757 q_nil))) (q_app tu_X12 q_nil))
set_option maxHeartbeats 4000000 in
set_option maxRecDepth 100000 in
theorem c_X12_shareAt (l : Launch) (dC : Nat → ClassId) (dI : Nat → Nat → Nat) (g : kG) (A : Nat → Prop) (hG : kWf g) (f : Nat → va_E) (h0 : Nat) (p1 : Int32) (p2 : Nat) (q : Nat → Int64) (i_h0 : ik g 12 h0) (hc0 : f (gr g h0 4) = .inl (gc g 1, 906, .inr (.inl q))) (hc0_ok : RowOK q) (hl9 : ∃ l : Nat, p2 = 522 + 3 * l ∧ (l : Int) < (q 5).toInt) : Met l yX12_shareAt wq_c_X12_shareAt ({ frames := 0, cells := 0, slots := 0, locals := 0 } : Room) (va_Pc [.ref h0, .int p1, .int (nI p2)] (fun U => kIn dC dI g A f U)) (va_Ql (fun (r : Int64) (_ : Unit) => True) (fun (_ : Unit) t => Iv dC dI g A f t.heap) A) 0 0 A := by
  refine Met.ofW (cc := cX12_shareAt) (maxL := 5) (ret := (some .long)) (by decide) rfl ?_
  intro p e s m args below meth c s₁ B hml hv
  obtain ⟨rfl, hI, hK, hE⟩ := hv
  have hx := B.exec
  have hb := B.bytes
  have hr := B.returns
  have hts := atoms_spec (ws := wq_c_X12_shareAt) B.pre
  have hown : s.vm.findClass RX12 = some m.cls := findClass_of_methodNamed B.named
  have hlocks := B.notSynchronized
  have hS : va_S A s.heap s.heap [] := va_S.rf
  have hl := lv_entry ([.ref h0, .int p1, .int (nI p2)]) (n := 5) (Nat.le_of_ble_eq_true rfl)
  rw [lg_entry_eq]
  generalize (lg_sl ([.ref h0, .int p1, .int (nI p2)]) ++ List.replicate (5 - (lg_sl ([.ref h0, .int p1, .int (nI p2)])).length) Slot.unset).toArray = ls at hl ⊢
  have hl : lv_has ls 5 [(0, .ref h0), (1, .int p1), (2, .int (nI p2))] := hl
  have i_1 := kw_12_4 hG i_h0
  have d_2 := rk_hd hc0_ok
  obtain ⟨l9, el9, tl9⟩ := hl9
  refine lv_aload_n hx hb dX12_shareAt_0 rfl (lv_at hl 0 rfl) ?_
  obtain ⟨x_4, x_5, x_6, x_7, x_8, x_9, x_10, x_11, x_12, x_13, x_14, x_15, x_16, x_17, k_3, b_18, b_19, b_20, b_21, b_22, b_23⟩ := op_12 hI i_h0
  refine k_get (ci := 12) (v := .ref (gr g h0 4)) (C := RX12) (T := TX12) (N := 27) hx hb hts (fun _ h0_ => List.mem_cons_of_mem _ (List.mem_append_right _ (List.mem_append_left _ h0_))) hown hK hI i_h0.1 k_3 rfl 4 (by decide) (hts (.fieldLink RX12 16 "DeadlineShareModel" "row" "[J") (List.mem_cons_of_mem _ (List.mem_append_left _ (List.mem_of_getElem? (i := 0) rfl)))) (fun _ h9 => h9) rfl dX12_shareAt_1 ?_
  refine lv_iload_n hx hb dX12_shareAt_4 rfl (lv_at hl 2 rfl) ?_
  refine lv_iconst (v := 2) hx hb dX12_shareAt_5 (by decide) ?_
  refine lv_iadd hx hb dX12_shareAt_6 ?_
  refine k_topi (y := nI (p2 + 2)) ((nI_add p2 2).trans (congrArg nI (by omega))) ?_
  refine k_lald hx hb hK hI i_1.1 1 hc0 rfl (vp_in_nI (by omega) (by omega)) dX12_shareAt_7 ?_
  refine k_topl (y := q (p2 + 2)) (congrArg q (nI_clamp (by omega))) ?_
  refine lv_iconst (v := 4) hx hb dX12_shareAt_8 (by decide) ?_
  refine lv_iload_n hx hb dX12_shareAt_9 rfl (lv_at hl 1 rfl) ?_
  refine lv_imul hx hb dX12_shareAt_10 ?_
  refine lv_topi (fun v_26 ev_26 => ?_)
  refine lv_lshr hx hb dX12_shareAt_11 rfl ?_
  refine lv_topl (fun v_27 ev_27 => ?_)
  refine lv_ldc2 hx hb hown (hts (.constantLong RX12 304 (15)) (List.mem_cons_of_mem _ (List.mem_append_left _ (List.mem_of_getElem? (i := 1) rfl)))) dX12_shareAt_12 ?_
  refine lv_land hx hb dX12_shareAt_15 ?_
  refine lv_topl (fun v_28 ev_28 => ?_)
  have tv_28 : (q (p2 + 2)).toInt = 0 → v_28.toInt = 0 := fun h9 => by rw [ev_28, ev_27]; exact l_sh0 _ _ h9
  refine lv_lstore_n (lv' := [(3, .long v_28), (0, .ref h0), (1, .int p1), (2, .int (nI p2))]) hx hb dX12_shareAt_16 rfl hl (by decide) rfl (fun ls hl => ?_)
  refine lv_lload_n hx hb dX12_shareAt_17 rfl (lv_at hl 0 rfl) ?_
  refine lv_lconst (v := 0) hx hb dX12_shareAt_18 (by decide) ?_
  refine W.lcmp hx hb dX12_shareAt_19 ?_
  refine lv_if_ne (tgt := 27) hx hb dX12_shareAt_20 (by decide) (fun c_29 => ?_) (fun c_29 => ?_)
  · have c_29 := ln_eq rfl (by decide : Int64.toInt 0 = 0) (fun h9 => c_29 ((lg_cmp_eq _ _).mpr h9))
    have d_30 : 1 ≤ (q (p2 + 1)).toInt := by rw [el9]; exact rk_log hc0_ok tl9 (fun h9 => by rw [← el9] at h9; omega)
    refine lv_ldc2 hx hb hown (hts (.constantLong RX12 108 (5354228880)) (List.mem_cons_of_mem _ (List.mem_append_left _ (List.mem_of_getElem? (i := 2) rfl)))) dX12_shareAt_27 ?_
    refine lv_aload_n hx hb dX12_shareAt_30 rfl (lv_at hl 1 rfl) ?_
    refine k_get (ci := 12) (v := .ref (gr g h0 4)) (C := RX12) (T := TX12) (N := 27) hx hb hts (fun _ h0_ => List.mem_cons_of_mem _ (List.mem_append_right _ (List.mem_append_left _ h0_))) hown hK hI i_h0.1 k_3 rfl 4 (by decide) (hts (.fieldLink RX12 16 "DeadlineShareModel" "row" "[J") (List.mem_cons_of_mem _ (List.mem_append_left _ (List.mem_of_getElem? (i := 0) rfl)))) (fun _ h9 => h9) rfl dX12_shareAt_31 ?_
    refine lv_iload_n hx hb dX12_shareAt_34 rfl (lv_at hl 3 rfl) ?_
    refine lv_iconst (v := 1) hx hb dX12_shareAt_35 (by decide) ?_
    refine lv_iadd hx hb dX12_shareAt_36 ?_
    refine k_topi (y := nI (p2 + 1)) ((nI_add p2 1).trans (congrArg nI (by omega))) ?_
    refine k_lald hx hb hK hI i_1.1 1 hc0 rfl (vp_in_nI (by omega) (by omega)) dX12_shareAt_37 ?_
    refine k_topl (y := q (p2 + 1)) (congrArg q (nI_clamp (by omega))) ?_
    refine lv_ldiv hx hb dX12_shareAt_38 (k_ne0L (by omega)) ?_
    refine lv_topl (fun v_33 ev_33 => ?_)
    refine lv_lload_n hx hb dX12_shareAt_39 rfl (lv_at hl 0 rfl) ?_
    refine lv_lmul hx hb dX12_shareAt_40 ?_
    refine lv_topl (fun v_34 ev_34 => ?_)
    exact W.lret (v := v_34) hx hb hr (fun t ht hW => ⟨⟨v_34, (), rfl, trivial, k_ret ht hI⟩, hS.F ht⟩) hS.2.2 dX12_shareAt_41
  · have c_29 := lc_eq rfl (by decide : Int64.toInt 0 = 0) ((lg_cmp_eq _ _).mp c_29)
    refine lv_lconst (v := 0) hx hb dX12_shareAt_23 (by decide) ?_
    refine lv_goto (tgt := 41) hx hb dX12_shareAt_24 (by decide) ?_
    exact W.lret (v := 0) hx hb hr (fun t ht hW => ⟨⟨0, (), rfl, trivial, k_ret ht hI⟩, hS.F ht⟩) hS.2.2 dX12_shareAt_41
theorem tw_917 : q_g (.selects RX12 yX12_tick yX12_tick) := ⟨(List.mem_append_left _ (List.mem_of_getElem? (i := 48) (by decide +kernel))), good_of_word (by decide +kernel)⟩
theorem tw_918 : q_g (.instanceMethod yX12_tick) := ⟨(List.mem_append_right _ (List.mem_of_getElem? (i := 1399) (by decide +kernel))), good_of_word (by decide +kernel)⟩
theorem tw_919 : q_g (.methodLink RX12 288 yX12_tick) := ⟨(List.mem_append_right _ (List.mem_of_getElem? (i := 1397) (by decide +kernel))), good_of_word (by decide +kernel)⟩
theorem tw_920 : q_g (.selects RX12 yX12_over yX12_over) := ⟨(List.mem_append_left _ (List.mem_of_getElem? (i := 63) (by decide +kernel))), good_of_word (by decide +kernel)⟩
theorem tw_921 : q_g (.instanceMethod yX12_over) := ⟨(List.mem_append_right _ (List.mem_of_getElem? (i := 1510) (by decide +kernel))), good_of_word (by decide +kernel)⟩
theorem tw_922 : q_g (.methodLink RX12 313 yX12_over) := ⟨(List.mem_append_right _ (List.mem_of_getElem? (i := 1508) (by decide +kernel))), good_of_word (by decide +kernel)⟩
theorem tw_923 : q_g (.selects RX12 yX12_begin yX12_begin) := ⟨(List.mem_append_left _ (List.mem_of_getElem? (i := 62) (by decide +kernel))), good_of_word (by decide +kernel)⟩
theorem tw_924 : q_g (.instanceMethod yX12_begin) := ⟨(List.mem_append_right _ (List.mem_of_getElem? (i := 1506) (by decide +kernel))), good_of_word (by decide +kernel)⟩
theorem tw_925 : q_g (.methodLink RX12 310 yX12_begin) := ⟨(List.mem_append_right _ (List.mem_of_getElem? (i := 1504) (by decide +kernel))), good_of_word (by decide +kernel)⟩
theorem tw_926 : q_g (.code yX12_runsWith cX12_runsWith 6 (some .int)) := ⟨(List.mem_append_right _ (List.mem_of_getElem? (i := 1527) (by decide +kernel))), good_of_word (by decide +kernel)⟩
def ow_c_X12_runsWith : List Cond := [.methodLink RX12 310 yX12_begin, .instanceMethod yX12_begin, .selects RX12 yX12_begin yX12_begin, .initialized RX12, .methodLink RX12 94 yX12_weight, .instanceMethod yX12_weight, .selects RX12 yX12_weight yX12_weight, .methodLink RX12 313 yX12_over, .instanceMethod yX12_over, .selects RX12 yX12_over yX12_over, .methodLink RX12 288 yX12_tick, .instanceMethod yX12_tick, .selects RX12 yX12_tick yX12_tick, .methodLink RX12 157 yX12_weighs, .instanceMethod yX12_weighs, .selects RX12 yX12_weighs yX12_weighs]
def wq_c_X12_runsWith : List Cond := .code yX12_runsWith cX12_runsWith 6 (some .int) :: (ow_c_X12_runsWith ++ (wq_c_X12_begin ++ (wq_c_X12_weight ++ (wq_c_X12_over ++ (wq_c_X12_tick ++ (wq_c_X12_weighs ++ ([] : List Cond)))))))
theorem tb_c_X12_runsWith : ∀ w ∈ wq_c_X12_runsWith, q_g w := by
  unfold wq_c_X12_runsWith ow_c_X12_runsWith
  exact q_cons tw_926 (q_app (q_cons tw_925 (q_cons tw_924 (q_cons tw_923 (q_cons tw_728 (q_cons tw_741 (q_cons tw_740 (q_cons tw_739 (q_cons tw_922 (q_cons tw_921 (q_cons tw_920 (q_cons tw_919 (q_cons tw_918 (q_cons tw_917 (q_cons tw_828 (q_cons tw_827 (q_cons tw_826 q_nil)))))))))))))))) (q_app tb_c_X12_begin (q_app tb_c_X12_weight (q_app tb_c_X12_over (q_app tb_c_X12_tick (q_app tb_c_X12_weighs q_nil))))))
set_option maxHeartbeats 4000000 in
set_option maxRecDepth 100000 in
theorem c_X12_runsWith (l : Launch) (dC : Nat → ClassId) (dI : Nat → Nat → Nat) (g : kG) (A : Nat → Prop) (hG : kWf g) (f : Nat → va_E) (h0 : Nat) (p1 : Nat) (p2 : Int32) (p3 : Int32) (z0 : Int32) (z1 : Int32) (z10 : Int32) (z12 : Int32) (z13 : Int32) (z14 : Int32) (z15 : Int32) (z16 : Int64) (z17 : Int32) (z18 : Int32) (z23 : Int32) (z24 : Int64) (z25 : Int64) (z26 : Int64) (q : Nat → Int64) (pp : Nat → Int64) (i_h0 : ik g 12 h0) (hc0 : f h0 = .inr (12, [.int z0, .int z1, .ref (gr g h0 2), .ref (gr g h0 3), .ref (gr g h0 4), .ref (gr g h0 5), .ref (gr g h0 6), .ref (gr g h0 7), .ref (gr g h0 8), .ref (gr g h0 9), .int z10, .ref (gr g h0 11), .int z12, .int z13, .int z14, .int z15, .long z16, .int z17, .int z18, .ref (gr g h0 19), .ref (gr g h0 20), .ref (gr g h0 21), .ref (gr g h0 22), .int z23, .long z24, .long z25, .long z26])) (hc0_10 : 0 ≤ z10.toInt ∧ z10.toInt ≤ 10) (hc0_12 : 0 ≤ z12.toInt ∧ z12.toInt ≤ 200) (hc0_23 : 0 ≤ z23.toInt ∧ z23.toInt ≤ 8) (hc1 : f (gr g h0 4) = .inl (gc g 1, 906, .inr (.inl q))) (hc1_ok : RowOK q) (hc2 : f (gr g h0 6) = .inl (gc g 1, 906, .inr (.inl pp))) (ht : (p1 : Int) < (q 0).toInt) (hw9 : 1 ≤ p2.toInt ∧ p2.toInt ≤ 8) (hm9 : (q 1).toInt + p3.toInt ≤ 9999) : Met l yX12_runsWith wq_c_X12_runsWith ({ frames := 8, cells := 0, slots := 0, locals := 187 } : Room) (va_Pc [.ref h0, .int (nI p1), .int p2, .int p3] (fun U => kIn dC dI g A f U)) (va_Qi (fun (r : Int32) (_ : Unit) => True) (fun (_ : Unit) t => ∃ f1 : Nat → va_E, Iv dC dI g A f1 t.heap ∧ Kp g [12, 32, 34] f f1 ∧ ∃ (w24 : Int64) (q1 : Nat → Int64) (pp1 : Nat → Int64), (f1 h0 = .inr (12, [.int z0, .int z1, .ref (gr g h0 2), .ref (gr g h0 3), .ref (gr g h0 4), .ref (gr g h0 5), .ref (gr g h0 6), .ref (gr g h0 7), .ref (gr g h0 8), .ref (gr g h0 9), .int z10, .ref (gr g h0 11), .int z12, .int z13, .int z14, .int z15, .long z16, .int z17, .int z18, .ref (gr g h0 19), .ref (gr g h0 20), .ref (gr g h0 21), .ref (gr g h0 22), .int z23, .long w24, .long z25, .long z26])) ∧ (f1 (gr g h0 4) = .inl (gc g 1, 906, .inr (.inl q1))) ∧ (RowOK q1) ∧ ((q1 0).toInt = (q 0).toInt) ∧ ((q1 1).toInt = (q 1).toInt) ∧ (f1 (gr g h0 6) = .inl (gc g 1, 906, .inr (.inl pp1)))) A) 0 0 A := by
  refine Met.ofW (cc := cX12_runsWith) (maxL := 6) (ret := (some .int)) (by decide) rfl ?_
  intro p e s m args below meth c s₁ B hml hv
  obtain ⟨rfl, hI, hK, hE⟩ := hv
  have hx := B.exec
  have hb := B.bytes
  have hr := B.returns
  have hts := atoms_spec (ws := wq_c_X12_runsWith) B.pre
  have hown : s.vm.findClass RX12 = some m.cls := findClass_of_methodNamed B.named
  have hlocks := B.notSynchronized
  have hS : va_S A s.heap s.heap [] := va_S.rf
  have hk0 : Kp g [12, 32, 34] f f := Kp.rf
  have hl := lv_entry ([.ref h0, .int (nI p1), .int p2, .int p3]) (n := 6) (Nat.le_of_ble_eq_true rfl)
  rw [lg_entry_eq]
  generalize (lg_sl ([.ref h0, .int (nI p1), .int p2, .int p3]) ++ List.replicate (6 - (lg_sl ([.ref h0, .int (nI p1), .int p2, .int p3])).length) Slot.unset).toArray = ls at hl ⊢
  have hl : lv_has ls 6 [(0, .ref h0), (1, .int (nI p1)), (2, .int p2), (3, .int p3)] := hl
  have i_1 := kw_12_4 hG i_h0
  have d_2 := rk_hd hc1_ok
  have i_3 := kw_12_6 hG i_h0
  refine lv_aload_n hx hb dX12_runsWith_0 rfl (lv_at hl 0 rfl) ?_
  refine va_callv (va_runV (As := []) (rest := []) ⟨hx, hb, hml, hown, hts⟩ (c_X12_begin l dC dI g A hG f h0 q pp i_h0 hc1 hc1_ok hc2) (cwV 0 hts (gi_V (fun w_ h0_ => ⟨List.mem_cons_of_mem _ (List.mem_append_right _ (List.mem_append_left _ h0_)), (tb_c_X12_begin w_ h0_).2⟩) (List.mem_cons_of_mem _ (List.mem_append_left _ (List.mem_of_getElem? (i := 0) rfl))) (List.mem_cons_of_mem _ (List.mem_append_left _ (List.mem_of_getElem? (i := 1) rfl))) (List.mem_cons_of_mem _ (List.mem_append_left _ (List.mem_of_getElem? (i := 2) rfl))) (List.mem_cons_of_mem _ (List.mem_append_left _ (List.mem_of_getElem? (i := 3) rfl)))) rfl rfl rfl (by decide +kernel) ⟨Nat.le_of_ble_eq_true rfl, Nat.le_of_ble_eq_true rfl⟩) ⟨fun a U g mk q => ⟨q.1, q.2.calling rfl rfl⟩, k_recv hK hI i_h0.1 hc0 (ci := 12) rfl, fun U hU hW => ⟨rfl, kIn.of hI hK hE hS hU hW⟩⟩ rfl rfl hl.1 rfl (lv_room (Nat.le_of_ble_eq_true rfl)) dX12_runsWith_1 ⟨Nat.le_of_ble_eq_true rfl, Nat.le_of_ble_eq_true rfl⟩) hS (fun q _ h => h) (fun q h => h) (fun u t H1 locs ht hvm _ hB hz1 hk1 hS => ?_)
  obtain ⟨f_4, hI, kc_6, pp1_7, k_8, z_9, z_10, z_11⟩ := hB
  rw [ht] at hI
  have k_12 : f_4 h0 = .inr (12, [.int z0, .int z1, .ref (gr g h0 2), .ref (gr g h0 3), .ref (gr g h0 4), .ref (gr g h0 5), .ref (gr g h0 6), .ref (gr g h0 7), .ref (gr g h0 8), .ref (gr g h0 9), .int z10, .ref (gr g h0 11), .int z12, .int z13, .int z14, .int z15, .long z16, .int z17, .int z18, .ref (gr g h0 19), .ref (gr g h0 20), .ref (gr g h0 21), .ref (gr g h0 22), .int z23, .long z24, .long z25, .long z26]) := Kp.at kc_6 i_h0 (by decide) hc0
  have k_13 : f_4 (gr g h0 4) = .inl (gc g 1, 906, .inr (.inl q)) := Kp.at kc_6 i_1 (by decide) hc1
  have z_9 : RowOK pp1_7 := z_9
  have d_14 := rk_hd z_9
  have z_10 : (pp1_7 0).toInt = (q 0).toInt := z_10
  have z_11 : (pp1_7 1).toInt = (q 1).toInt := z_11
  have kp_15 := Kp.call hk0 kc_6 (by decide)
  generalize H1 = H at hI hS ⊢
  refine W.widen (k := 0) (n := 0) (Nat.le_of_ble_eq_true rfl) (Nat.le_of_ble_eq_true rfl) ?_
  refine lv_iload_n hx hb dX12_runsWith_4 rfl (lv_at hl 2 rfl) ?_
  refine lv_i2l (v := p2.toInt64) hx hb dX12_runsWith_5 rfl ?_
  have t_16 := Int32.toInt_toInt64 p2
  refine lv_aload_n hx hb dX12_runsWith_6 rfl (lv_at hl 0 rfl) ?_
  refine lv_iload_n hx hb dX12_runsWith_7 rfl (lv_at hl 1 rfl) ?_
  refine va_calll (va_runV (As := [.int (nI p1)]) (rest := [.long p2.toInt64]) ⟨hx, hb, hml, hown, hts⟩ (c_X12_weight l dC dI g A hG f_4 h0 p1 q i_h0 k_13 hc1_ok (by first | omega | decide | (simp only [k_c0, k_c1, k_cm1]; omega))) (cwV 1 hts (gi_V (fun w_ h0_ => ⟨List.mem_cons_of_mem _ (List.mem_append_right _ (List.mem_append_right _ (List.mem_append_left _ h0_))), (tb_c_X12_weight w_ h0_).2⟩) (List.mem_cons_of_mem _ (List.mem_append_left _ (List.mem_of_getElem? (i := 4) rfl))) (List.mem_cons_of_mem _ (List.mem_append_left _ (List.mem_of_getElem? (i := 5) rfl))) (List.mem_cons_of_mem _ (List.mem_append_left _ (List.mem_of_getElem? (i := 6) rfl))) (List.mem_cons_of_mem _ (List.mem_append_left _ (List.mem_of_getElem? (i := 3) rfl)))) rfl rfl rfl (by decide +kernel) ⟨Nat.le_of_ble_eq_true rfl, Nat.le_of_ble_eq_true rfl⟩) ⟨fun a U g mk q => ⟨q.1, q.2.calling rfl rfl⟩, k_recv hK hI i_h0.1 k_12 (ci := 12) rfl, fun U hU hW => ⟨rfl, kIn.of hI hK hE hS hU hW⟩⟩ rfl rfl hl.1 rfl (lv_room (Nat.le_of_ble_eq_true rfl)) dX12_runsWith_8 ⟨Nat.le_of_ble_eq_true rfl, Nat.le_of_ble_eq_true rfl⟩) hS (fun q _ h => h) (fun q h => h) (fun r_18 u t H1 locs ht hvm w_17 hB hz1 hk1 hS => ?_)
  have hI : Iv dC dI g A f_4 t.heap := hB
  rw [ht] at hI
  generalize H1 = H at hI hS ⊢
  refine W.widen (k := 0) (n := 0) (Nat.le_of_ble_eq_true rfl) (Nat.le_of_ble_eq_true rfl) ?_
  have w_17 : r_18 = q (6 + 43 * p1) := w_17
  refine k_topl (y := q (6 + 43 * p1)) w_17 ?_
  have d_19 := rk_0 hc1_ok (t := p1) (by omega)
  refine W.lcmp hx hb dX12_runsWith_11 ?_
  have J_30 : ∀ (y_20 : Int32) (q_22 : Nat → Int64) (f_21 : Nat → va_E) (H : Heap) (locs : List Loc) (ls : Array Slot), Iv dC dI g A f_21 H → va_S A s.heap H locs → f_21 (gr g h0 4) = .inl (gc g 1, 906, .inr (.inl q_22)) → RowOK q_22 → f_21 h0 = .inr (12, [.int z0, .int z1, .ref (gr g h0 2), .ref (gr g h0 3), .ref (gr g h0 4), .ref (gr g h0 5), .ref (gr g h0 6), .ref (gr g h0 7), .ref (gr g h0 8), .ref (gr g h0 9), .int z10, .ref (gr g h0 11), .int z12, .int z13, .int z14, .int z15, .long z16, .int z17, .int z18, .ref (gr g h0 19), .ref (gr g h0 20), .ref (gr g h0 21), .ref (gr g h0 22), .int z23, .long z24, .long z25, .long z26]) → f_21 (gr g h0 6) = .inl (gc g 1, 906, .inr (.inl pp1_7)) → Kp g [12, 32, 34] f f_21 → ((q_22 0).toInt = (q 0).toInt) → ((q_22 1).toInt = (q 1).toInt) → lv_has ls 6 [(0, .ref h0), (1, .int (nI p1)), (2, .int p2), (3, .int p3)] → W p l e (headSpec wq_c_X12_runsWith ({ frames := 8, cells := 0, slots := 0, locals := 187 } : Room)).room s m ([.ref h0, .int (nI p1), .int p2, .int p3].toArray) below meth c H locs 0 0 (MQ below (va_Qi (fun (r : Int32) (_ : Unit) => True) (fun (_ : Unit) t => ∃ f1 : Nat → va_E, Iv dC dI g A f1 t.heap ∧ Kp g [12, 32, 34] f f1 ∧ ∃ (w24 : Int64) (q1 : Nat → Int64) (pp1 : Nat → Int64), (f1 h0 = .inr (12, [.int z0, .int z1, .ref (gr g h0 2), .ref (gr g h0 3), .ref (gr g h0 4), .ref (gr g h0 5), .ref (gr g h0 6), .ref (gr g h0 7), .ref (gr g h0 8), .ref (gr g h0 9), .int z10, .ref (gr g h0 11), .int z12, .int z13, .int z14, .int z15, .long z16, .int z17, .int z18, .ref (gr g h0 19), .ref (gr g h0 20), .ref (gr g h0 21), .ref (gr g h0 22), .int z23, .long w24, .long z25, .long z26])) ∧ (f1 (gr g h0 4) = .inl (gc g 1, 906, .inr (.inl q1))) ∧ (RowOK q1) ∧ ((q1 0).toInt = (q 0).toInt) ∧ ((q1 1).toInt = (q 1).toInt) ∧ (f1 (gr g h0 6) = .inl (gc g 1, 906, .inr (.inl pp1)))) A) ([.ref h0, .int (nI p1), .int p2, .int p3].toArray) s 0 0 A) (F0 m 30 ls [.int y_20]) := by
    intro y_20 q_22 f_21 H locs ls hI hS k_23 ok_24 k_25 k_26 kp_27 t_28 t_29 hl
    have d_30 := rk_hd ok_24
    refine lv_istore (lv' := [(4, .int y_20), (0, .ref h0), (1, .int (nI p1)), (2, .int p2), (3, .int p3)]) hx hb dX12_runsWith_30 hl (by decide) rfl (fun ls hl => ?_)
    refine lv_iconst (v := 0) hx hb dX12_runsWith_32 (by decide) ?_
    refine lv_istore (lv' := [(5, .int 0), (4, .int y_20), (0, .ref h0), (1, .int (nI p1)), (2, .int p2), (3, .int p3)]) hx hb dX12_runsWith_33 hl (by decide) rfl (fun ls hl => ?_)
    have K_35 : ∀ (nn : Nat) (y_31 : Int32) (y_32 : Int32) (q_34 : Nat → Int64) (y_37 : Int64) (f_33 : Nat → va_E) (H : Heap) (locs : List Loc) (ls : Array Slot), (p3.toInt - y_31.toInt).toNat < nn → Iv dC dI g A f_33 H → va_S A s.heap H locs → f_33 (gr g h0 4) = .inl (gc g 1, 906, .inr (.inl q_34)) → RowOK q_34 → f_33 h0 = .inr (12, [.int z0, .int z1, .ref (gr g h0 2), .ref (gr g h0 3), .ref (gr g h0 4), .ref (gr g h0 5), .ref (gr g h0 6), .ref (gr g h0 7), .ref (gr g h0 8), .ref (gr g h0 9), .int z10, .ref (gr g h0 11), .int z12, .int z13, .int z14, .int z15, .long z16, .int z17, .int z18, .ref (gr g h0 19), .ref (gr g h0 20), .ref (gr g h0 21), .ref (gr g h0 22), .int z23, .long y_37, .long z25, .long z26]) → f_33 (gr g h0 6) = .inl (gc g 1, 906, .inr (.inl pp1_7)) → Kp g [12, 32, 34] f f_33 → ((q_34 0).toInt = (q 0).toInt) → ((q_34 1).toInt = (q 1).toInt + y_31.toInt) → (0 ≤ y_31.toInt) → lv_has ls 6 [(5, .int y_31), (4, .int y_32), (0, .ref h0), (1, .int (nI p1)), (2, .int p2), (3, .int p3)] → W p l e (headSpec wq_c_X12_runsWith ({ frames := 8, cells := 0, slots := 0, locals := 187 } : Room)).room s m ([.ref h0, .int (nI p1), .int p2, .int p3].toArray) below meth c H locs 0 0 (MQ below (va_Qi (fun (r : Int32) (_ : Unit) => True) (fun (_ : Unit) t => ∃ f1 : Nat → va_E, Iv dC dI g A f1 t.heap ∧ Kp g [12, 32, 34] f f1 ∧ ∃ (w24 : Int64) (q1 : Nat → Int64) (pp1 : Nat → Int64), (f1 h0 = .inr (12, [.int z0, .int z1, .ref (gr g h0 2), .ref (gr g h0 3), .ref (gr g h0 4), .ref (gr g h0 5), .ref (gr g h0 6), .ref (gr g h0 7), .ref (gr g h0 8), .ref (gr g h0 9), .int z10, .ref (gr g h0 11), .int z12, .int z13, .int z14, .int z15, .long z16, .int z17, .int z18, .ref (gr g h0 19), .ref (gr g h0 20), .ref (gr g h0 21), .ref (gr g h0 22), .int z23, .long w24, .long z25, .long z26])) ∧ (f1 (gr g h0 4) = .inl (gc g 1, 906, .inr (.inl q1))) ∧ (RowOK q1) ∧ ((q1 0).toInt = (q 0).toInt) ∧ ((q1 1).toInt = (q 1).toInt) ∧ (f1 (gr g h0 6) = .inl (gc g 1, 906, .inr (.inl pp1)))) A) ([.ref h0, .int (nI p1), .int p2, .int p3].toArray) s 0 0 A) (F0 m 35 ls []) := by
      intro nn
      induction nn with
      | zero => intro y_31 y_32 q_34 y_37 f_33 H locs ls m_44; exact absurd m_44 (Nat.not_lt_zero _)
      | succ nn ih =>
        intro y_31 y_32 q_34 y_37 f_33 H locs ls m_44 hI hS k_35 ok_36 k_38 k_39 kp_40 t_41 t_42 t_43 hl
        have g_45 := Int32.toInt_lt p3
        have g_46 := Int32.le_toInt p3
        have g_47 := Int32.toInt_lt y_31
        have g_48 := Int32.le_toInt y_31
        have d_49 := rk_hd ok_36
        refine lv_iload hx hb dX12_runsWith_35 (lv_at hl 0 rfl) ?_
        refine lv_iload_n hx hb dX12_runsWith_37 rfl (lv_at hl 5 rfl) ?_
        have J_72 : ∀ (H : Heap) (locs : List Loc) (ls : Array Slot), Iv dC dI g A f_33 H → va_S A s.heap H locs → lv_has ls 6 [(5, .int y_31), (4, .int y_32), (0, .ref h0), (1, .int (nI p1)), (2, .int p2), (3, .int p3)] → W p l e (headSpec wq_c_X12_runsWith ({ frames := 8, cells := 0, slots := 0, locals := 187 } : Room)).room s m ([.ref h0, .int (nI p1), .int p2, .int p3].toArray) below meth c H locs 0 0 (MQ below (va_Qi (fun (r : Int32) (_ : Unit) => True) (fun (_ : Unit) t => ∃ f1 : Nat → va_E, Iv dC dI g A f1 t.heap ∧ Kp g [12, 32, 34] f f1 ∧ ∃ (w24 : Int64) (q1 : Nat → Int64) (pp1 : Nat → Int64), (f1 h0 = .inr (12, [.int z0, .int z1, .ref (gr g h0 2), .ref (gr g h0 3), .ref (gr g h0 4), .ref (gr g h0 5), .ref (gr g h0 6), .ref (gr g h0 7), .ref (gr g h0 8), .ref (gr g h0 9), .int z10, .ref (gr g h0 11), .int z12, .int z13, .int z14, .int z15, .long z16, .int z17, .int z18, .ref (gr g h0 19), .ref (gr g h0 20), .ref (gr g h0 21), .ref (gr g h0 22), .int z23, .long w24, .long z25, .long z26])) ∧ (f1 (gr g h0 4) = .inl (gc g 1, 906, .inr (.inl q1))) ∧ (RowOK q1) ∧ ((q1 0).toInt = (q 0).toInt) ∧ ((q1 1).toInt = (q 1).toInt) ∧ (f1 (gr g h0 6) = .inl (gc g 1, 906, .inr (.inl pp1)))) A) ([.ref h0, .int (nI p1), .int p2, .int p3].toArray) s 0 0 A) (F0 m 72 ls []) := by
          intro H locs ls hI hS  hl
          refine lv_aload_n hx hb dX12_runsWith_72 rfl (lv_at hl 2 rfl) ?_
          refine va_callv (va_runV (As := []) (rest := []) ⟨hx, hb, hml, hown, hts⟩ (c_X12_over l dC dI g A hG f_33 h0 q_34 pp1_7 i_h0 k_35 k_39 z_9) (cwV 0 hts (gi_V (fun w_ h0_ => ⟨List.mem_cons_of_mem _ (List.mem_append_right _ (List.mem_append_right _ (List.mem_append_right _ (List.mem_append_left _ h0_)))), (tb_c_X12_over w_ h0_).2⟩) (List.mem_cons_of_mem _ (List.mem_append_left _ (List.mem_of_getElem? (i := 7) rfl))) (List.mem_cons_of_mem _ (List.mem_append_left _ (List.mem_of_getElem? (i := 8) rfl))) (List.mem_cons_of_mem _ (List.mem_append_left _ (List.mem_of_getElem? (i := 9) rfl))) (List.mem_cons_of_mem _ (List.mem_append_left _ (List.mem_of_getElem? (i := 3) rfl)))) rfl rfl rfl (by decide +kernel) ⟨Nat.le_of_ble_eq_true rfl, Nat.le_of_ble_eq_true rfl⟩) ⟨fun a U g mk q => ⟨q.1, q.2.calling rfl rfl⟩, k_recv hK hI i_h0.1 k_38 (ci := 12) rfl, fun U hU hW => ⟨rfl, kIn.of hI hK hE hS hU hW⟩⟩ rfl rfl hl.1 rfl (lv_room (Nat.le_of_ble_eq_true rfl)) dX12_runsWith_73 ⟨Nat.le_of_ble_eq_true rfl, Nat.le_of_ble_eq_true rfl⟩) hS (fun q _ h => h) (fun q h => h) (fun u t H1 locs ht hvm _ hB hz1 hk1 hS => ?_)
          obtain ⟨f_50, hI, kc_52, q1_53, k_54, z_55, z_56, z_57⟩ := hB
          rw [ht] at hI
          have k_58 : f_50 h0 = .inr (12, [.int z0, .int z1, .ref (gr g h0 2), .ref (gr g h0 3), .ref (gr g h0 4), .ref (gr g h0 5), .ref (gr g h0 6), .ref (gr g h0 7), .ref (gr g h0 8), .ref (gr g h0 9), .int z10, .ref (gr g h0 11), .int z12, .int z13, .int z14, .int z15, .long z16, .int z17, .int z18, .ref (gr g h0 19), .ref (gr g h0 20), .ref (gr g h0 21), .ref (gr g h0 22), .int z23, .long y_37, .long z25, .long z26]) := Kp.at kc_52 i_h0 (by decide) k_38
          have k_59 : f_50 (gr g h0 6) = .inl (gc g 1, 906, .inr (.inl pp1_7)) := Kp.at kc_52 i_3 (by decide) k_39
          have z_55 : RowOK q1_53 := z_55
          have d_60 := rk_hd z_55
          have z_56 : (q1_53 0).toInt = (pp1_7 0).toInt := z_56
          have z_57 : (q1_53 1).toInt = (pp1_7 1).toInt := z_57
          have kp_61 := Kp.call kp_40 kc_52 (by decide)
          generalize H1 = H at hI hS ⊢
          refine W.widen (k := 0) (n := 0) (Nat.le_of_ble_eq_true rfl) (Nat.le_of_ble_eq_true rfl) ?_
          refine lv_iload hx hb dX12_runsWith_76 (lv_at hl 1 rfl) ?_
          exact W.iret (v := y_32) hx hb hr (fun t ht hW => ⟨⟨y_32, (), rfl, trivial, ⟨f_50, k_ret ht hI, kp_61, y_37, q1_53, pp1_7, k_58, k_54, z_55, (by first | omega | decide), (by first | omega | decide), k_59⟩⟩, hS.F ht⟩) hS.2.2 dX12_runsWith_78
        refine lv_icmp_ge (tgt := 72) hx hb dX12_runsWith_38 (by decide) (fun c_62 => ?_) (fun c_62 => ?_)
        · have c_62 := kc_le rfl rfl c_62
          exact J_72  _ _ _ hI hS  (lv_sub hl [0, 1, 2, 3, 4, 5] rfl)
        · have c_62 := kn_le rfl rfl c_62
          refine lv_iload hx hb dX12_runsWith_41 (lv_at hl 1 rfl) ?_
          refine lv_iconst (v := (-1)) hx hb dX12_runsWith_43 (by decide) ?_
          refine lv_icmp_eq (tgt := 72) hx hb dX12_runsWith_44 (by decide) (fun c_63 => ?_) (fun c_63 => ?_)
          · have c_63 := kc_eq rfl (by decide : Int32.toInt (-1) = (-1)) c_63
            exact J_72  _ _ _ hI hS  (lv_sub hl [0, 1, 2, 3, 4, 5] rfl)
          · have c_63 := kn_eq rfl (by decide : Int32.toInt (-1) = (-1)) c_63
            refine lv_iload hx hb dX12_runsWith_47 (lv_at hl 1 rfl) ?_
            refine lv_aload_n hx hb dX12_runsWith_49 rfl (lv_at hl 2 rfl) ?_
            refine lv_iconst (v := 0) hx hb dX12_runsWith_50 (by decide) ?_
            refine va_calli (va_runV (As := [.int 0]) (rest := [.int y_32]) ⟨hx, hb, hml, hown, hts⟩ (c_X12_tick l dC dI g A hG f_33 h0 0 z0 z1 z10 z12 z13 z14 z15 z16 z17 z18 z23 y_37 z25 z26 q_34 i_h0 k_38 (by first | omega | (simp only [k_c0]; omega)) (by first | omega | (simp only [k_c0]; omega)) (by first | omega | (simp only [k_c0]; omega)) k_35 ok_36 (by decide)) (cwV 1 hts (gi_V (fun w_ h0_ => ⟨List.mem_cons_of_mem _ (List.mem_append_right _ (List.mem_append_right _ (List.mem_append_right _ (List.mem_append_right _ (List.mem_append_left _ h0_))))), (tb_c_X12_tick w_ h0_).2⟩) (List.mem_cons_of_mem _ (List.mem_append_left _ (List.mem_of_getElem? (i := 10) rfl))) (List.mem_cons_of_mem _ (List.mem_append_left _ (List.mem_of_getElem? (i := 11) rfl))) (List.mem_cons_of_mem _ (List.mem_append_left _ (List.mem_of_getElem? (i := 12) rfl))) (List.mem_cons_of_mem _ (List.mem_append_left _ (List.mem_of_getElem? (i := 3) rfl)))) rfl rfl rfl (by decide +kernel) ⟨Nat.le_of_ble_eq_true rfl, Nat.le_of_ble_eq_true rfl⟩) ⟨fun a U g mk q => ⟨q.1, q.2.calling rfl rfl⟩, k_recv hK hI i_h0.1 k_38 (ci := 12) rfl, fun U hU hW => ⟨rfl, kIn.of hI hK hE hS hU hW⟩⟩ rfl rfl hl.1 rfl (lv_room (Nat.le_of_ble_eq_true rfl)) dX12_runsWith_51 ⟨Nat.le_of_ble_eq_true rfl, Nat.le_of_ble_eq_true rfl⟩) hS (fun q _ h => h) (fun q h => h) (fun r_66 u t H1 locs ht hvm w_65 hB hz1 hk1 hS => ?_)
            obtain ⟨f_64, hI, kc_67, w24_68, q1_69, k_70, k_71, z_72, z_73, z_74⟩ := hB
            rw [ht] at hI
            have k_75 : f_64 (gr g h0 6) = .inl (gc g 1, 906, .inr (.inl pp1_7)) := Kp.at kc_67 i_3 (by decide) k_39
            have k_70 : f_64 h0 = .inr (12, [.int z0, .int z1, .ref (gr g h0 2), .ref (gr g h0 3), .ref (gr g h0 4), .ref (gr g h0 5), .ref (gr g h0 6), .ref (gr g h0 7), .ref (gr g h0 8), .ref (gr g h0 9), .int z10, .ref (gr g h0 11), .int z12, .int z13, .int z14, .int z15, .long z16, .int z17, .int z18, .ref (gr g h0 19), .ref (gr g h0 20), .ref (gr g h0 21), .ref (gr g h0 22), .int z23, .long w24_68, .long z25, .long z26]) := k_70
            have z_72 : RowOK q1_69 := z_72
            have d_76 := rk_hd z_72
            have z_73 : (q1_69 0).toInt = (q_34 0).toInt := z_73
            have z_74 : (q1_69 1).toInt = (q_34 1).toInt + 1 := z_74
            have kp_77 := Kp.call kp_40 kc_67 (by decide)
            generalize H1 = H at hI hS ⊢
            refine W.widen (k := 0) (n := 0) (Nat.le_of_ble_eq_true rfl) (Nat.le_of_ble_eq_true rfl) ?_
            have w_65 : -1 ≤ r_66.toInt ∧ r_66.toInt < (q_34 0).toInt := w_65
            have g_78 : Int32.toInt (0) = 0 := by decide
            refine lv_iload_n hx hb dX12_runsWith_54 rfl (lv_at hl 3 rfl) ?_
            have J_63 : ∀ (y_79 : Int32) (H : Heap) (locs : List Loc) (ls : Array Slot), Iv dC dI g A f_64 H → va_S A s.heap H locs → lv_has ls 6 [(5, .int y_31), (4, .int y_32), (0, .ref h0), (1, .int (nI p1)), (2, .int p2), (3, .int p3)] → W p l e (headSpec wq_c_X12_runsWith ({ frames := 8, cells := 0, slots := 0, locals := 187 } : Room)).room s m ([.ref h0, .int (nI p1), .int p2, .int p3].toArray) below meth c H locs 0 0 (MQ below (va_Qi (fun (r : Int32) (_ : Unit) => True) (fun (_ : Unit) t => ∃ f1 : Nat → va_E, Iv dC dI g A f1 t.heap ∧ Kp g [12, 32, 34] f f1 ∧ ∃ (w24 : Int64) (q1 : Nat → Int64) (pp1 : Nat → Int64), (f1 h0 = .inr (12, [.int z0, .int z1, .ref (gr g h0 2), .ref (gr g h0 3), .ref (gr g h0 4), .ref (gr g h0 5), .ref (gr g h0 6), .ref (gr g h0 7), .ref (gr g h0 8), .ref (gr g h0 9), .int z10, .ref (gr g h0 11), .int z12, .int z13, .int z14, .int z15, .long z16, .int z17, .int z18, .ref (gr g h0 19), .ref (gr g h0 20), .ref (gr g h0 21), .ref (gr g h0 22), .int z23, .long w24, .long z25, .long z26])) ∧ (f1 (gr g h0 4) = .inl (gc g 1, 906, .inr (.inl q1))) ∧ (RowOK q1) ∧ ((q1 0).toInt = (q 0).toInt) ∧ ((q1 1).toInt = (q 1).toInt) ∧ (f1 (gr g h0 6) = .inl (gc g 1, 906, .inr (.inl pp1)))) A) ([.ref h0, .int (nI p1), .int p2, .int p3].toArray) s 0 0 A) (F0 m 63 ls [.int y_79, .int y_32]) := by
              intro y_79 H locs ls hI hS  hl
              refine lv_iadd hx hb dX12_runsWith_63 ?_
              refine lv_topi (fun v_80 ev_80 => ?_)
              have tv_80 := k_ad y_32 y_79
              rw [← ev_80] at tv_80
              refine lv_istore (lv' := [(4, .int v_80), (5, .int y_31), (0, .ref h0), (1, .int (nI p1)), (2, .int p2), (3, .int p3)]) hx hb dX12_runsWith_64 hl (by decide) rfl (fun ls hl => ?_)
              obtain ⟨v_81, ev_81⟩ : ∃ y : Int32, y = y_31 + Int32.ofInt 1 := ⟨_, rfl⟩
              refine lv_iinc (v := v_81) (lv' := [(5, .int v_81), (4, .int v_80), (0, .ref h0), (1, .int (nI p1)), (2, .int p2), (3, .int p3)]) hx hb dX12_runsWith_66 hl (k := 1) rfl ev_81.symm (by decide) rfl (fun ls hl => ?_)
              have tv_81 := k_inc y_31
              rw [← ev_81] at tv_81
              refine lv_goto (tgt := 35) hx hb dX12_runsWith_69 (by decide) ?_
              exact ih v_81 v_80 q1_69 w24_68 f_64 _ _ _ (by omega) hI hS k_71 z_72 k_70 k_75 kp_77 (by first | omega | decide) (by first | omega | decide) (by first | omega | decide) (lv_sub hl [0, 1, 2, 3, 4, 5] rfl)
            refine lv_icmp_ne (tgt := 62) hx hb dX12_runsWith_55 (by decide) (fun c_82 => ?_) (fun c_82 => ?_)
            · have c_82 := kn_eq rfl (nI_toInt (n := p1) (by omega)) c_82
              refine lv_iconst (v := 0) hx hb dX12_runsWith_62 (by decide) ?_
              exact J_63 0 _ _ _ hI hS  (lv_sub hl [0, 1, 2, 3, 4, 5] rfl)
            · have c_82 := kc_eq rfl (nI_toInt (n := p1) (by omega)) c_82
              refine lv_iconst (v := 1) hx hb dX12_runsWith_58 (by decide) ?_
              refine lv_goto (tgt := 63) hx hb dX12_runsWith_59 (by decide) ?_
              exact J_63 1 _ _ _ hI hS  (lv_sub hl [0, 1, 2, 3, 4, 5] rfl)
    exact K_35 _ 0 y_20 q_22 z24 f_21 _ _ _ (Nat.lt_succ_self _) hI hS k_23 ok_24 k_25 k_26 kp_27 (by first | omega | decide | (simp only [show Int32.toInt 0 = 0 from by decide]; omega)) (by first | omega | decide | (simp only [show Int32.toInt 0 = 0 from by decide]; omega)) (by first | omega | decide | (simp only [show Int32.toInt 0 = 0 from by decide]; omega)) (lv_sub hl [0, 1, 2, 3, 4, 5] rfl)
  have J_25 : ∀ (q_84 : Nat → Int64) (f_83 : Nat → va_E) (H : Heap) (locs : List Loc) (ls : Array Slot), Iv dC dI g A f_83 H → va_S A s.heap H locs → f_83 (gr g h0 4) = .inl (gc g 1, 906, .inr (.inl q_84)) → RowOK q_84 → f_83 h0 = .inr (12, [.int z0, .int z1, .ref (gr g h0 2), .ref (gr g h0 3), .ref (gr g h0 4), .ref (gr g h0 5), .ref (gr g h0 6), .ref (gr g h0 7), .ref (gr g h0 8), .ref (gr g h0 9), .int z10, .ref (gr g h0 11), .int z12, .int z13, .int z14, .int z15, .long z16, .int z17, .int z18, .ref (gr g h0 19), .ref (gr g h0 20), .ref (gr g h0 21), .ref (gr g h0 22), .int z23, .long z24, .long z25, .long z26]) → f_83 (gr g h0 6) = .inl (gc g 1, 906, .inr (.inl pp1_7)) → Kp g [12, 32, 34] f f_83 → ((q_84 0).toInt = (q 0).toInt) → ((q_84 1).toInt = (q 1).toInt) → lv_has ls 6 [(0, .ref h0), (1, .int (nI p1)), (2, .int p2), (3, .int p3)] → W p l e (headSpec wq_c_X12_runsWith ({ frames := 8, cells := 0, slots := 0, locals := 187 } : Room)).room s m ([.ref h0, .int (nI p1), .int p2, .int p3].toArray) below meth c H locs 0 0 (MQ below (va_Qi (fun (r : Int32) (_ : Unit) => True) (fun (_ : Unit) t => ∃ f1 : Nat → va_E, Iv dC dI g A f1 t.heap ∧ Kp g [12, 32, 34] f f1 ∧ ∃ (w24 : Int64) (q1 : Nat → Int64) (pp1 : Nat → Int64), (f1 h0 = .inr (12, [.int z0, .int z1, .ref (gr g h0 2), .ref (gr g h0 3), .ref (gr g h0 4), .ref (gr g h0 5), .ref (gr g h0 6), .ref (gr g h0 7), .ref (gr g h0 8), .ref (gr g h0 9), .int z10, .ref (gr g h0 11), .int z12, .int z13, .int z14, .int z15, .long z16, .int z17, .int z18, .ref (gr g h0 19), .ref (gr g h0 20), .ref (gr g h0 21), .ref (gr g h0 22), .int z23, .long w24, .long z25, .long z26])) ∧ (f1 (gr g h0 4) = .inl (gc g 1, 906, .inr (.inl q1))) ∧ (RowOK q1) ∧ ((q1 0).toInt = (q 0).toInt) ∧ ((q1 1).toInt = (q 1).toInt) ∧ (f1 (gr g h0 6) = .inl (gc g 1, 906, .inr (.inl pp1)))) A) ([.ref h0, .int (nI p1), .int p2, .int p3].toArray) s 0 0 A) (F0 m 25 ls []) := by
    intro q_84 f_83 H locs ls hI hS k_85 ok_86 k_87 k_88 kp_89 t_90 t_91 hl
    have d_92 := rk_hd ok_86
    refine lv_iconst (v := 0) hx hb dX12_runsWith_25 (by decide) ?_
    refine lv_goto (tgt := 30) hx hb dX12_runsWith_26 (by decide) ?_
    exact J_30 0 q_84 f_83 _ _ _ hI hS k_85 ok_86 k_87 k_88 kp_89 (by first | omega | decide | (simp only [show Int32.toInt 0 = 0 from by decide]; omega)) (by first | omega | decide | (simp only [show Int32.toInt 0 = 0 from by decide]; omega)) (lv_sub hl [0, 1, 2, 3] rfl)
  refine lv_if_eq (tgt := 25) hx hb dX12_runsWith_12 (by decide) (fun c_93 => ?_) (fun c_93 => ?_)
  · have c_93 := lc_eq rfl rfl ((lg_cmp_eq _ _).mp c_93)
    exact J_25 q f_4 _ _ _ hI hS k_13 hc1_ok k_12 k_8 kp_15 (by first | omega | decide) (by first | omega | decide) (lv_sub hl [0, 1, 2, 3] rfl)
  · have c_93 := ln_eq rfl rfl (fun h9 => c_93 ((lg_cmp_eq _ _).mpr h9))
    refine lv_aload_n hx hb dX12_runsWith_15 rfl (lv_at hl 0 rfl) ?_
    refine lv_iload_n hx hb dX12_runsWith_16 rfl (lv_at hl 1 rfl) ?_
    refine lv_iload_n hx hb dX12_runsWith_17 rfl (lv_at hl 2 rfl) ?_
    refine lv_i2l (v := p2.toInt64) hx hb dX12_runsWith_18 rfl ?_
    have t_94 := Int32.toInt_toInt64 p2
    refine va_calli (va_runV (As := [.int (nI p1), .long p2.toInt64]) (rest := []) ⟨hx, hb, hml, hown, hts⟩ (c_X12_weighs l dC dI g A hG f_4 h0 p1 p2.toInt64 q i_h0 k_13 hc1_ok (by first | omega | decide | (simp only [k_c0, k_c1, k_cm1]; omega)) (by first | omega | decide | (simp only [k_c0, k_c1, k_cm1]; omega))) (cwV 2 hts (gi_V (fun w_ h0_ => ⟨List.mem_cons_of_mem _ (List.mem_append_right _ (List.mem_append_right _ (List.mem_append_right _ (List.mem_append_right _ (List.mem_append_right _ (List.mem_append_left _ h0_)))))), (tb_c_X12_weighs w_ h0_).2⟩) (List.mem_cons_of_mem _ (List.mem_append_left _ (List.mem_of_getElem? (i := 13) rfl))) (List.mem_cons_of_mem _ (List.mem_append_left _ (List.mem_of_getElem? (i := 14) rfl))) (List.mem_cons_of_mem _ (List.mem_append_left _ (List.mem_of_getElem? (i := 15) rfl))) (List.mem_cons_of_mem _ (List.mem_append_left _ (List.mem_of_getElem? (i := 3) rfl)))) rfl rfl rfl (by decide +kernel) ⟨Nat.le_of_ble_eq_true rfl, Nat.le_of_ble_eq_true rfl⟩) ⟨fun a U g mk q => ⟨q.1, q.2.calling rfl rfl⟩, k_recv hK hI i_h0.1 k_12 (ci := 12) rfl, fun U hU hW => ⟨rfl, kIn.of hI hK hE hS hU hW⟩⟩ rfl rfl hl.1 rfl (lv_room (Nat.le_of_ble_eq_true rfl)) dX12_runsWith_19 ⟨Nat.le_of_ble_eq_true rfl, Nat.le_of_ble_eq_true rfl⟩) hS (fun q _ h => h) (fun q h => h) (fun r_97 u t H1 locs ht hvm w_96 hB hz1 hk1 hS => ?_)
    obtain ⟨f_95, hI, kc_98, q1_99, k_100, z_101, z_102, z_103, z_104⟩ := hB
    rw [ht] at hI
    have k_105 : f_95 h0 = .inr (12, [.int z0, .int z1, .ref (gr g h0 2), .ref (gr g h0 3), .ref (gr g h0 4), .ref (gr g h0 5), .ref (gr g h0 6), .ref (gr g h0 7), .ref (gr g h0 8), .ref (gr g h0 9), .int z10, .ref (gr g h0 11), .int z12, .int z13, .int z14, .int z15, .long z16, .int z17, .int z18, .ref (gr g h0 19), .ref (gr g h0 20), .ref (gr g h0 21), .ref (gr g h0 22), .int z23, .long z24, .long z25, .long z26]) := Kp.at kc_98 i_h0 (by decide) k_12
    have k_106 : f_95 (gr g h0 6) = .inl (gc g 1, 906, .inr (.inl pp1_7)) := Kp.at kc_98 i_3 (by decide) k_8
    have z_101 : RowOK q1_99 := z_101
    have d_107 := rk_hd z_101
    have z_102 : (q1_99 0).toInt = (q 0).toInt := z_102
    have z_103 : (q1_99 1).toInt = (q 1).toInt := z_103
    have z_104 : ∀ j : Nat, 11 ≤ j → j < 43 → q1_99 (6 + 43 * p1 + j) = q (6 + 43 * p1 + j) := z_104
    have kp_108 := Kp.call kp_15 kc_98 (by decide)
    generalize H1 = H at hI hS ⊢
    refine W.widen (k := 0) (n := 0) (Nat.le_of_ble_eq_true rfl) (Nat.le_of_ble_eq_true rfl) ?_
    refine lv_if_eq (tgt := 29) hx hb dX12_runsWith_22 (by decide) (fun c_109 => ?_) (fun c_109 => ?_)
    · have c_109 := kc_eq rfl (by decide : Int32.toInt 0 = 0) c_109
      refine lv_iconst (v := (-1)) hx hb dX12_runsWith_29 (by decide) ?_
      exact J_30 (-1) q1_99 f_95 _ _ _ hI hS k_100 z_101 k_105 k_106 kp_108 (by first | omega | decide | (simp only [show Int32.toInt (-1) = (-1) from by decide]; omega)) (by first | omega | decide | (simp only [show Int32.toInt (-1) = (-1) from by decide]; omega)) (lv_sub hl [0, 1, 2, 3] rfl)
    · have c_109 := kn_eq rfl (by decide : Int32.toInt 0 = 0) c_109
      exact J_25 q1_99 f_95 _ _ _ hI hS k_100 z_101 k_105 k_106 kp_108 (by first | omega | decide) (by first | omega | decide) (lv_sub hl [0, 1, 2, 3] rfl)
theorem tw_927 : q_g (.fieldLink RX12 67 "DeadlineShareModel" "thrown" "I") := ⟨(List.mem_append_right _ (List.mem_of_getElem? (i := 1097) (by decide +kernel))), good_of_word (by decide +kernel)⟩
theorem tw_928 : q_g (.code yX12_fault cX12_fault 1 (some .int)) := ⟨(List.mem_append_right _ (List.mem_of_getElem? (i := 1391) (by decide +kernel))), good_of_word (by decide +kernel)⟩
def ow_c_X12_fault : List Cond := [.fieldLink RX12 67 "DeadlineShareModel" "thrown" "I", .fieldLink RX12 39 "DeadlineShareModel" "fault" "I"]
def wq_c_X12_fault : List Cond := .code yX12_fault cX12_fault 1 (some .int) :: (ow_c_X12_fault ++ (u_ws RX12 TX12 27 ++ ([] : List Cond)))
theorem tb_c_X12_fault : ∀ w ∈ wq_c_X12_fault, q_g w := by
  unfold wq_c_X12_fault ow_c_X12_fault
  exact q_cons tw_928 (q_app (q_cons tw_927 (q_cons tw_879 q_nil)) (q_app tu_X12 q_nil))
set_option maxHeartbeats 4000000 in
set_option maxRecDepth 100000 in
theorem c_X12_fault (l : Launch) (dC : Nat → ClassId) (dI : Nat → Nat → Nat) (g : kG) (A : Nat → Prop) (hG : kWf g) (f : Nat → va_E) (h0 : Nat) (z0 : Int32) (z1 : Int32) (z10 : Int32) (z12 : Int32) (z13 : Int32) (z14 : Int32) (z15 : Int32) (z16 : Int64) (z17 : Int32) (z18 : Int32) (z23 : Int32) (z24 : Int64) (z25 : Int64) (z26 : Int64) (q : Nat → Int64) (u : Nat → Int64) (im : Nat → Int64) (kt : Nat → Int32) (i_h0 : ik g 12 h0) (hc0 : f h0 = .inr (12, [.int z0, .int z1, .ref (gr g h0 2), .ref (gr g h0 3), .ref (gr g h0 4), .ref (gr g h0 5), .ref (gr g h0 6), .ref (gr g h0 7), .ref (gr g h0 8), .ref (gr g h0 9), .int z10, .ref (gr g h0 11), .int z12, .int z13, .int z14, .int z15, .long z16, .int z17, .int z18, .ref (gr g h0 19), .ref (gr g h0 20), .ref (gr g h0 21), .ref (gr g h0 22), .int z23, .long z24, .long z25, .long z26])) (hc0_10 : 0 ≤ z10.toInt ∧ z10.toInt ≤ 10) (hc0_12 : 0 ≤ z12.toInt ∧ z12.toInt ≤ 200) (hc0_23 : 0 ≤ z23.toInt ∧ z23.toInt ≤ 8) (hc1 : f (gr g h0 4) = .inl (gc g 1, 906, .inr (.inl q))) (hc1_ok : RowOK q) (hc2 : f (gr g h0 5) = .inl (gc g 1, 9060, .inr (.inl u))) (hc3 : f (gr g h0 7) = .inl (gc g 1, 1812, .inr (.inl im))) (hc4 : f (gr g h0 8) = .inl (gc g 3, 2, .inl kt)) (hU : UIq z10 u im kt) : Met l yX12_fault wq_c_X12_fault ({ frames := 0, cells := 0, slots := 0, locals := 0 } : Room) (va_Pc [.ref h0] (fun U => kIn dC dI g A f U)) (va_Qi (fun (r : Int32) (_ : Unit) => True) (fun (_ : Unit) t => ∃ f1 : Nat → va_E, Iv dC dI g A f1 t.heap ∧ Kp g [12] f f1 ∧ ∃ (w0 : Int32) (w1 : Int32) (w10 : Int32) (w12 : Int32) (w13 : Int32) (w14 : Int32) (w15 : Int32) (w16 : Int64) (w17 : Int32) (w18 : Int32) (w23 : Int32) (w24 : Int64) (w25 : Int64) (w26 : Int64) (q1 : Nat → Int64) (u1 : Nat → Int64) (im1 : Nat → Int64) (ik1 : Nat → Int32), (f1 h0 = .inr (12, [.int w0, .int w1, .ref (gr g h0 2), .ref (gr g h0 3), .ref (gr g h0 4), .ref (gr g h0 5), .ref (gr g h0 6), .ref (gr g h0 7), .ref (gr g h0 8), .ref (gr g h0 9), .int w10, .ref (gr g h0 11), .int w12, .int w13, .int w14, .int w15, .long w16, .int w17, .int w18, .ref (gr g h0 19), .ref (gr g h0 20), .ref (gr g h0 21), .ref (gr g h0 22), .int w23, .long w24, .long w25, .long w26])) ∧ (0 ≤ w10.toInt ∧ w10.toInt ≤ 10) ∧ (0 ≤ w12.toInt ∧ w12.toInt ≤ 200) ∧ (0 ≤ w23.toInt ∧ w23.toInt ≤ 8) ∧ (f1 (gr g h0 4) = .inl (gc g 1, 906, .inr (.inl q1))) ∧ (RowOK q1) ∧ (f1 (gr g h0 5) = .inl (gc g 1, 9060, .inr (.inl u1))) ∧ (f1 (gr g h0 7) = .inl (gc g 1, 1812, .inr (.inl im1))) ∧ (f1 (gr g h0 8) = .inl (gc g 3, 2, .inl ik1)) ∧ (UIq w10 u1 im1 ik1)) A) 0 0 A := by
  refine Met.ofW (cc := cX12_fault) (maxL := 1) (ret := (some .int)) (by decide) rfl ?_
  intro p e s m args below meth c s₁ B hml hv
  obtain ⟨rfl, hI, hK, hE⟩ := hv
  have hx := B.exec
  have hb := B.bytes
  have hr := B.returns
  have hts := atoms_spec (ws := wq_c_X12_fault) B.pre
  have hown : s.vm.findClass RX12 = some m.cls := findClass_of_methodNamed B.named
  have hlocks := B.notSynchronized
  have hS : va_S A s.heap s.heap [] := va_S.rf
  have hk0 : Kp g [12] f f := Kp.rf
  have hl := lv_entry ([.ref h0]) (n := 1) (Nat.le_of_ble_eq_true rfl)
  rw [lg_entry_eq]
  generalize (lg_sl ([.ref h0]) ++ List.replicate (1 - (lg_sl ([.ref h0])).length) Slot.unset).toArray = ls at hl ⊢
  have hl : lv_has ls 1 [(0, .ref h0)] := hl
  have i_1 := kw_12_4 hG i_h0
  have d_2 := rk_hd hc1_ok
  have i_3 := kw_12_5 hG i_h0
  have i_4 := kw_12_7 hG i_h0
  have i_5 := kw_12_8 hG i_h0
  refine lv_aload_n hx hb dX12_fault_0 rfl (lv_at hl 0 rfl) ?_
  refine lv_iconst (v := 0) hx hb dX12_fault_1 (by decide) ?_
  refine k_put (ci := 12) (v := .int 0) (ty := .int) (C := RX12) (T := TX12) (N := 27) hx hb hts (fun _ h0_ => List.mem_cons_of_mem _ (List.mem_append_right _ (List.mem_append_left _ h0_))) tyX12 tyX12_ok nmX12 hown hK hI hS i_h0.1 hc0 rfl 0 (by decide) (hts (.fieldLink RX12 67 "DeadlineShareModel" "thrown" "I") (List.mem_cons_of_mem _ (List.mem_append_left _ (List.mem_of_getElem? (i := 0) rfl)))) (fun _ h9 => h9) rfl (by decide +kernel) rfl rfl (Nat.le_of_ble_eq_true rfl) rfl (cl_12 i_h0 (by omega) (by omega) (by omega)) dX12_fault_2 (fun f_6 H locs e_7 hI hS => ?_)
  have k_9 : f_6 h0 = .inr (12, [.int 0, .int z1, .ref (gr g h0 2), .ref (gr g h0 3), .ref (gr g h0 4), .ref (gr g h0 5), .ref (gr g h0 6), .ref (gr g h0 7), .ref (gr g h0 8), .ref (gr g h0 9), .int z10, .ref (gr g h0 11), .int z12, .int z13, .int z14, .int z15, .long z16, .int z17, .int z18, .ref (gr g h0 19), .ref (gr g h0 20), .ref (gr g h0 21), .ref (gr g h0 22), .int z23, .long z24, .long z25, .long z26]) := by rw [e_7]; exact va_up_self _ _ _
  have k_10 : f_6 (gr g h0 4) = .inl (gc g 1, 906, .inr (.inl q)) := by rw [e_7, va_up_ne _ _ (ik_ne i_1 i_h0 (by decide))]; exact hc1
  have k_11 : f_6 (gr g h0 5) = .inl (gc g 1, 9060, .inr (.inl u)) := by rw [e_7, va_up_ne _ _ (ik_ne i_3 i_h0 (by decide))]; exact hc2
  have k_12 : f_6 (gr g h0 7) = .inl (gc g 1, 1812, .inr (.inl im)) := by rw [e_7, va_up_ne _ _ (ik_ne i_4 i_h0 (by decide))]; exact hc3
  have k_13 : f_6 (gr g h0 8) = .inl (gc g 3, 2, .inl kt) := by rw [e_7, va_up_ne _ _ (ik_ne i_5 i_h0 (by decide))]; exact hc4
  have kp_8 := Kp.put hk0 i_h0 (by decide) e_7
  refine lv_aload_n hx hb dX12_fault_5 rfl (lv_at hl 0 rfl) ?_
  refine k_get (ci := 12) (v := .int z17) (C := RX12) (T := TX12) (N := 27) hx hb hts (fun _ h0_ => List.mem_cons_of_mem _ (List.mem_append_right _ (List.mem_append_left _ h0_))) hown hK hI i_h0.1 k_9 rfl 17 (by decide) (hts (.fieldLink RX12 39 "DeadlineShareModel" "fault" "I") (List.mem_cons_of_mem _ (List.mem_append_left _ (List.mem_of_getElem? (i := 1) rfl)))) (fun _ h9 => h9) rfl dX12_fault_6 ?_
  exact W.iret (v := z17) hx hb hr (fun t ht hW => ⟨⟨z17, (), rfl, trivial, ⟨f_6, k_ret ht hI, kp_8, 0, z1, z10, z12, z13, z14, z15, z16, z17, z18, z23, z24, z25, z26, q, u, im, kt, k_9, (by first | omega | decide), (by first | omega | decide), (by first | omega | decide), k_10, hc1_ok, k_11, k_12, k_13, hU⟩⟩, hS.F ht⟩) hS.2.2 dX12_fault_9
theorem tw_929 : q_g (.code yX12_status cX12_status 1 (some .int)) := ⟨(List.mem_append_right _ (List.mem_of_getElem? (i := 1554) (by decide +kernel))), good_of_word (by decide +kernel)⟩
def ow_c_X12_status : List Cond := [.fieldLink RX12 67 "DeadlineShareModel" "thrown" "I", .fieldLink RX12 70 "DeadlineShareModel" "status" "I"]
def wq_c_X12_status : List Cond := .code yX12_status cX12_status 1 (some .int) :: (ow_c_X12_status ++ (u_ws RX12 TX12 27 ++ ([] : List Cond)))
theorem tb_c_X12_status : ∀ w ∈ wq_c_X12_status, q_g w := by
  unfold wq_c_X12_status ow_c_X12_status
  exact q_cons tw_929 (q_app (q_cons tw_927 (q_cons tw_723 q_nil)) (q_app tu_X12 q_nil))
set_option maxHeartbeats 4000000 in
set_option maxRecDepth 100000 in
theorem c_X12_status (l : Launch) (dC : Nat → ClassId) (dI : Nat → Nat → Nat) (g : kG) (A : Nat → Prop) (hG : kWf g) (f : Nat → va_E) (h0 : Nat) (z0 : Int32) (z1 : Int32) (z10 : Int32) (z12 : Int32) (z13 : Int32) (z14 : Int32) (z15 : Int32) (z16 : Int64) (z17 : Int32) (z18 : Int32) (z23 : Int32) (z24 : Int64) (z25 : Int64) (z26 : Int64) (q : Nat → Int64) (u : Nat → Int64) (im : Nat → Int64) (kt : Nat → Int32) (i_h0 : ik g 12 h0) (hc0 : f h0 = .inr (12, [.int z0, .int z1, .ref (gr g h0 2), .ref (gr g h0 3), .ref (gr g h0 4), .ref (gr g h0 5), .ref (gr g h0 6), .ref (gr g h0 7), .ref (gr g h0 8), .ref (gr g h0 9), .int z10, .ref (gr g h0 11), .int z12, .int z13, .int z14, .int z15, .long z16, .int z17, .int z18, .ref (gr g h0 19), .ref (gr g h0 20), .ref (gr g h0 21), .ref (gr g h0 22), .int z23, .long z24, .long z25, .long z26])) (hc0_10 : 0 ≤ z10.toInt ∧ z10.toInt ≤ 10) (hc0_12 : 0 ≤ z12.toInt ∧ z12.toInt ≤ 200) (hc0_23 : 0 ≤ z23.toInt ∧ z23.toInt ≤ 8) (hc1 : f (gr g h0 4) = .inl (gc g 1, 906, .inr (.inl q))) (hc1_ok : RowOK q) (hc2 : f (gr g h0 5) = .inl (gc g 1, 9060, .inr (.inl u))) (hc3 : f (gr g h0 7) = .inl (gc g 1, 1812, .inr (.inl im))) (hc4 : f (gr g h0 8) = .inl (gc g 3, 2, .inl kt)) (hU : UIq z10 u im kt) : Met l yX12_status wq_c_X12_status ({ frames := 0, cells := 0, slots := 0, locals := 0 } : Room) (va_Pc [.ref h0] (fun U => kIn dC dI g A f U)) (va_Qi (fun (r : Int32) (_ : Unit) => True) (fun (_ : Unit) t => ∃ f1 : Nat → va_E, Iv dC dI g A f1 t.heap ∧ Kp g [12] f f1 ∧ ∃ (w0 : Int32) (w1 : Int32) (w10 : Int32) (w12 : Int32) (w13 : Int32) (w14 : Int32) (w15 : Int32) (w16 : Int64) (w17 : Int32) (w18 : Int32) (w23 : Int32) (w24 : Int64) (w25 : Int64) (w26 : Int64) (q1 : Nat → Int64) (u1 : Nat → Int64) (im1 : Nat → Int64) (ik1 : Nat → Int32), (f1 h0 = .inr (12, [.int w0, .int w1, .ref (gr g h0 2), .ref (gr g h0 3), .ref (gr g h0 4), .ref (gr g h0 5), .ref (gr g h0 6), .ref (gr g h0 7), .ref (gr g h0 8), .ref (gr g h0 9), .int w10, .ref (gr g h0 11), .int w12, .int w13, .int w14, .int w15, .long w16, .int w17, .int w18, .ref (gr g h0 19), .ref (gr g h0 20), .ref (gr g h0 21), .ref (gr g h0 22), .int w23, .long w24, .long w25, .long w26])) ∧ (0 ≤ w10.toInt ∧ w10.toInt ≤ 10) ∧ (0 ≤ w12.toInt ∧ w12.toInt ≤ 200) ∧ (0 ≤ w23.toInt ∧ w23.toInt ≤ 8) ∧ (f1 (gr g h0 4) = .inl (gc g 1, 906, .inr (.inl q1))) ∧ (RowOK q1) ∧ (f1 (gr g h0 5) = .inl (gc g 1, 9060, .inr (.inl u1))) ∧ (f1 (gr g h0 7) = .inl (gc g 1, 1812, .inr (.inl im1))) ∧ (f1 (gr g h0 8) = .inl (gc g 3, 2, .inl ik1)) ∧ (UIq w10 u1 im1 ik1)) A) 0 0 A := by
  refine Met.ofW (cc := cX12_status) (maxL := 1) (ret := (some .int)) (by decide) rfl ?_
  intro p e s m args below meth c s₁ B hml hv
  obtain ⟨rfl, hI, hK, hE⟩ := hv
  have hx := B.exec
  have hb := B.bytes
  have hr := B.returns
  have hts := atoms_spec (ws := wq_c_X12_status) B.pre
  have hown : s.vm.findClass RX12 = some m.cls := findClass_of_methodNamed B.named
  have hlocks := B.notSynchronized
  have hS : va_S A s.heap s.heap [] := va_S.rf
  have hk0 : Kp g [12] f f := Kp.rf
  have hl := lv_entry ([.ref h0]) (n := 1) (Nat.le_of_ble_eq_true rfl)
  rw [lg_entry_eq]
  generalize (lg_sl ([.ref h0]) ++ List.replicate (1 - (lg_sl ([.ref h0])).length) Slot.unset).toArray = ls at hl ⊢
  have hl : lv_has ls 1 [(0, .ref h0)] := hl
  have i_1 := kw_12_4 hG i_h0
  have d_2 := rk_hd hc1_ok
  have i_3 := kw_12_5 hG i_h0
  have i_4 := kw_12_7 hG i_h0
  have i_5 := kw_12_8 hG i_h0
  refine lv_aload_n hx hb dX12_status_0 rfl (lv_at hl 0 rfl) ?_
  refine lv_iconst (v := 0) hx hb dX12_status_1 (by decide) ?_
  refine k_put (ci := 12) (v := .int 0) (ty := .int) (C := RX12) (T := TX12) (N := 27) hx hb hts (fun _ h0_ => List.mem_cons_of_mem _ (List.mem_append_right _ (List.mem_append_left _ h0_))) tyX12 tyX12_ok nmX12 hown hK hI hS i_h0.1 hc0 rfl 0 (by decide) (hts (.fieldLink RX12 67 "DeadlineShareModel" "thrown" "I") (List.mem_cons_of_mem _ (List.mem_append_left _ (List.mem_of_getElem? (i := 0) rfl)))) (fun _ h9 => h9) rfl (by decide +kernel) rfl rfl (Nat.le_of_ble_eq_true rfl) rfl (cl_12 i_h0 (by omega) (by omega) (by omega)) dX12_status_2 (fun f_6 H locs e_7 hI hS => ?_)
  have k_9 : f_6 h0 = .inr (12, [.int 0, .int z1, .ref (gr g h0 2), .ref (gr g h0 3), .ref (gr g h0 4), .ref (gr g h0 5), .ref (gr g h0 6), .ref (gr g h0 7), .ref (gr g h0 8), .ref (gr g h0 9), .int z10, .ref (gr g h0 11), .int z12, .int z13, .int z14, .int z15, .long z16, .int z17, .int z18, .ref (gr g h0 19), .ref (gr g h0 20), .ref (gr g h0 21), .ref (gr g h0 22), .int z23, .long z24, .long z25, .long z26]) := by rw [e_7]; exact va_up_self _ _ _
  have k_10 : f_6 (gr g h0 4) = .inl (gc g 1, 906, .inr (.inl q)) := by rw [e_7, va_up_ne _ _ (ik_ne i_1 i_h0 (by decide))]; exact hc1
  have k_11 : f_6 (gr g h0 5) = .inl (gc g 1, 9060, .inr (.inl u)) := by rw [e_7, va_up_ne _ _ (ik_ne i_3 i_h0 (by decide))]; exact hc2
  have k_12 : f_6 (gr g h0 7) = .inl (gc g 1, 1812, .inr (.inl im)) := by rw [e_7, va_up_ne _ _ (ik_ne i_4 i_h0 (by decide))]; exact hc3
  have k_13 : f_6 (gr g h0 8) = .inl (gc g 3, 2, .inl kt) := by rw [e_7, va_up_ne _ _ (ik_ne i_5 i_h0 (by decide))]; exact hc4
  have kp_8 := Kp.put hk0 i_h0 (by decide) e_7
  refine lv_aload_n hx hb dX12_status_5 rfl (lv_at hl 0 rfl) ?_
  refine k_get (ci := 12) (v := .int z1) (C := RX12) (T := TX12) (N := 27) hx hb hts (fun _ h0_ => List.mem_cons_of_mem _ (List.mem_append_right _ (List.mem_append_left _ h0_))) hown hK hI i_h0.1 k_9 rfl 1 (by decide) (hts (.fieldLink RX12 70 "DeadlineShareModel" "status" "I") (List.mem_cons_of_mem _ (List.mem_append_left _ (List.mem_of_getElem? (i := 1) rfl)))) (fun _ h9 => h9) rfl dX12_status_6 ?_
  exact W.iret (v := z1) hx hb hr (fun t ht hW => ⟨⟨z1, (), rfl, trivial, ⟨f_6, k_ret ht hI, kp_8, 0, z1, z10, z12, z13, z14, z15, z16, z17, z18, z23, z24, z25, z26, q, u, im, kt, k_9, (by first | omega | decide), (by first | omega | decide), (by first | omega | decide), k_10, hc1_ok, k_11, k_12, k_13, hU⟩⟩, hS.F ht⟩) hS.2.2 dX12_status_9
theorem tw_930 : q_g (.code yX12_end cX12_end 2 (some .int)) := ⟨(List.mem_append_right _ (List.mem_of_getElem? (i := 1212) (by decide +kernel))), good_of_word (by decide +kernel)⟩
def ow_c_X12_end : List Cond := [.fieldLink RX12 67 "DeadlineShareModel" "thrown" "I", .fieldLink RX12 128 "DeadlineShareModel" "taped" "I"]
def wq_c_X12_end : List Cond := .code yX12_end cX12_end 2 (some .int) :: (ow_c_X12_end ++ (u_ws RX12 TX12 27 ++ ([] : List Cond)))
theorem tb_c_X12_end : ∀ w ∈ wq_c_X12_end, q_g w := by
  unfold wq_c_X12_end ow_c_X12_end
  exact q_cons tw_930 (q_app (q_cons tw_927 (q_cons tw_809 q_nil)) (q_app tu_X12 q_nil))
set_option maxHeartbeats 4000000 in
set_option maxRecDepth 100000 in
theorem c_X12_end (l : Launch) (dC : Nat → ClassId) (dI : Nat → Nat → Nat) (g : kG) (A : Nat → Prop) (hG : kWf g) (f : Nat → va_E) (h0 : Nat) (p1 : Int32) (z0 : Int32) (z1 : Int32) (z10 : Int32) (z12 : Int32) (z13 : Int32) (z14 : Int32) (z15 : Int32) (z16 : Int64) (z17 : Int32) (z18 : Int32) (z23 : Int32) (z24 : Int64) (z25 : Int64) (z26 : Int64) (q : Nat → Int64) (u : Nat → Int64) (im : Nat → Int64) (kt : Nat → Int32) (i_h0 : ik g 12 h0) (hc0 : f h0 = .inr (12, [.int z0, .int z1, .ref (gr g h0 2), .ref (gr g h0 3), .ref (gr g h0 4), .ref (gr g h0 5), .ref (gr g h0 6), .ref (gr g h0 7), .ref (gr g h0 8), .ref (gr g h0 9), .int z10, .ref (gr g h0 11), .int z12, .int z13, .int z14, .int z15, .long z16, .int z17, .int z18, .ref (gr g h0 19), .ref (gr g h0 20), .ref (gr g h0 21), .ref (gr g h0 22), .int z23, .long z24, .long z25, .long z26])) (hc0_10 : 0 ≤ z10.toInt ∧ z10.toInt ≤ 10) (hc0_12 : 0 ≤ z12.toInt ∧ z12.toInt ≤ 200) (hc0_23 : 0 ≤ z23.toInt ∧ z23.toInt ≤ 8) (hc1 : f (gr g h0 4) = .inl (gc g 1, 906, .inr (.inl q))) (hc1_ok : RowOK q) (hc2 : f (gr g h0 5) = .inl (gc g 1, 9060, .inr (.inl u))) (hc3 : f (gr g h0 7) = .inl (gc g 1, 1812, .inr (.inl im))) (hc4 : f (gr g h0 8) = .inl (gc g 3, 2, .inl kt)) (hU : UIq z10 u im kt) : Met l yX12_end wq_c_X12_end ({ frames := 0, cells := 0, slots := 0, locals := 0 } : Room) (va_Pc [.ref h0, .int p1] (fun U => kIn dC dI g A f U)) (va_Qi (fun (r : Int32) (_ : Unit) => True) (fun (_ : Unit) t => ∃ f1 : Nat → va_E, Iv dC dI g A f1 t.heap ∧ Kp g [12] f f1 ∧ ∃ (w0 : Int32) (w1 : Int32) (w10 : Int32) (w12 : Int32) (w13 : Int32) (w14 : Int32) (w15 : Int32) (w16 : Int64) (w17 : Int32) (w18 : Int32) (w23 : Int32) (w24 : Int64) (w25 : Int64) (w26 : Int64) (q1 : Nat → Int64) (u1 : Nat → Int64) (im1 : Nat → Int64) (ik1 : Nat → Int32), (f1 h0 = .inr (12, [.int w0, .int w1, .ref (gr g h0 2), .ref (gr g h0 3), .ref (gr g h0 4), .ref (gr g h0 5), .ref (gr g h0 6), .ref (gr g h0 7), .ref (gr g h0 8), .ref (gr g h0 9), .int w10, .ref (gr g h0 11), .int w12, .int w13, .int w14, .int w15, .long w16, .int w17, .int w18, .ref (gr g h0 19), .ref (gr g h0 20), .ref (gr g h0 21), .ref (gr g h0 22), .int w23, .long w24, .long w25, .long w26])) ∧ (0 ≤ w10.toInt ∧ w10.toInt ≤ 10) ∧ (0 ≤ w12.toInt ∧ w12.toInt ≤ 200) ∧ (0 ≤ w23.toInt ∧ w23.toInt ≤ 8) ∧ (f1 (gr g h0 4) = .inl (gc g 1, 906, .inr (.inl q1))) ∧ (RowOK q1) ∧ (f1 (gr g h0 5) = .inl (gc g 1, 9060, .inr (.inl u1))) ∧ (f1 (gr g h0 7) = .inl (gc g 1, 1812, .inr (.inl im1))) ∧ (f1 (gr g h0 8) = .inl (gc g 3, 2, .inl ik1)) ∧ (UIq w10 u1 im1 ik1)) A) 0 0 A := by
  refine Met.ofW (cc := cX12_end) (maxL := 2) (ret := (some .int)) (by decide) rfl ?_
  intro p e s m args below meth c s₁ B hml hv
  obtain ⟨rfl, hI, hK, hE⟩ := hv
  have hx := B.exec
  have hb := B.bytes
  have hr := B.returns
  have hts := atoms_spec (ws := wq_c_X12_end) B.pre
  have hown : s.vm.findClass RX12 = some m.cls := findClass_of_methodNamed B.named
  have hlocks := B.notSynchronized
  have hS : va_S A s.heap s.heap [] := va_S.rf
  have hk0 : Kp g [12] f f := Kp.rf
  have hl := lv_entry ([.ref h0, .int p1]) (n := 2) (Nat.le_of_ble_eq_true rfl)
  rw [lg_entry_eq]
  generalize (lg_sl ([.ref h0, .int p1]) ++ List.replicate (2 - (lg_sl ([.ref h0, .int p1])).length) Slot.unset).toArray = ls at hl ⊢
  have hl : lv_has ls 2 [(0, .ref h0), (1, .int p1)] := hl
  have i_1 := kw_12_4 hG i_h0
  have d_2 := rk_hd hc1_ok
  have i_3 := kw_12_5 hG i_h0
  have i_4 := kw_12_7 hG i_h0
  have i_5 := kw_12_8 hG i_h0
  refine lv_aload_n hx hb dX12_end_0 rfl (lv_at hl 0 rfl) ?_
  refine lv_iconst (v := 0) hx hb dX12_end_1 (by decide) ?_
  refine k_put (ci := 12) (v := .int 0) (ty := .int) (C := RX12) (T := TX12) (N := 27) hx hb hts (fun _ h0_ => List.mem_cons_of_mem _ (List.mem_append_right _ (List.mem_append_left _ h0_))) tyX12 tyX12_ok nmX12 hown hK hI hS i_h0.1 hc0 rfl 0 (by decide) (hts (.fieldLink RX12 67 "DeadlineShareModel" "thrown" "I") (List.mem_cons_of_mem _ (List.mem_append_left _ (List.mem_of_getElem? (i := 0) rfl)))) (fun _ h9 => h9) rfl (by decide +kernel) rfl rfl (Nat.le_of_ble_eq_true rfl) rfl (cl_12 i_h0 (by omega) (by omega) (by omega)) dX12_end_2 (fun f_6 H locs e_7 hI hS => ?_)
  have k_9 : f_6 h0 = .inr (12, [.int 0, .int z1, .ref (gr g h0 2), .ref (gr g h0 3), .ref (gr g h0 4), .ref (gr g h0 5), .ref (gr g h0 6), .ref (gr g h0 7), .ref (gr g h0 8), .ref (gr g h0 9), .int z10, .ref (gr g h0 11), .int z12, .int z13, .int z14, .int z15, .long z16, .int z17, .int z18, .ref (gr g h0 19), .ref (gr g h0 20), .ref (gr g h0 21), .ref (gr g h0 22), .int z23, .long z24, .long z25, .long z26]) := by rw [e_7]; exact va_up_self _ _ _
  have k_10 : f_6 (gr g h0 4) = .inl (gc g 1, 906, .inr (.inl q)) := by rw [e_7, va_up_ne _ _ (ik_ne i_1 i_h0 (by decide))]; exact hc1
  have k_11 : f_6 (gr g h0 5) = .inl (gc g 1, 9060, .inr (.inl u)) := by rw [e_7, va_up_ne _ _ (ik_ne i_3 i_h0 (by decide))]; exact hc2
  have k_12 : f_6 (gr g h0 7) = .inl (gc g 1, 1812, .inr (.inl im)) := by rw [e_7, va_up_ne _ _ (ik_ne i_4 i_h0 (by decide))]; exact hc3
  have k_13 : f_6 (gr g h0 8) = .inl (gc g 3, 2, .inl kt) := by rw [e_7, va_up_ne _ _ (ik_ne i_5 i_h0 (by decide))]; exact hc4
  have kp_8 := Kp.put hk0 i_h0 (by decide) e_7
  refine lv_iload_n hx hb dX12_end_5 rfl (lv_at hl 1 rfl) ?_
  refine lv_if_lt (tgt := 17) hx hb dX12_end_6 (by decide) (fun c_14 => ?_) (fun c_14 => ?_)
  · have c_14 := kc_lt rfl (by decide : Int32.toInt 0 = 0) c_14
    refine lv_iconst (v := (-1)) hx hb dX12_end_17 (by decide) ?_
    exact W.iret (v := (-1)) hx hb hr (fun t ht hW => ⟨⟨(-1), (), rfl, trivial, ⟨f_6, k_ret ht hI, kp_8, 0, z1, z10, z12, z13, z14, z15, z16, z17, z18, z23, z24, z25, z26, q, u, im, kt, k_9, (by first | omega | decide), (by first | omega | decide), (by first | omega | decide), k_10, hc1_ok, k_11, k_12, k_13, hU⟩⟩, hS.F ht⟩) hS.2.2 dX12_end_18
  · have c_14 := kn_lt rfl (by decide : Int32.toInt 0 = 0) c_14
    refine lv_iload_n hx hb dX12_end_9 rfl (lv_at hl 1 rfl) ?_
    refine lv_aload_n hx hb dX12_end_10 rfl (lv_at hl 0 rfl) ?_
    refine k_get (ci := 12) (v := .int z12) (C := RX12) (T := TX12) (N := 27) hx hb hts (fun _ h0_ => List.mem_cons_of_mem _ (List.mem_append_right _ (List.mem_append_left _ h0_))) hown hK hI i_h0.1 k_9 rfl 12 (by decide) (hts (.fieldLink RX12 128 "DeadlineShareModel" "taped" "I") (List.mem_cons_of_mem _ (List.mem_append_left _ (List.mem_of_getElem? (i := 1) rfl)))) (fun _ h9 => h9) rfl dX12_end_11 ?_
    refine lv_icmp_le (tgt := 19) hx hb dX12_end_14 (by decide) (fun c_15 => ?_) (fun c_15 => ?_)
    · have c_15 := kc_le rfl rfl c_15
      refine lv_aload_n hx hb dX12_end_19 rfl (lv_at hl 0 rfl) ?_
      refine lv_iload_n hx hb dX12_end_20 rfl (lv_at hl 1 rfl) ?_
      have b_16 : 0 ≤ Int32.toInt p1 ∧ Int32.toInt p1 ≤ 200 := by omega
      refine k_put (ci := 12) (v := .int p1) (ty := .int) (C := RX12) (T := TX12) (N := 27) hx hb hts (fun _ h0_ => List.mem_cons_of_mem _ (List.mem_append_right _ (List.mem_append_left _ h0_))) tyX12 tyX12_ok nmX12 hown hK hI hS i_h0.1 k_9 rfl 12 (by decide) (hts (.fieldLink RX12 128 "DeadlineShareModel" "taped" "I") (List.mem_cons_of_mem _ (List.mem_append_left _ (List.mem_of_getElem? (i := 1) rfl)))) (fun _ h9 => h9) rfl (by decide +kernel) rfl rfl (Nat.le_of_ble_eq_true rfl) rfl (cl_12 i_h0 (by omega) b_16 (by omega)) dX12_end_21 (fun f_17 H locs e_18 hI hS => ?_)
      have k_20 : f_17 h0 = .inr (12, [.int 0, .int z1, .ref (gr g h0 2), .ref (gr g h0 3), .ref (gr g h0 4), .ref (gr g h0 5), .ref (gr g h0 6), .ref (gr g h0 7), .ref (gr g h0 8), .ref (gr g h0 9), .int z10, .ref (gr g h0 11), .int p1, .int z13, .int z14, .int z15, .long z16, .int z17, .int z18, .ref (gr g h0 19), .ref (gr g h0 20), .ref (gr g h0 21), .ref (gr g h0 22), .int z23, .long z24, .long z25, .long z26]) := by rw [e_18]; exact va_up_self _ _ _
      have k_21 : f_17 (gr g h0 4) = .inl (gc g 1, 906, .inr (.inl q)) := by rw [e_18, va_up_ne _ _ (ik_ne i_1 i_h0 (by decide))]; exact k_10
      have k_22 : f_17 (gr g h0 5) = .inl (gc g 1, 9060, .inr (.inl u)) := by rw [e_18, va_up_ne _ _ (ik_ne i_3 i_h0 (by decide))]; exact k_11
      have k_23 : f_17 (gr g h0 7) = .inl (gc g 1, 1812, .inr (.inl im)) := by rw [e_18, va_up_ne _ _ (ik_ne i_4 i_h0 (by decide))]; exact k_12
      have k_24 : f_17 (gr g h0 8) = .inl (gc g 3, 2, .inl kt) := by rw [e_18, va_up_ne _ _ (ik_ne i_5 i_h0 (by decide))]; exact k_13
      have kp_19 := Kp.put kp_8 i_h0 (by decide) e_18
      refine lv_iload_n hx hb dX12_end_24 rfl (lv_at hl 1 rfl) ?_
      exact W.iret (v := p1) hx hb hr (fun t ht hW => ⟨⟨p1, (), rfl, trivial, ⟨f_17, k_ret ht hI, kp_19, 0, z1, z10, p1, z13, z14, z15, z16, z17, z18, z23, z24, z25, z26, q, u, im, kt, k_20, (by first | omega | decide), (by first | omega | decide), (by first | omega | decide), k_21, hc1_ok, k_22, k_23, k_24, hU⟩⟩, hS.F ht⟩) hS.2.2 dX12_end_25
    · have c_15 := kn_le rfl rfl c_15
      refine lv_iconst (v := (-1)) hx hb dX12_end_17 (by decide) ?_
      exact W.iret (v := (-1)) hx hb hr (fun t ht hW => ⟨⟨(-1), (), rfl, trivial, ⟨f_6, k_ret ht hI, kp_8, 0, z1, z10, z12, z13, z14, z15, z16, z17, z18, z23, z24, z25, z26, q, u, im, kt, k_9, (by first | omega | decide), (by first | omega | decide), (by first | omega | decide), k_10, hc1_ok, k_11, k_12, k_13, hU⟩⟩, hS.F ht⟩) hS.2.2 dX12_end_18
theorem tw_931 : q_g (.selects RX12 yX12_four yX12_four) := ⟨(List.mem_append_left _ (List.mem_of_getElem? (i := 23) (by decide +kernel))), good_of_word (by decide +kernel)⟩
theorem tw_932 : q_g (.instanceMethod yX12_four) := ⟨(List.mem_append_right _ (List.mem_of_getElem? (i := 1207) (by decide +kernel))), good_of_word (by decide +kernel)⟩
theorem tw_933 : q_g (.methodLink RX12 131 yX12_four) := ⟨(List.mem_append_right _ (List.mem_of_getElem? (i := 1205) (by decide +kernel))), good_of_word (by decide +kernel)⟩
theorem tw_934 : q_g (.code yX12_feed cX12_feed 6 (some .int)) := ⟨(List.mem_append_right _ (List.mem_of_getElem? (i := 1204) (by decide +kernel))), good_of_word (by decide +kernel)⟩
def ow_c_X12_feed : List Cond := [.fieldLink RX12 67 "DeadlineShareModel" "thrown" "I", .fieldLink RX12 128 "DeadlineShareModel" "taped" "I", .methodLink RX12 131 yX12_four, .instanceMethod yX12_four, .selects RX12 yX12_four yX12_four, .initialized RX12]
def wq_c_X12_feed : List Cond := .code yX12_feed cX12_feed 6 (some .int) :: (ow_c_X12_feed ++ (u_ws RX12 TX12 27 ++ (wq_c_X12_four ++ ([] : List Cond))))
theorem tb_c_X12_feed : ∀ w ∈ wq_c_X12_feed, q_g w := by
  unfold wq_c_X12_feed ow_c_X12_feed
  exact q_cons tw_934 (q_app (q_cons tw_927 (q_cons tw_809 (q_cons tw_933 (q_cons tw_932 (q_cons tw_931 (q_cons tw_728 q_nil)))))) (q_app tu_X12 (q_app tb_c_X12_four q_nil)))
set_option maxHeartbeats 4000000 in
set_option maxRecDepth 100000 in
theorem c_X12_feed (l : Launch) (dC : Nat → ClassId) (dI : Nat → Nat → Nat) (g : kG) (A : Nat → Prop) (hG : kWf g) (f : Nat → va_E) (h0 : Nat) (p1 : Int32) (p2 : Int32) (p3 : Int32) (p4 : Int32) (p5 : Int32) (z0 : Int32) (z1 : Int32) (z10 : Int32) (z12 : Int32) (z13 : Int32) (z14 : Int32) (z15 : Int32) (z16 : Int64) (z17 : Int32) (z18 : Int32) (z23 : Int32) (z24 : Int64) (z25 : Int64) (z26 : Int64) (q : Nat → Int64) (u : Nat → Int64) (im : Nat → Int64) (kt : Nat → Int32) (i_h0 : ik g 12 h0) (hc0 : f h0 = .inr (12, [.int z0, .int z1, .ref (gr g h0 2), .ref (gr g h0 3), .ref (gr g h0 4), .ref (gr g h0 5), .ref (gr g h0 6), .ref (gr g h0 7), .ref (gr g h0 8), .ref (gr g h0 9), .int z10, .ref (gr g h0 11), .int z12, .int z13, .int z14, .int z15, .long z16, .int z17, .int z18, .ref (gr g h0 19), .ref (gr g h0 20), .ref (gr g h0 21), .ref (gr g h0 22), .int z23, .long z24, .long z25, .long z26])) (hc0_10 : 0 ≤ z10.toInt ∧ z10.toInt ≤ 10) (hc0_12 : 0 ≤ z12.toInt ∧ z12.toInt ≤ 200) (hc0_23 : 0 ≤ z23.toInt ∧ z23.toInt ≤ 8) (hc1 : f (gr g h0 4) = .inl (gc g 1, 906, .inr (.inl q))) (hc1_ok : RowOK q) (hc2 : f (gr g h0 5) = .inl (gc g 1, 9060, .inr (.inl u))) (hc3 : f (gr g h0 7) = .inl (gc g 1, 1812, .inr (.inl im))) (hc4 : f (gr g h0 8) = .inl (gc g 3, 2, .inl kt)) (hU : UIq z10 u im kt) : Met l yX12_feed wq_c_X12_feed ({ frames := 1, cells := 0, slots := 0, locals := 22 } : Room) (va_Pc [.ref h0, .int p1, .int p2, .int p3, .int p4, .int p5] (fun U => kIn dC dI g A f U)) (va_Qi (fun (r : Int32) (_ : Unit) => True) (fun (_ : Unit) t => ∃ f1 : Nat → va_E, Iv dC dI g A f1 t.heap ∧ Kp g [12, 38] f f1 ∧ ∃ (w0 : Int32) (w1 : Int32) (w10 : Int32) (w12 : Int32) (w13 : Int32) (w14 : Int32) (w15 : Int32) (w16 : Int64) (w17 : Int32) (w18 : Int32) (w23 : Int32) (w24 : Int64) (w25 : Int64) (w26 : Int64) (q1 : Nat → Int64) (u1 : Nat → Int64) (im1 : Nat → Int64) (ik1 : Nat → Int32), (f1 h0 = .inr (12, [.int w0, .int w1, .ref (gr g h0 2), .ref (gr g h0 3), .ref (gr g h0 4), .ref (gr g h0 5), .ref (gr g h0 6), .ref (gr g h0 7), .ref (gr g h0 8), .ref (gr g h0 9), .int w10, .ref (gr g h0 11), .int w12, .int w13, .int w14, .int w15, .long w16, .int w17, .int w18, .ref (gr g h0 19), .ref (gr g h0 20), .ref (gr g h0 21), .ref (gr g h0 22), .int w23, .long w24, .long w25, .long w26])) ∧ (0 ≤ w10.toInt ∧ w10.toInt ≤ 10) ∧ (0 ≤ w12.toInt ∧ w12.toInt ≤ 200) ∧ (0 ≤ w23.toInt ∧ w23.toInt ≤ 8) ∧ (f1 (gr g h0 4) = .inl (gc g 1, 906, .inr (.inl q1))) ∧ (RowOK q1) ∧ (f1 (gr g h0 5) = .inl (gc g 1, 9060, .inr (.inl u1))) ∧ (f1 (gr g h0 7) = .inl (gc g 1, 1812, .inr (.inl im1))) ∧ (f1 (gr g h0 8) = .inl (gc g 3, 2, .inl ik1)) ∧ (UIq w10 u1 im1 ik1)) A) 0 0 A := by
  refine Met.ofW (cc := cX12_feed) (maxL := 6) (ret := (some .int)) (by decide) rfl ?_
  intro p e s m args below meth c s₁ B hml hv
  obtain ⟨rfl, hI, hK, hE⟩ := hv
  have hx := B.exec
  have hb := B.bytes
  have hr := B.returns
  have hts := atoms_spec (ws := wq_c_X12_feed) B.pre
  have hown : s.vm.findClass RX12 = some m.cls := findClass_of_methodNamed B.named
  have hlocks := B.notSynchronized
  have hS : va_S A s.heap s.heap [] := va_S.rf
  have hk0 : Kp g [12, 38] f f := Kp.rf
  have hl := lv_entry ([.ref h0, .int p1, .int p2, .int p3, .int p4, .int p5]) (n := 6) (Nat.le_of_ble_eq_true rfl)
  rw [lg_entry_eq]
  generalize (lg_sl ([.ref h0, .int p1, .int p2, .int p3, .int p4, .int p5]) ++ List.replicate (6 - (lg_sl ([.ref h0, .int p1, .int p2, .int p3, .int p4, .int p5])).length) Slot.unset).toArray = ls at hl ⊢
  have hl : lv_has ls 6 [(0, .ref h0), (1, .int p1), (2, .int p2), (3, .int p3), (4, .int p4), (5, .int p5)] := hl
  have i_1 := kw_12_4 hG i_h0
  have d_2 := rk_hd hc1_ok
  have i_3 := kw_12_5 hG i_h0
  have i_4 := kw_12_7 hG i_h0
  have i_5 := kw_12_8 hG i_h0
  refine lv_aload_n hx hb dX12_feed_0 rfl (lv_at hl 0 rfl) ?_
  refine lv_iconst (v := 0) hx hb dX12_feed_1 (by decide) ?_
  refine k_put (ci := 12) (v := .int 0) (ty := .int) (C := RX12) (T := TX12) (N := 27) hx hb hts (fun _ h0_ => List.mem_cons_of_mem _ (List.mem_append_right _ (List.mem_append_left _ h0_))) tyX12 tyX12_ok nmX12 hown hK hI hS i_h0.1 hc0 rfl 0 (by decide) (hts (.fieldLink RX12 67 "DeadlineShareModel" "thrown" "I") (List.mem_cons_of_mem _ (List.mem_append_left _ (List.mem_of_getElem? (i := 0) rfl)))) (fun _ h9 => h9) rfl (by decide +kernel) rfl rfl (Nat.le_of_ble_eq_true rfl) rfl (cl_12 i_h0 (by omega) (by omega) (by omega)) dX12_feed_2 (fun f_6 H locs e_7 hI hS => ?_)
  have k_9 : f_6 h0 = .inr (12, [.int 0, .int z1, .ref (gr g h0 2), .ref (gr g h0 3), .ref (gr g h0 4), .ref (gr g h0 5), .ref (gr g h0 6), .ref (gr g h0 7), .ref (gr g h0 8), .ref (gr g h0 9), .int z10, .ref (gr g h0 11), .int z12, .int z13, .int z14, .int z15, .long z16, .int z17, .int z18, .ref (gr g h0 19), .ref (gr g h0 20), .ref (gr g h0 21), .ref (gr g h0 22), .int z23, .long z24, .long z25, .long z26]) := by rw [e_7]; exact va_up_self _ _ _
  have k_10 : f_6 (gr g h0 4) = .inl (gc g 1, 906, .inr (.inl q)) := by rw [e_7, va_up_ne _ _ (ik_ne i_1 i_h0 (by decide))]; exact hc1
  have k_11 : f_6 (gr g h0 5) = .inl (gc g 1, 9060, .inr (.inl u)) := by rw [e_7, va_up_ne _ _ (ik_ne i_3 i_h0 (by decide))]; exact hc2
  have k_12 : f_6 (gr g h0 7) = .inl (gc g 1, 1812, .inr (.inl im)) := by rw [e_7, va_up_ne _ _ (ik_ne i_4 i_h0 (by decide))]; exact hc3
  have k_13 : f_6 (gr g h0 8) = .inl (gc g 3, 2, .inl kt) := by rw [e_7, va_up_ne _ _ (ik_ne i_5 i_h0 (by decide))]; exact hc4
  have kp_8 := Kp.put hk0 i_h0 (by decide) e_7
  refine lv_aload_n hx hb dX12_feed_5 rfl (lv_at hl 0 rfl) ?_
  refine k_get (ci := 12) (v := .int z12) (C := RX12) (T := TX12) (N := 27) hx hb hts (fun _ h0_ => List.mem_cons_of_mem _ (List.mem_append_right _ (List.mem_append_left _ h0_))) hown hK hI i_h0.1 k_9 rfl 12 (by decide) (hts (.fieldLink RX12 128 "DeadlineShareModel" "taped" "I") (List.mem_cons_of_mem _ (List.mem_append_left _ (List.mem_of_getElem? (i := 1) rfl)))) (fun _ h9 => h9) rfl dX12_feed_6 ?_
  refine lv_bipush (v := 20) hx hb dX12_feed_9 (by decide) ?_
  refine lv_iadd hx hb dX12_feed_11 ?_
  refine lv_topi (fun v_14 ev_14 => ?_)
  have tv_14 := k_ad z12 20
  rw [← ev_14, show Int32.toInt 20 = 20 from by decide] at tv_14
  refine lv_sipush (v := 200) hx hb dX12_feed_12 (by decide) ?_
  refine lv_icmp_le (tgt := 20) hx hb dX12_feed_15 (by decide) (fun c_15 => ?_) (fun c_15 => ?_)
  · have c_15 := kc_le rfl (by decide : Int32.toInt 200 = 200) c_15
    refine lv_aload_n hx hb dX12_feed_20 rfl (lv_at hl 0 rfl) ?_
    refine lv_iload_n hx hb dX12_feed_21 rfl (lv_at hl 1 rfl) ?_
    refine va_callv (va_runV (As := [.int p1]) (rest := []) ⟨hx, hb, hml, hown, hts⟩ (c_X12_four l dC dI g A hG f_6 h0 p1 0 z1 z10 z12 z13 z14 z15 z16 z17 z18 z23 z24 z25 z26 i_h0 k_9 (by first | omega | (simp only [k_c0]; omega)) (by first | omega | (simp only [k_c0]; omega)) (by first | omega | (simp only [k_c0]; omega)) (by first | omega | decide | (simp only [k_c0, k_c1, k_cm1]; omega))) (cwV 1 hts (gi_V (fun w_ h0_ => ⟨List.mem_cons_of_mem _ (List.mem_append_right _ (List.mem_append_right _ (List.mem_append_left _ h0_))), (tb_c_X12_four w_ h0_).2⟩) (List.mem_cons_of_mem _ (List.mem_append_left _ (List.mem_of_getElem? (i := 2) rfl))) (List.mem_cons_of_mem _ (List.mem_append_left _ (List.mem_of_getElem? (i := 3) rfl))) (List.mem_cons_of_mem _ (List.mem_append_left _ (List.mem_of_getElem? (i := 4) rfl))) (List.mem_cons_of_mem _ (List.mem_append_left _ (List.mem_of_getElem? (i := 5) rfl)))) rfl rfl rfl (by decide +kernel) ⟨Nat.le_of_ble_eq_true rfl, Nat.le_of_ble_eq_true rfl⟩) ⟨fun a U g mk q => ⟨q.1, q.2.calling rfl rfl⟩, k_recv hK hI i_h0.1 k_9 (ci := 12) rfl, fun U hU hW => ⟨rfl, kIn.of hI hK hE hS hU hW⟩⟩ rfl rfl hl.1 rfl (lv_room (Nat.le_of_ble_eq_true rfl)) dX12_feed_22 ⟨Nat.le_of_ble_eq_true rfl, Nat.le_of_ble_eq_true rfl⟩) hS (fun q _ h => h) (fun q h => h) (fun u t H1 locs ht hvm _ hB hz1 hk1 hS => ?_)
    obtain ⟨f_16, hI, kc_18, w12_19, k_20, z_21⟩ := hB
    rw [ht] at hI
    have k_22 : f_16 (gr g h0 4) = .inl (gc g 1, 906, .inr (.inl q)) := Kp.at kc_18 i_1 (by decide) k_10
    have k_23 : f_16 (gr g h0 5) = .inl (gc g 1, 9060, .inr (.inl u)) := Kp.at kc_18 i_3 (by decide) k_11
    have k_24 : f_16 (gr g h0 7) = .inl (gc g 1, 1812, .inr (.inl im)) := Kp.at kc_18 i_4 (by decide) k_12
    have k_25 : f_16 (gr g h0 8) = .inl (gc g 3, 2, .inl kt) := Kp.at kc_18 i_5 (by decide) k_13
    have k_20 : f_16 h0 = .inr (12, [.int (0 : Int32), .int z1, .ref (gr g h0 2), .ref (gr g h0 3), .ref (gr g h0 4), .ref (gr g h0 5), .ref (gr g h0 6), .ref (gr g h0 7), .ref (gr g h0 8), .ref (gr g h0 9), .int z10, .ref (gr g h0 11), .int w12_19, .int z13, .int z14, .int z15, .long z16, .int z17, .int z18, .ref (gr g h0 19), .ref (gr g h0 20), .ref (gr g h0 21), .ref (gr g h0 22), .int z23, .long z24, .long z25, .long z26]) := k_20
    have z_21 : w12_19.toInt = z12.toInt + 4 := z_21
    have kp_26 := Kp.call kp_8 kc_18 (by decide)
    generalize H1 = H at hI hS ⊢
    refine W.widen (k := 0) (n := 0) (Nat.le_of_ble_eq_true rfl) (Nat.le_of_ble_eq_true rfl) ?_
    refine lv_aload_n hx hb dX12_feed_25 rfl (lv_at hl 0 rfl) ?_
    refine lv_iload_n hx hb dX12_feed_26 rfl (lv_at hl 2 rfl) ?_
    refine va_callv (va_runV (As := [.int p2]) (rest := []) ⟨hx, hb, hml, hown, hts⟩ (c_X12_four l dC dI g A hG f_16 h0 p2 (0 : Int32) z1 z10 w12_19 z13 z14 z15 z16 z17 z18 z23 z24 z25 z26 i_h0 k_20 (by first | omega | (simp only [k_c0]; omega)) (by first | omega | (simp only [k_c0]; omega)) (by first | omega | (simp only [k_c0]; omega)) (by first | omega | decide | (simp only [k_c0, k_c1, k_cm1]; omega))) (cwV 1 hts (gi_V (fun w_ h0_ => ⟨List.mem_cons_of_mem _ (List.mem_append_right _ (List.mem_append_right _ (List.mem_append_left _ h0_))), (tb_c_X12_four w_ h0_).2⟩) (List.mem_cons_of_mem _ (List.mem_append_left _ (List.mem_of_getElem? (i := 2) rfl))) (List.mem_cons_of_mem _ (List.mem_append_left _ (List.mem_of_getElem? (i := 3) rfl))) (List.mem_cons_of_mem _ (List.mem_append_left _ (List.mem_of_getElem? (i := 4) rfl))) (List.mem_cons_of_mem _ (List.mem_append_left _ (List.mem_of_getElem? (i := 5) rfl)))) rfl rfl rfl (by decide +kernel) ⟨Nat.le_of_ble_eq_true rfl, Nat.le_of_ble_eq_true rfl⟩) ⟨fun a U g mk q => ⟨q.1, q.2.calling rfl rfl⟩, k_recv hK hI i_h0.1 k_20 (ci := 12) rfl, fun U hU hW => ⟨rfl, kIn.of hI hK hE hS hU hW⟩⟩ rfl rfl hl.1 rfl (lv_room (Nat.le_of_ble_eq_true rfl)) dX12_feed_27 ⟨Nat.le_of_ble_eq_true rfl, Nat.le_of_ble_eq_true rfl⟩) hS (fun q _ h => h) (fun q h => h) (fun u t H1 locs ht hvm _ hB hz1 hk1 hS => ?_)
    obtain ⟨f_27, hI, kc_29, w12_30, k_31, z_32⟩ := hB
    rw [ht] at hI
    have k_33 : f_27 (gr g h0 4) = .inl (gc g 1, 906, .inr (.inl q)) := Kp.at kc_29 i_1 (by decide) k_22
    have k_34 : f_27 (gr g h0 5) = .inl (gc g 1, 9060, .inr (.inl u)) := Kp.at kc_29 i_3 (by decide) k_23
    have k_35 : f_27 (gr g h0 7) = .inl (gc g 1, 1812, .inr (.inl im)) := Kp.at kc_29 i_4 (by decide) k_24
    have k_36 : f_27 (gr g h0 8) = .inl (gc g 3, 2, .inl kt) := Kp.at kc_29 i_5 (by decide) k_25
    have k_31 : f_27 h0 = .inr (12, [.int (0 : Int32), .int z1, .ref (gr g h0 2), .ref (gr g h0 3), .ref (gr g h0 4), .ref (gr g h0 5), .ref (gr g h0 6), .ref (gr g h0 7), .ref (gr g h0 8), .ref (gr g h0 9), .int z10, .ref (gr g h0 11), .int w12_30, .int z13, .int z14, .int z15, .long z16, .int z17, .int z18, .ref (gr g h0 19), .ref (gr g h0 20), .ref (gr g h0 21), .ref (gr g h0 22), .int z23, .long z24, .long z25, .long z26]) := k_31
    have z_32 : w12_30.toInt = w12_19.toInt + 4 := z_32
    have kp_37 := Kp.call kp_26 kc_29 (by decide)
    generalize H1 = H at hI hS ⊢
    refine W.widen (k := 0) (n := 0) (Nat.le_of_ble_eq_true rfl) (Nat.le_of_ble_eq_true rfl) ?_
    refine lv_aload_n hx hb dX12_feed_30 rfl (lv_at hl 0 rfl) ?_
    refine lv_iload_n hx hb dX12_feed_31 rfl (lv_at hl 3 rfl) ?_
    refine va_callv (va_runV (As := [.int p3]) (rest := []) ⟨hx, hb, hml, hown, hts⟩ (c_X12_four l dC dI g A hG f_27 h0 p3 (0 : Int32) z1 z10 w12_30 z13 z14 z15 z16 z17 z18 z23 z24 z25 z26 i_h0 k_31 (by first | omega | (simp only [k_c0]; omega)) (by first | omega | (simp only [k_c0]; omega)) (by first | omega | (simp only [k_c0]; omega)) (by first | omega | decide | (simp only [k_c0, k_c1, k_cm1]; omega))) (cwV 1 hts (gi_V (fun w_ h0_ => ⟨List.mem_cons_of_mem _ (List.mem_append_right _ (List.mem_append_right _ (List.mem_append_left _ h0_))), (tb_c_X12_four w_ h0_).2⟩) (List.mem_cons_of_mem _ (List.mem_append_left _ (List.mem_of_getElem? (i := 2) rfl))) (List.mem_cons_of_mem _ (List.mem_append_left _ (List.mem_of_getElem? (i := 3) rfl))) (List.mem_cons_of_mem _ (List.mem_append_left _ (List.mem_of_getElem? (i := 4) rfl))) (List.mem_cons_of_mem _ (List.mem_append_left _ (List.mem_of_getElem? (i := 5) rfl)))) rfl rfl rfl (by decide +kernel) ⟨Nat.le_of_ble_eq_true rfl, Nat.le_of_ble_eq_true rfl⟩) ⟨fun a U g mk q => ⟨q.1, q.2.calling rfl rfl⟩, k_recv hK hI i_h0.1 k_31 (ci := 12) rfl, fun U hU hW => ⟨rfl, kIn.of hI hK hE hS hU hW⟩⟩ rfl rfl hl.1 rfl (lv_room (Nat.le_of_ble_eq_true rfl)) dX12_feed_32 ⟨Nat.le_of_ble_eq_true rfl, Nat.le_of_ble_eq_true rfl⟩) hS (fun q _ h => h) (fun q h => h) (fun u t H1 locs ht hvm _ hB hz1 hk1 hS => ?_)
    obtain ⟨f_38, hI, kc_40, w12_41, k_42, z_43⟩ := hB
    rw [ht] at hI
    have k_44 : f_38 (gr g h0 4) = .inl (gc g 1, 906, .inr (.inl q)) := Kp.at kc_40 i_1 (by decide) k_33
    have k_45 : f_38 (gr g h0 5) = .inl (gc g 1, 9060, .inr (.inl u)) := Kp.at kc_40 i_3 (by decide) k_34
    have k_46 : f_38 (gr g h0 7) = .inl (gc g 1, 1812, .inr (.inl im)) := Kp.at kc_40 i_4 (by decide) k_35
    have k_47 : f_38 (gr g h0 8) = .inl (gc g 3, 2, .inl kt) := Kp.at kc_40 i_5 (by decide) k_36
    have k_42 : f_38 h0 = .inr (12, [.int (0 : Int32), .int z1, .ref (gr g h0 2), .ref (gr g h0 3), .ref (gr g h0 4), .ref (gr g h0 5), .ref (gr g h0 6), .ref (gr g h0 7), .ref (gr g h0 8), .ref (gr g h0 9), .int z10, .ref (gr g h0 11), .int w12_41, .int z13, .int z14, .int z15, .long z16, .int z17, .int z18, .ref (gr g h0 19), .ref (gr g h0 20), .ref (gr g h0 21), .ref (gr g h0 22), .int z23, .long z24, .long z25, .long z26]) := k_42
    have z_43 : w12_41.toInt = w12_30.toInt + 4 := z_43
    have kp_48 := Kp.call kp_37 kc_40 (by decide)
    generalize H1 = H at hI hS ⊢
    refine W.widen (k := 0) (n := 0) (Nat.le_of_ble_eq_true rfl) (Nat.le_of_ble_eq_true rfl) ?_
    refine lv_aload_n hx hb dX12_feed_35 rfl (lv_at hl 0 rfl) ?_
    refine lv_iload hx hb dX12_feed_36 (lv_at hl 4 rfl) ?_
    refine va_callv (va_runV (As := [.int p4]) (rest := []) ⟨hx, hb, hml, hown, hts⟩ (c_X12_four l dC dI g A hG f_38 h0 p4 (0 : Int32) z1 z10 w12_41 z13 z14 z15 z16 z17 z18 z23 z24 z25 z26 i_h0 k_42 (by first | omega | (simp only [k_c0]; omega)) (by first | omega | (simp only [k_c0]; omega)) (by first | omega | (simp only [k_c0]; omega)) (by first | omega | decide | (simp only [k_c0, k_c1, k_cm1]; omega))) (cwV 1 hts (gi_V (fun w_ h0_ => ⟨List.mem_cons_of_mem _ (List.mem_append_right _ (List.mem_append_right _ (List.mem_append_left _ h0_))), (tb_c_X12_four w_ h0_).2⟩) (List.mem_cons_of_mem _ (List.mem_append_left _ (List.mem_of_getElem? (i := 2) rfl))) (List.mem_cons_of_mem _ (List.mem_append_left _ (List.mem_of_getElem? (i := 3) rfl))) (List.mem_cons_of_mem _ (List.mem_append_left _ (List.mem_of_getElem? (i := 4) rfl))) (List.mem_cons_of_mem _ (List.mem_append_left _ (List.mem_of_getElem? (i := 5) rfl)))) rfl rfl rfl (by decide +kernel) ⟨Nat.le_of_ble_eq_true rfl, Nat.le_of_ble_eq_true rfl⟩) ⟨fun a U g mk q => ⟨q.1, q.2.calling rfl rfl⟩, k_recv hK hI i_h0.1 k_42 (ci := 12) rfl, fun U hU hW => ⟨rfl, kIn.of hI hK hE hS hU hW⟩⟩ rfl rfl hl.1 rfl (lv_room (Nat.le_of_ble_eq_true rfl)) dX12_feed_38 ⟨Nat.le_of_ble_eq_true rfl, Nat.le_of_ble_eq_true rfl⟩) hS (fun q _ h => h) (fun q h => h) (fun u t H1 locs ht hvm _ hB hz1 hk1 hS => ?_)
    obtain ⟨f_49, hI, kc_51, w12_52, k_53, z_54⟩ := hB
    rw [ht] at hI
    have k_55 : f_49 (gr g h0 4) = .inl (gc g 1, 906, .inr (.inl q)) := Kp.at kc_51 i_1 (by decide) k_44
    have k_56 : f_49 (gr g h0 5) = .inl (gc g 1, 9060, .inr (.inl u)) := Kp.at kc_51 i_3 (by decide) k_45
    have k_57 : f_49 (gr g h0 7) = .inl (gc g 1, 1812, .inr (.inl im)) := Kp.at kc_51 i_4 (by decide) k_46
    have k_58 : f_49 (gr g h0 8) = .inl (gc g 3, 2, .inl kt) := Kp.at kc_51 i_5 (by decide) k_47
    have k_53 : f_49 h0 = .inr (12, [.int (0 : Int32), .int z1, .ref (gr g h0 2), .ref (gr g h0 3), .ref (gr g h0 4), .ref (gr g h0 5), .ref (gr g h0 6), .ref (gr g h0 7), .ref (gr g h0 8), .ref (gr g h0 9), .int z10, .ref (gr g h0 11), .int w12_52, .int z13, .int z14, .int z15, .long z16, .int z17, .int z18, .ref (gr g h0 19), .ref (gr g h0 20), .ref (gr g h0 21), .ref (gr g h0 22), .int z23, .long z24, .long z25, .long z26]) := k_53
    have z_54 : w12_52.toInt = w12_41.toInt + 4 := z_54
    have kp_59 := Kp.call kp_48 kc_51 (by decide)
    generalize H1 = H at hI hS ⊢
    refine W.widen (k := 0) (n := 0) (Nat.le_of_ble_eq_true rfl) (Nat.le_of_ble_eq_true rfl) ?_
    refine lv_aload_n hx hb dX12_feed_41 rfl (lv_at hl 0 rfl) ?_
    refine lv_iload hx hb dX12_feed_42 (lv_at hl 5 rfl) ?_
    refine va_callv (va_runV (As := [.int p5]) (rest := []) ⟨hx, hb, hml, hown, hts⟩ (c_X12_four l dC dI g A hG f_49 h0 p5 (0 : Int32) z1 z10 w12_52 z13 z14 z15 z16 z17 z18 z23 z24 z25 z26 i_h0 k_53 (by first | omega | (simp only [k_c0]; omega)) (by first | omega | (simp only [k_c0]; omega)) (by first | omega | (simp only [k_c0]; omega)) (by first | omega | decide | (simp only [k_c0, k_c1, k_cm1]; omega))) (cwV 1 hts (gi_V (fun w_ h0_ => ⟨List.mem_cons_of_mem _ (List.mem_append_right _ (List.mem_append_right _ (List.mem_append_left _ h0_))), (tb_c_X12_four w_ h0_).2⟩) (List.mem_cons_of_mem _ (List.mem_append_left _ (List.mem_of_getElem? (i := 2) rfl))) (List.mem_cons_of_mem _ (List.mem_append_left _ (List.mem_of_getElem? (i := 3) rfl))) (List.mem_cons_of_mem _ (List.mem_append_left _ (List.mem_of_getElem? (i := 4) rfl))) (List.mem_cons_of_mem _ (List.mem_append_left _ (List.mem_of_getElem? (i := 5) rfl)))) rfl rfl rfl (by decide +kernel) ⟨Nat.le_of_ble_eq_true rfl, Nat.le_of_ble_eq_true rfl⟩) ⟨fun a U g mk q => ⟨q.1, q.2.calling rfl rfl⟩, k_recv hK hI i_h0.1 k_53 (ci := 12) rfl, fun U hU hW => ⟨rfl, kIn.of hI hK hE hS hU hW⟩⟩ rfl rfl hl.1 rfl (lv_room (Nat.le_of_ble_eq_true rfl)) dX12_feed_44 ⟨Nat.le_of_ble_eq_true rfl, Nat.le_of_ble_eq_true rfl⟩) hS (fun q _ h => h) (fun q h => h) (fun u t H1 locs ht hvm _ hB hz1 hk1 hS => ?_)
    obtain ⟨f_60, hI, kc_62, w12_63, k_64, z_65⟩ := hB
    rw [ht] at hI
    have k_66 : f_60 (gr g h0 4) = .inl (gc g 1, 906, .inr (.inl q)) := Kp.at kc_62 i_1 (by decide) k_55
    have k_67 : f_60 (gr g h0 5) = .inl (gc g 1, 9060, .inr (.inl u)) := Kp.at kc_62 i_3 (by decide) k_56
    have k_68 : f_60 (gr g h0 7) = .inl (gc g 1, 1812, .inr (.inl im)) := Kp.at kc_62 i_4 (by decide) k_57
    have k_69 : f_60 (gr g h0 8) = .inl (gc g 3, 2, .inl kt) := Kp.at kc_62 i_5 (by decide) k_58
    have k_64 : f_60 h0 = .inr (12, [.int (0 : Int32), .int z1, .ref (gr g h0 2), .ref (gr g h0 3), .ref (gr g h0 4), .ref (gr g h0 5), .ref (gr g h0 6), .ref (gr g h0 7), .ref (gr g h0 8), .ref (gr g h0 9), .int z10, .ref (gr g h0 11), .int w12_63, .int z13, .int z14, .int z15, .long z16, .int z17, .int z18, .ref (gr g h0 19), .ref (gr g h0 20), .ref (gr g h0 21), .ref (gr g h0 22), .int z23, .long z24, .long z25, .long z26]) := k_64
    have z_65 : w12_63.toInt = w12_52.toInt + 4 := z_65
    have kp_70 := Kp.call kp_59 kc_62 (by decide)
    generalize H1 = H at hI hS ⊢
    refine W.widen (k := 0) (n := 0) (Nat.le_of_ble_eq_true rfl) (Nat.le_of_ble_eq_true rfl) ?_
    refine lv_aload_n hx hb dX12_feed_47 rfl (lv_at hl 0 rfl) ?_
    refine k_get (ci := 12) (v := .int w12_63) (C := RX12) (T := TX12) (N := 27) hx hb hts (fun _ h0_ => List.mem_cons_of_mem _ (List.mem_append_right _ (List.mem_append_left _ h0_))) hown hK hI i_h0.1 k_64 rfl 12 (by decide) (hts (.fieldLink RX12 128 "DeadlineShareModel" "taped" "I") (List.mem_cons_of_mem _ (List.mem_append_left _ (List.mem_of_getElem? (i := 1) rfl)))) (fun _ h9 => h9) rfl dX12_feed_48 ?_
    exact W.iret (v := w12_63) hx hb hr (fun t ht hW => ⟨⟨w12_63, (), rfl, trivial, ⟨f_60, k_ret ht hI, kp_70, (0 : Int32), z1, z10, w12_63, z13, z14, z15, z16, z17, z18, z23, z24, z25, z26, q, u, im, kt, k_64, (by first | omega | decide), (by first | omega | decide), (by first | omega | decide), k_66, hc1_ok, k_67, k_68, k_69, hU⟩⟩, hS.F ht⟩) hS.2.2 dX12_feed_51
  · have c_15 := kn_le rfl (by decide : Int32.toInt 200 = 200) c_15
    refine lv_iconst (v := (-1)) hx hb dX12_feed_18 (by decide) ?_
    exact W.iret (v := (-1)) hx hb hr (fun t ht hW => ⟨⟨(-1), (), rfl, trivial, ⟨f_6, k_ret ht hI, kp_8, 0, z1, z10, z12, z13, z14, z15, z16, z17, z18, z23, z24, z25, z26, q, u, im, kt, k_9, (by first | omega | decide), (by first | omega | decide), (by first | omega | decide), k_10, hc1_ok, k_11, k_12, k_13, hU⟩⟩, hS.F ht⟩) hS.2.2 dX12_feed_19
theorem tw_935 : q_g (.code yX12_tape cX12_tape 2 (some .int)) := ⟨(List.mem_append_right _ (List.mem_of_getElem? (i := 1216) (by decide +kernel))), good_of_word (by decide +kernel)⟩
def ow_c_X12_tape : List Cond := [.fieldLink RX12 67 "DeadlineShareModel" "thrown" "I", .fieldLink RX12 128 "DeadlineShareModel" "taped" "I", .methodLink RX12 83 yX12_in, .static yX12_in, .initialized RX12, .fieldLink RX12 36 "DeadlineShareModel" "tape" "[I"]
def wq_c_X12_tape : List Cond := .code yX12_tape cX12_tape 2 (some .int) :: (ow_c_X12_tape ++ (u_ws RX12 TX12 27 ++ (wq_c_X12_in ++ ([] : List Cond))))
theorem tb_c_X12_tape : ∀ w ∈ wq_c_X12_tape, q_g w := by
  unfold wq_c_X12_tape ow_c_X12_tape
  exact q_cons tw_935 (q_app (q_cons tw_927 (q_cons tw_809 (q_cons tw_730 (q_cons tw_729 (q_cons tw_728 (q_cons tw_810 q_nil)))))) (q_app tu_X12 (q_app tb_c_X12_in q_nil)))
set_option maxHeartbeats 4000000 in
set_option maxRecDepth 100000 in
theorem c_X12_tape (l : Launch) (dC : Nat → ClassId) (dI : Nat → Nat → Nat) (g : kG) (A : Nat → Prop) (hG : kWf g) (f : Nat → va_E) (h0 : Nat) (p1 : Int32) (z0 : Int32) (z1 : Int32) (z10 : Int32) (z12 : Int32) (z13 : Int32) (z14 : Int32) (z15 : Int32) (z16 : Int64) (z17 : Int32) (z18 : Int32) (z23 : Int32) (z24 : Int64) (z25 : Int64) (z26 : Int64) (q : Nat → Int64) (u : Nat → Int64) (im : Nat → Int64) (kt : Nat → Int32) (i_h0 : ik g 12 h0) (hc0 : f h0 = .inr (12, [.int z0, .int z1, .ref (gr g h0 2), .ref (gr g h0 3), .ref (gr g h0 4), .ref (gr g h0 5), .ref (gr g h0 6), .ref (gr g h0 7), .ref (gr g h0 8), .ref (gr g h0 9), .int z10, .ref (gr g h0 11), .int z12, .int z13, .int z14, .int z15, .long z16, .int z17, .int z18, .ref (gr g h0 19), .ref (gr g h0 20), .ref (gr g h0 21), .ref (gr g h0 22), .int z23, .long z24, .long z25, .long z26])) (hc0_10 : 0 ≤ z10.toInt ∧ z10.toInt ≤ 10) (hc0_12 : 0 ≤ z12.toInt ∧ z12.toInt ≤ 200) (hc0_23 : 0 ≤ z23.toInt ∧ z23.toInt ≤ 8) (hc1 : f (gr g h0 4) = .inl (gc g 1, 906, .inr (.inl q))) (hc1_ok : RowOK q) (hc2 : f (gr g h0 5) = .inl (gc g 1, 9060, .inr (.inl u))) (hc3 : f (gr g h0 7) = .inl (gc g 1, 1812, .inr (.inl im))) (hc4 : f (gr g h0 8) = .inl (gc g 3, 2, .inl kt)) (hU : UIq z10 u im kt) : Met l yX12_tape wq_c_X12_tape ({ frames := 1, cells := 0, slots := 0, locals := 25 } : Room) (va_Pc [.ref h0, .int p1] (fun U => kIn dC dI g A f U)) (va_Qi (fun (r : Int32) (_ : Unit) => True) (fun (_ : Unit) t => ∃ f1 : Nat → va_E, Iv dC dI g A f1 t.heap ∧ Kp g [12] f f1 ∧ ∃ (w0 : Int32) (w1 : Int32) (w10 : Int32) (w12 : Int32) (w13 : Int32) (w14 : Int32) (w15 : Int32) (w16 : Int64) (w17 : Int32) (w18 : Int32) (w23 : Int32) (w24 : Int64) (w25 : Int64) (w26 : Int64) (q1 : Nat → Int64) (u1 : Nat → Int64) (im1 : Nat → Int64) (ik1 : Nat → Int32), (f1 h0 = .inr (12, [.int w0, .int w1, .ref (gr g h0 2), .ref (gr g h0 3), .ref (gr g h0 4), .ref (gr g h0 5), .ref (gr g h0 6), .ref (gr g h0 7), .ref (gr g h0 8), .ref (gr g h0 9), .int w10, .ref (gr g h0 11), .int w12, .int w13, .int w14, .int w15, .long w16, .int w17, .int w18, .ref (gr g h0 19), .ref (gr g h0 20), .ref (gr g h0 21), .ref (gr g h0 22), .int w23, .long w24, .long w25, .long w26])) ∧ (0 ≤ w10.toInt ∧ w10.toInt ≤ 10) ∧ (0 ≤ w12.toInt ∧ w12.toInt ≤ 200) ∧ (0 ≤ w23.toInt ∧ w23.toInt ≤ 8) ∧ (f1 (gr g h0 4) = .inl (gc g 1, 906, .inr (.inl q1))) ∧ (RowOK q1) ∧ (f1 (gr g h0 5) = .inl (gc g 1, 9060, .inr (.inl u1))) ∧ (f1 (gr g h0 7) = .inl (gc g 1, 1812, .inr (.inl im1))) ∧ (f1 (gr g h0 8) = .inl (gc g 3, 2, .inl ik1)) ∧ (UIq w10 u1 im1 ik1)) A) 0 0 A := by
  refine Met.ofW (cc := cX12_tape) (maxL := 2) (ret := (some .int)) (by decide) rfl ?_
  intro p e s m args below meth c s₁ B hml hv
  obtain ⟨rfl, hI, hK, hE⟩ := hv
  have hx := B.exec
  have hb := B.bytes
  have hr := B.returns
  have hts := atoms_spec (ws := wq_c_X12_tape) B.pre
  have hown : s.vm.findClass RX12 = some m.cls := findClass_of_methodNamed B.named
  have hlocks := B.notSynchronized
  have hS : va_S A s.heap s.heap [] := va_S.rf
  have hk0 : Kp g [12] f f := Kp.rf
  have hl := lv_entry ([.ref h0, .int p1]) (n := 2) (Nat.le_of_ble_eq_true rfl)
  rw [lg_entry_eq]
  generalize (lg_sl ([.ref h0, .int p1]) ++ List.replicate (2 - (lg_sl ([.ref h0, .int p1])).length) Slot.unset).toArray = ls at hl ⊢
  have hl : lv_has ls 2 [(0, .ref h0), (1, .int p1)] := hl
  have i_1 := kw_12_4 hG i_h0
  have d_2 := rk_hd hc1_ok
  have i_3 := kw_12_5 hG i_h0
  have i_4 := kw_12_7 hG i_h0
  have i_5 := kw_12_8 hG i_h0
  refine lv_aload_n hx hb dX12_tape_0 rfl (lv_at hl 0 rfl) ?_
  refine lv_iconst (v := 0) hx hb dX12_tape_1 (by decide) ?_
  refine k_put (ci := 12) (v := .int 0) (ty := .int) (C := RX12) (T := TX12) (N := 27) hx hb hts (fun _ h0_ => List.mem_cons_of_mem _ (List.mem_append_right _ (List.mem_append_left _ h0_))) tyX12 tyX12_ok nmX12 hown hK hI hS i_h0.1 hc0 rfl 0 (by decide) (hts (.fieldLink RX12 67 "DeadlineShareModel" "thrown" "I") (List.mem_cons_of_mem _ (List.mem_append_left _ (List.mem_of_getElem? (i := 0) rfl)))) (fun _ h9 => h9) rfl (by decide +kernel) rfl rfl (Nat.le_of_ble_eq_true rfl) rfl (cl_12 i_h0 (by omega) (by omega) (by omega)) dX12_tape_2 (fun f_6 H locs e_7 hI hS => ?_)
  have k_9 : f_6 h0 = .inr (12, [.int 0, .int z1, .ref (gr g h0 2), .ref (gr g h0 3), .ref (gr g h0 4), .ref (gr g h0 5), .ref (gr g h0 6), .ref (gr g h0 7), .ref (gr g h0 8), .ref (gr g h0 9), .int z10, .ref (gr g h0 11), .int z12, .int z13, .int z14, .int z15, .long z16, .int z17, .int z18, .ref (gr g h0 19), .ref (gr g h0 20), .ref (gr g h0 21), .ref (gr g h0 22), .int z23, .long z24, .long z25, .long z26]) := by rw [e_7]; exact va_up_self _ _ _
  have k_10 : f_6 (gr g h0 4) = .inl (gc g 1, 906, .inr (.inl q)) := by rw [e_7, va_up_ne _ _ (ik_ne i_1 i_h0 (by decide))]; exact hc1
  have k_11 : f_6 (gr g h0 5) = .inl (gc g 1, 9060, .inr (.inl u)) := by rw [e_7, va_up_ne _ _ (ik_ne i_3 i_h0 (by decide))]; exact hc2
  have k_12 : f_6 (gr g h0 7) = .inl (gc g 1, 1812, .inr (.inl im)) := by rw [e_7, va_up_ne _ _ (ik_ne i_4 i_h0 (by decide))]; exact hc3
  have k_13 : f_6 (gr g h0 8) = .inl (gc g 3, 2, .inl kt) := by rw [e_7, va_up_ne _ _ (ik_ne i_5 i_h0 (by decide))]; exact hc4
  have kp_8 := Kp.put hk0 i_h0 (by decide) e_7
  refine lv_iload_n hx hb dX12_tape_5 rfl (lv_at hl 1 rfl) ?_
  refine lv_i2l (v := p1.toInt64) hx hb dX12_tape_6 rfl ?_
  have t_14 := Int32.toInt_toInt64 p1
  refine lv_lconst (v := 0) hx hb dX12_tape_7 (by decide) ?_
  refine lv_aload_n hx hb dX12_tape_8 rfl (lv_at hl 0 rfl) ?_
  refine k_get (ci := 12) (v := .int z12) (C := RX12) (T := TX12) (N := 27) hx hb hts (fun _ h0_ => List.mem_cons_of_mem _ (List.mem_append_right _ (List.mem_append_left _ h0_))) hown hK hI i_h0.1 k_9 rfl 12 (by decide) (hts (.fieldLink RX12 128 "DeadlineShareModel" "taped" "I") (List.mem_cons_of_mem _ (List.mem_append_left _ (List.mem_of_getElem? (i := 1) rfl)))) (fun _ h9 => h9) rfl dX12_tape_9 ?_
  refine lv_i2l (v := z12.toInt64) hx hb dX12_tape_12 rfl ?_
  have t_15 := Int32.toInt_toInt64 z12
  refine lv_lconst (v := 1) hx hb dX12_tape_13 (by decide) ?_
  refine lv_lsub hx hb dX12_tape_14 ?_
  refine lv_topl (fun v_16 ev_16 => ?_)
  have tv_16 := l_sb z12.toInt64 1
  rw [← ev_16, show Int64.toInt 1 = 1 from by decide] at tv_16
  refine va_calli (va_runS (As := [.long p1.toInt64, .long 0, .long v_16]) (rest := []) ⟨hx, hb, hml, hown, hts⟩ (c_X12_in l dC dI g A hG f_6 p1.toInt64 0 v_16) (va_cwS 3 hts (gi_S (fun w_ h0_ => ⟨List.mem_cons_of_mem _ (List.mem_append_right _ (List.mem_append_right _ (List.mem_append_left _ h0_))), (tb_c_X12_in w_ h0_).2⟩) (List.mem_cons_of_mem _ (List.mem_append_left _ (List.mem_of_getElem? (i := 2) rfl))) (List.mem_cons_of_mem _ (List.mem_append_left _ (List.mem_of_getElem? (i := 3) rfl))) (List.mem_cons_of_mem _ (List.mem_append_left _ (List.mem_of_getElem? (i := 4) rfl)))) rfl rfl rfl (by decide +kernel) ⟨Nat.le_of_ble_eq_true rfl, Nat.le_of_ble_eq_true rfl⟩) ⟨fun a U g mk q => ⟨q.1, q.2.calling rfl rfl⟩, fun U hU hW => ⟨rfl, kIn.of hI hK hE hS hU hW⟩⟩ rfl rfl hl.1 rfl (lv_room (Nat.le_of_ble_eq_true rfl)) dX12_tape_15 ⟨Nat.le_of_ble_eq_true rfl, Nat.le_of_ble_eq_true rfl⟩) hS (fun q _ h => h) (fun q h => h) (fun r_18 u t H1 locs ht hvm w_17 hB hz1 hk1 hS => ?_)
  have hI : Iv dC dI g A f_6 t.heap := hB
  rw [ht] at hI
  generalize H1 = H at hI hS ⊢
  refine W.widen (k := 0) (n := 0) (Nat.le_of_ble_eq_true rfl) (Nat.le_of_ble_eq_true rfl) ?_
  have w_17 : (r_18.toInt = 0 ∧ (p1.toInt64.toInt < (0 : Int64).toInt ∨ v_16.toInt < p1.toInt64.toInt)) ∨ (r_18.toInt = 1 ∧ (0 : Int64).toInt ≤ p1.toInt64.toInt ∧ p1.toInt64.toInt ≤ v_16.toInt) := w_17
  have g_19 : Int64.toInt (0) = 0 := by decide
  refine lv_if_eq (tgt := 30) hx hb dX12_tape_18 (by decide) (fun c_20 => ?_) (fun c_20 => ?_)
  · have c_20 := kc_eq rfl (by decide : Int32.toInt 0 = 0) c_20
    refine lv_iconst (v := (-1)) hx hb dX12_tape_30 (by decide) ?_
    exact W.iret (v := (-1)) hx hb hr (fun t ht hW => ⟨⟨(-1), (), rfl, trivial, ⟨f_6, k_ret ht hI, kp_8, 0, z1, z10, z12, z13, z14, z15, z16, z17, z18, z23, z24, z25, z26, q, u, im, kt, k_9, (by first | omega | decide), (by first | omega | decide), (by first | omega | decide), k_10, hc1_ok, k_11, k_12, k_13, hU⟩⟩, hS.F ht⟩) hS.2.2 dX12_tape_31
  · have c_20 := kn_eq rfl (by decide : Int32.toInt 0 = 0) c_20
    refine lv_aload_n hx hb dX12_tape_21 rfl (lv_at hl 0 rfl) ?_
    refine k_get (ci := 12) (v := .ref (gr g h0 11)) (C := RX12) (T := TX12) (N := 27) hx hb hts (fun _ h0_ => List.mem_cons_of_mem _ (List.mem_append_right _ (List.mem_append_left _ h0_))) hown hK hI i_h0.1 k_9 rfl 11 (by decide) (hts (.fieldLink RX12 36 "DeadlineShareModel" "tape" "[I") (List.mem_cons_of_mem _ (List.mem_append_left _ (List.mem_of_getElem? (i := 5) rfl)))) (fun _ h9 => h9) rfl dX12_tape_22 ?_
    have i_22 := kw_12_11 hG i_h0
    refine lv_iload_n hx hb dX12_tape_25 rfl (lv_at hl 1 rfl) ?_
    obtain ⟨q_24, k_23⟩ := op_38 hI i_22
    refine k_iald hx hb hK hI i_22.1 0 k_23 rfl (vp_in_iff.mpr (by omega)) dX12_tape_26 ?_
    refine lv_topi (fun v_25 ev_25 => ?_)
    refine lv_goto (tgt := 31) hx hb dX12_tape_27 (by decide) ?_
    exact W.iret (v := v_25) hx hb hr (fun t ht hW => ⟨⟨v_25, (), rfl, trivial, ⟨f_6, k_ret ht hI, kp_8, 0, z1, z10, z12, z13, z14, z15, z16, z17, z18, z23, z24, z25, z26, q, u, im, kt, k_9, (by first | omega | decide), (by first | omega | decide), (by first | omega | decide), k_10, hc1_ok, k_11, k_12, k_13, hU⟩⟩, hS.F ht⟩) hS.2.2 dX12_tape_31
theorem tw_936 : q_g (.constantLong RX12 340 (13)) := ⟨(List.mem_append_right _ (List.mem_of_getElem? (i := 1550) (by decide +kernel))), good_of_word (by decide +kernel)⟩
theorem tw_937 : q_g (.selects RX12 yX12_scripted yX12_scripted) := ⟨(List.mem_append_left _ (List.mem_of_getElem? (i := 67) (by decide +kernel))), good_of_word (by decide +kernel)⟩
theorem tw_938 : q_g (.instanceMethod yX12_scripted) := ⟨(List.mem_append_right _ (List.mem_of_getElem? (i := 1548) (by decide +kernel))), good_of_word (by decide +kernel)⟩
theorem tw_939 : q_g (.methodLink RX12 337 yX12_scripted) := ⟨(List.mem_append_right _ (List.mem_of_getElem? (i := 1546) (by decide +kernel))), good_of_word (by decide +kernel)⟩
theorem tw_940 : q_g (.selects RX12 yX12_inState yX12_inState) := ⟨(List.mem_append_left _ (List.mem_of_getElem? (i := 66) (by decide +kernel))), good_of_word (by decide +kernel)⟩
theorem tw_941 : q_g (.instanceMethod yX12_inState) := ⟨(List.mem_append_right _ (List.mem_of_getElem? (i := 1544) (by decide +kernel))), good_of_word (by decide +kernel)⟩
theorem tw_942 : q_g (.methodLink RX12 334 yX12_inState) := ⟨(List.mem_append_right _ (List.mem_of_getElem? (i := 1542) (by decide +kernel))), good_of_word (by decide +kernel)⟩
theorem tw_943 : q_g (.code yX12_count cX12_count 2 (some .int)) := ⟨(List.mem_append_right _ (List.mem_of_getElem? (i := 1541) (by decide +kernel))), good_of_word (by decide +kernel)⟩
def ow_c_X12_count : List Cond := [.fieldLink RX12 67 "DeadlineShareModel" "thrown" "I", .fieldLink RX12 16 "DeadlineShareModel" "row" "[J", .methodLink RX12 334 yX12_inState, .instanceMethod yX12_inState, .selects RX12 yX12_inState yX12_inState, .initialized RX12, .methodLink RX12 337 yX12_scripted, .instanceMethod yX12_scripted, .selects RX12 yX12_scripted yX12_scripted, .fieldLink RX12 73 "DeadlineShareModel" "nUndo" "I", .fieldLink RX12 128 "DeadlineShareModel" "taped" "I", .fieldLink RX12 7 "DeadlineShareModel" "refusals" "[I", .constantLong RX12 340 (13), .constantLong RX12 304 (15), .methodLink RX12 83 yX12_in, .static yX12_in, .fieldLink RX12 13 "DeadlineShareModel" "term" "[I"]
def wq_c_X12_count : List Cond := .code yX12_count cX12_count 2 (some .int) :: (ow_c_X12_count ++ (u_ws RX12 TX12 27 ++ (wq_c_X12_inState ++ (wq_c_X12_scripted ++ (wq_c_X12_in ++ ([] : List Cond))))))
theorem tb_c_X12_count : ∀ w ∈ wq_c_X12_count, q_g w := by
  unfold wq_c_X12_count ow_c_X12_count
  exact q_cons tw_943 (q_app (q_cons tw_927 (q_cons tw_731 (q_cons tw_942 (q_cons tw_941 (q_cons tw_940 (q_cons tw_728 (q_cons tw_939 (q_cons tw_938 (q_cons tw_937 (q_cons tw_901 (q_cons tw_809 (q_cons tw_725 (q_cons tw_936 (q_cons tw_915 (q_cons tw_730 (q_cons tw_729 (q_cons tw_762 q_nil))))))))))))))))) (q_app tu_X12 (q_app tb_c_X12_inState (q_app tb_c_X12_scripted (q_app tb_c_X12_in q_nil)))))
set_option maxHeartbeats 4000000 in
set_option maxRecDepth 100000 in
theorem c_X12_count (l : Launch) (dC : Nat → ClassId) (dI : Nat → Nat → Nat) (g : kG) (A : Nat → Prop) (hG : kWf g) (f : Nat → va_E) (h0 : Nat) (p1 : Int32) (z0 : Int32) (z1 : Int32) (z10 : Int32) (z12 : Int32) (z13 : Int32) (z14 : Int32) (z15 : Int32) (z16 : Int64) (z17 : Int32) (z18 : Int32) (z23 : Int32) (z24 : Int64) (z25 : Int64) (z26 : Int64) (q : Nat → Int64) (u : Nat → Int64) (im : Nat → Int64) (kt : Nat → Int32) (i_h0 : ik g 12 h0) (hc0 : f h0 = .inr (12, [.int z0, .int z1, .ref (gr g h0 2), .ref (gr g h0 3), .ref (gr g h0 4), .ref (gr g h0 5), .ref (gr g h0 6), .ref (gr g h0 7), .ref (gr g h0 8), .ref (gr g h0 9), .int z10, .ref (gr g h0 11), .int z12, .int z13, .int z14, .int z15, .long z16, .int z17, .int z18, .ref (gr g h0 19), .ref (gr g h0 20), .ref (gr g h0 21), .ref (gr g h0 22), .int z23, .long z24, .long z25, .long z26])) (hc0_10 : 0 ≤ z10.toInt ∧ z10.toInt ≤ 10) (hc0_12 : 0 ≤ z12.toInt ∧ z12.toInt ≤ 200) (hc0_23 : 0 ≤ z23.toInt ∧ z23.toInt ≤ 8) (hc1 : f (gr g h0 4) = .inl (gc g 1, 906, .inr (.inl q))) (hc1_ok : RowOK q) (hc2 : f (gr g h0 5) = .inl (gc g 1, 9060, .inr (.inl u))) (hc3 : f (gr g h0 7) = .inl (gc g 1, 1812, .inr (.inl im))) (hc4 : f (gr g h0 8) = .inl (gc g 3, 2, .inl kt)) (hU : UIq z10 u im kt) : Met l yX12_count wq_c_X12_count ({ frames := 2, cells := 0, slots := 0, locals := 43 } : Room) (va_Pc [.ref h0, .int p1] (fun U => kIn dC dI g A f U)) (va_Qi (fun (r : Int32) (_ : Unit) => True) (fun (_ : Unit) t => ∃ f1 : Nat → va_E, Iv dC dI g A f1 t.heap ∧ Kp g [12] f f1 ∧ ∃ (w0 : Int32) (w1 : Int32) (w10 : Int32) (w12 : Int32) (w13 : Int32) (w14 : Int32) (w15 : Int32) (w16 : Int64) (w17 : Int32) (w18 : Int32) (w23 : Int32) (w24 : Int64) (w25 : Int64) (w26 : Int64) (q1 : Nat → Int64) (u1 : Nat → Int64) (im1 : Nat → Int64) (ik1 : Nat → Int32), (f1 h0 = .inr (12, [.int w0, .int w1, .ref (gr g h0 2), .ref (gr g h0 3), .ref (gr g h0 4), .ref (gr g h0 5), .ref (gr g h0 6), .ref (gr g h0 7), .ref (gr g h0 8), .ref (gr g h0 9), .int w10, .ref (gr g h0 11), .int w12, .int w13, .int w14, .int w15, .long w16, .int w17, .int w18, .ref (gr g h0 19), .ref (gr g h0 20), .ref (gr g h0 21), .ref (gr g h0 22), .int w23, .long w24, .long w25, .long w26])) ∧ (0 ≤ w10.toInt ∧ w10.toInt ≤ 10) ∧ (0 ≤ w12.toInt ∧ w12.toInt ≤ 200) ∧ (0 ≤ w23.toInt ∧ w23.toInt ≤ 8) ∧ (f1 (gr g h0 4) = .inl (gc g 1, 906, .inr (.inl q1))) ∧ (RowOK q1) ∧ (f1 (gr g h0 5) = .inl (gc g 1, 9060, .inr (.inl u1))) ∧ (f1 (gr g h0 7) = .inl (gc g 1, 1812, .inr (.inl im1))) ∧ (f1 (gr g h0 8) = .inl (gc g 3, 2, .inl ik1)) ∧ (UIq w10 u1 im1 ik1)) A) 0 0 A := by
  refine Met.ofW (cc := cX12_count) (maxL := 2) (ret := (some .int)) (by decide) rfl ?_
  intro p e s m args below meth c s₁ B hml hv
  obtain ⟨rfl, hI, hK, hE⟩ := hv
  have hx := B.exec
  have hb := B.bytes
  have hr := B.returns
  have hts := atoms_spec (ws := wq_c_X12_count) B.pre
  have hown : s.vm.findClass RX12 = some m.cls := findClass_of_methodNamed B.named
  have hlocks := B.notSynchronized
  have hS : va_S A s.heap s.heap [] := va_S.rf
  have hk0 : Kp g [12] f f := Kp.rf
  have hl := lv_entry ([.ref h0, .int p1]) (n := 2) (Nat.le_of_ble_eq_true rfl)
  rw [lg_entry_eq]
  generalize (lg_sl ([.ref h0, .int p1]) ++ List.replicate (2 - (lg_sl ([.ref h0, .int p1])).length) Slot.unset).toArray = ls at hl ⊢
  have hl : lv_has ls 2 [(0, .ref h0), (1, .int p1)] := hl
  have i_1 := kw_12_4 hG i_h0
  have d_2 := rk_hd hc1_ok
  have i_3 := kw_12_5 hG i_h0
  have i_4 := kw_12_7 hG i_h0
  have i_5 := kw_12_8 hG i_h0
  refine lv_aload_n hx hb dX12_count_0 rfl (lv_at hl 0 rfl) ?_
  refine lv_iconst (v := 0) hx hb dX12_count_1 (by decide) ?_
  refine k_put (ci := 12) (v := .int 0) (ty := .int) (C := RX12) (T := TX12) (N := 27) hx hb hts (fun _ h0_ => List.mem_cons_of_mem _ (List.mem_append_right _ (List.mem_append_left _ h0_))) tyX12 tyX12_ok nmX12 hown hK hI hS i_h0.1 hc0 rfl 0 (by decide) (hts (.fieldLink RX12 67 "DeadlineShareModel" "thrown" "I") (List.mem_cons_of_mem _ (List.mem_append_left _ (List.mem_of_getElem? (i := 0) rfl)))) (fun _ h9 => h9) rfl (by decide +kernel) rfl rfl (Nat.le_of_ble_eq_true rfl) rfl (cl_12 i_h0 (by omega) (by omega) (by omega)) dX12_count_2 (fun f_6 H locs e_7 hI hS => ?_)
  have k_9 : f_6 h0 = .inr (12, [.int 0, .int z1, .ref (gr g h0 2), .ref (gr g h0 3), .ref (gr g h0 4), .ref (gr g h0 5), .ref (gr g h0 6), .ref (gr g h0 7), .ref (gr g h0 8), .ref (gr g h0 9), .int z10, .ref (gr g h0 11), .int z12, .int z13, .int z14, .int z15, .long z16, .int z17, .int z18, .ref (gr g h0 19), .ref (gr g h0 20), .ref (gr g h0 21), .ref (gr g h0 22), .int z23, .long z24, .long z25, .long z26]) := by rw [e_7]; exact va_up_self _ _ _
  have k_10 : f_6 (gr g h0 4) = .inl (gc g 1, 906, .inr (.inl q)) := by rw [e_7, va_up_ne _ _ (ik_ne i_1 i_h0 (by decide))]; exact hc1
  have k_11 : f_6 (gr g h0 5) = .inl (gc g 1, 9060, .inr (.inl u)) := by rw [e_7, va_up_ne _ _ (ik_ne i_3 i_h0 (by decide))]; exact hc2
  have k_12 : f_6 (gr g h0 7) = .inl (gc g 1, 1812, .inr (.inl im)) := by rw [e_7, va_up_ne _ _ (ik_ne i_4 i_h0 (by decide))]; exact hc3
  have k_13 : f_6 (gr g h0 8) = .inl (gc g 3, 2, .inl kt) := by rw [e_7, va_up_ne _ _ (ik_ne i_5 i_h0 (by decide))]; exact hc4
  have kp_8 := Kp.put hk0 i_h0 (by decide) e_7
  refine lv_iload_n hx hb dX12_count_5 rfl (lv_at hl 1 rfl) ?_
  by_cases h_14 : p1 = 0
  · refine k_topi (y := 0) h_14 ?_
    refine lv_tableIn (tgt := 72) hx hb dX12_count_6 (by decide) (by decide) rfl (by decide) ?_
    have h_14 := kc_eq rfl (by decide : Int32.toInt 0 = 0) h_14
    refine lv_aload_n hx hb dX12_count_72 rfl (lv_at hl 0 rfl) ?_
    refine k_get (ci := 12) (v := .ref (gr g h0 4)) (C := RX12) (T := TX12) (N := 27) hx hb hts (fun _ h0_ => List.mem_cons_of_mem _ (List.mem_append_right _ (List.mem_append_left _ h0_))) hown hK hI i_h0.1 k_9 rfl 4 (by decide) (hts (.fieldLink RX12 16 "DeadlineShareModel" "row" "[J") (List.mem_cons_of_mem _ (List.mem_append_left _ (List.mem_of_getElem? (i := 1) rfl)))) (fun _ h9 => h9) rfl dX12_count_73 ?_
    refine lv_iconst (v := 0) hx hb dX12_count_76 (by decide) ?_
    refine k_lald hx hb hK hI i_1.1 1 k_10 rfl (by unfold vp_in; decide) dX12_count_77 ?_
    refine k_topl (y := q 0) (congrArg q (show Int32.toNatClampNeg 0 = 0 by decide)) ?_
    refine lv_l2i (v := (q 0).toInt32) hx hb dX12_count_78 rfl ?_
    refine lv_topi (fun v_17 ev_17 => ?_)
    have tv_17 := k_l2i (q 0)
    rw [← ev_17] at tv_17
    exact W.iret (v := v_17) hx hb hr (fun t ht hW => ⟨⟨v_17, (), rfl, trivial, ⟨f_6, k_ret ht hI, kp_8, 0, z1, z10, z12, z13, z14, z15, z16, z17, z18, z23, z24, z25, z26, q, u, im, kt, k_9, (by first | omega | decide), (by first | omega | decide), (by first | omega | decide), k_10, hc1_ok, k_11, k_12, k_13, hU⟩⟩, hS.F ht⟩) hS.2.2 dX12_count_79
  by_cases h_18 : p1 = 1
  · refine k_topi (y := 1) h_18 ?_
    refine lv_tableIn (tgt := 80) hx hb dX12_count_6 (by decide) (by decide) rfl (by decide) ?_
    have h_18 := kc_eq rfl (by decide : Int32.toInt 1 = 1) h_18
    refine lv_aload_n hx hb dX12_count_80 rfl (lv_at hl 0 rfl) ?_
    refine lv_iconst (v := 1) hx hb dX12_count_81 (by decide) ?_
    refine va_calli (va_runV (As := [.int 1]) (rest := []) ⟨hx, hb, hml, hown, hts⟩ (c_X12_inState l dC dI g A hG f_6 h0 1 q i_h0 k_10 hc1_ok) (cwV 1 hts (gi_V (fun w_ h0_ => ⟨List.mem_cons_of_mem _ (List.mem_append_right _ (List.mem_append_right _ (List.mem_append_left _ h0_))), (tb_c_X12_inState w_ h0_).2⟩) (List.mem_cons_of_mem _ (List.mem_append_left _ (List.mem_of_getElem? (i := 2) rfl))) (List.mem_cons_of_mem _ (List.mem_append_left _ (List.mem_of_getElem? (i := 3) rfl))) (List.mem_cons_of_mem _ (List.mem_append_left _ (List.mem_of_getElem? (i := 4) rfl))) (List.mem_cons_of_mem _ (List.mem_append_left _ (List.mem_of_getElem? (i := 5) rfl)))) rfl rfl rfl (by decide +kernel) ⟨Nat.le_of_ble_eq_true rfl, Nat.le_of_ble_eq_true rfl⟩) ⟨fun a U g mk q => ⟨q.1, q.2.calling rfl rfl⟩, k_recv hK hI i_h0.1 k_9 (ci := 12) rfl, fun U hU hW => ⟨rfl, kIn.of hI hK hE hS hU hW⟩⟩ rfl rfl hl.1 rfl (lv_room (Nat.le_of_ble_eq_true rfl)) dX12_count_82 ⟨Nat.le_of_ble_eq_true rfl, Nat.le_of_ble_eq_true rfl⟩) hS (fun q _ h => h) (fun q h => h) (fun r_20 u t H1 locs ht hvm w_19 hB hz1 hk1 hS => ?_)
    have hI : Iv dC dI g A f_6 t.heap := hB
    rw [ht] at hI
    generalize H1 = H at hI hS ⊢
    refine W.widen (k := 0) (n := 0) (Nat.le_of_ble_eq_true rfl) (Nat.le_of_ble_eq_true rfl) ?_
    exact W.iret (v := r_20) hx hb hr (fun t ht hW => ⟨⟨r_20, (), rfl, trivial, ⟨f_6, k_ret ht hI, kp_8, 0, z1, z10, z12, z13, z14, z15, z16, z17, z18, z23, z24, z25, z26, q, u, im, kt, k_9, (by first | omega | decide), (by first | omega | decide), (by first | omega | decide), k_10, hc1_ok, k_11, k_12, k_13, hU⟩⟩, hS.F ht⟩) hS.2.2 dX12_count_85
  by_cases h_21 : p1 = 2
  · refine k_topi (y := 2) h_21 ?_
    refine lv_tableIn (tgt := 86) hx hb dX12_count_6 (by decide) (by decide) rfl (by decide) ?_
    have h_21 := kc_eq rfl (by decide : Int32.toInt 2 = 2) h_21
    refine lv_aload_n hx hb dX12_count_86 rfl (lv_at hl 0 rfl) ?_
    refine lv_iconst (v := 2) hx hb dX12_count_87 (by decide) ?_
    refine va_calli (va_runV (As := [.int 2]) (rest := []) ⟨hx, hb, hml, hown, hts⟩ (c_X12_inState l dC dI g A hG f_6 h0 2 q i_h0 k_10 hc1_ok) (cwV 1 hts (gi_V (fun w_ h0_ => ⟨List.mem_cons_of_mem _ (List.mem_append_right _ (List.mem_append_right _ (List.mem_append_left _ h0_))), (tb_c_X12_inState w_ h0_).2⟩) (List.mem_cons_of_mem _ (List.mem_append_left _ (List.mem_of_getElem? (i := 2) rfl))) (List.mem_cons_of_mem _ (List.mem_append_left _ (List.mem_of_getElem? (i := 3) rfl))) (List.mem_cons_of_mem _ (List.mem_append_left _ (List.mem_of_getElem? (i := 4) rfl))) (List.mem_cons_of_mem _ (List.mem_append_left _ (List.mem_of_getElem? (i := 5) rfl)))) rfl rfl rfl (by decide +kernel) ⟨Nat.le_of_ble_eq_true rfl, Nat.le_of_ble_eq_true rfl⟩) ⟨fun a U g mk q => ⟨q.1, q.2.calling rfl rfl⟩, k_recv hK hI i_h0.1 k_9 (ci := 12) rfl, fun U hU hW => ⟨rfl, kIn.of hI hK hE hS hU hW⟩⟩ rfl rfl hl.1 rfl (lv_room (Nat.le_of_ble_eq_true rfl)) dX12_count_88 ⟨Nat.le_of_ble_eq_true rfl, Nat.le_of_ble_eq_true rfl⟩) hS (fun q _ h => h) (fun q h => h) (fun r_23 u t H1 locs ht hvm w_22 hB hz1 hk1 hS => ?_)
    have hI : Iv dC dI g A f_6 t.heap := hB
    rw [ht] at hI
    generalize H1 = H at hI hS ⊢
    refine W.widen (k := 0) (n := 0) (Nat.le_of_ble_eq_true rfl) (Nat.le_of_ble_eq_true rfl) ?_
    exact W.iret (v := r_23) hx hb hr (fun t ht hW => ⟨⟨r_23, (), rfl, trivial, ⟨f_6, k_ret ht hI, kp_8, 0, z1, z10, z12, z13, z14, z15, z16, z17, z18, z23, z24, z25, z26, q, u, im, kt, k_9, (by first | omega | decide), (by first | omega | decide), (by first | omega | decide), k_10, hc1_ok, k_11, k_12, k_13, hU⟩⟩, hS.F ht⟩) hS.2.2 dX12_count_91
  by_cases h_24 : p1 = 3
  · refine k_topi (y := 3) h_24 ?_
    refine lv_tableIn (tgt := 92) hx hb dX12_count_6 (by decide) (by decide) rfl (by decide) ?_
    have h_24 := kc_eq rfl (by decide : Int32.toInt 3 = 3) h_24
    refine lv_aload_n hx hb dX12_count_92 rfl (lv_at hl 0 rfl) ?_
    refine va_calli (va_runV (As := []) (rest := []) ⟨hx, hb, hml, hown, hts⟩ (c_X12_scripted l dC dI g A hG f_6 h0 q i_h0 k_10 hc1_ok) (cwV 0 hts (gi_V (fun w_ h0_ => ⟨List.mem_cons_of_mem _ (List.mem_append_right _ (List.mem_append_right _ (List.mem_append_right _ (List.mem_append_left _ h0_)))), (tb_c_X12_scripted w_ h0_).2⟩) (List.mem_cons_of_mem _ (List.mem_append_left _ (List.mem_of_getElem? (i := 6) rfl))) (List.mem_cons_of_mem _ (List.mem_append_left _ (List.mem_of_getElem? (i := 7) rfl))) (List.mem_cons_of_mem _ (List.mem_append_left _ (List.mem_of_getElem? (i := 8) rfl))) (List.mem_cons_of_mem _ (List.mem_append_left _ (List.mem_of_getElem? (i := 5) rfl)))) rfl rfl rfl (by decide +kernel) ⟨Nat.le_of_ble_eq_true rfl, Nat.le_of_ble_eq_true rfl⟩) ⟨fun a U g mk q => ⟨q.1, q.2.calling rfl rfl⟩, k_recv hK hI i_h0.1 k_9 (ci := 12) rfl, fun U hU hW => ⟨rfl, kIn.of hI hK hE hS hU hW⟩⟩ rfl rfl hl.1 rfl (lv_room (Nat.le_of_ble_eq_true rfl)) dX12_count_93 ⟨Nat.le_of_ble_eq_true rfl, Nat.le_of_ble_eq_true rfl⟩) hS (fun q _ h => h) (fun q h => h) (fun r_26 u t H1 locs ht hvm w_25 hB hz1 hk1 hS => ?_)
    have hI : Iv dC dI g A f_6 t.heap := hB
    rw [ht] at hI
    generalize H1 = H at hI hS ⊢
    refine W.widen (k := 0) (n := 0) (Nat.le_of_ble_eq_true rfl) (Nat.le_of_ble_eq_true rfl) ?_
    exact W.iret (v := r_26) hx hb hr (fun t ht hW => ⟨⟨r_26, (), rfl, trivial, ⟨f_6, k_ret ht hI, kp_8, 0, z1, z10, z12, z13, z14, z15, z16, z17, z18, z23, z24, z25, z26, q, u, im, kt, k_9, (by first | omega | decide), (by first | omega | decide), (by first | omega | decide), k_10, hc1_ok, k_11, k_12, k_13, hU⟩⟩, hS.F ht⟩) hS.2.2 dX12_count_96
  by_cases h_27 : p1 = 4
  · refine k_topi (y := 4) h_27 ?_
    refine lv_tableIn (tgt := 97) hx hb dX12_count_6 (by decide) (by decide) rfl (by decide) ?_
    have h_27 := kc_eq rfl (by decide : Int32.toInt 4 = 4) h_27
    refine lv_aload_n hx hb dX12_count_97 rfl (lv_at hl 0 rfl) ?_
    refine k_get (ci := 12) (v := .ref (gr g h0 4)) (C := RX12) (T := TX12) (N := 27) hx hb hts (fun _ h0_ => List.mem_cons_of_mem _ (List.mem_append_right _ (List.mem_append_left _ h0_))) hown hK hI i_h0.1 k_9 rfl 4 (by decide) (hts (.fieldLink RX12 16 "DeadlineShareModel" "row" "[J") (List.mem_cons_of_mem _ (List.mem_append_left _ (List.mem_of_getElem? (i := 1) rfl)))) (fun _ h9 => h9) rfl dX12_count_98 ?_
    refine lv_iconst (v := 3) hx hb dX12_count_101 (by decide) ?_
    refine k_lald hx hb hK hI i_1.1 1 k_10 rfl (by unfold vp_in; decide) dX12_count_102 ?_
    refine k_topl (y := q 3) (congrArg q (show Int32.toNatClampNeg 3 = 3 by decide)) ?_
    refine lv_l2i (v := (q 3).toInt32) hx hb dX12_count_103 rfl ?_
    refine lv_topi (fun v_30 ev_30 => ?_)
    have tv_30 := k_l2i (q 3)
    rw [← ev_30] at tv_30
    exact W.iret (v := v_30) hx hb hr (fun t ht hW => ⟨⟨v_30, (), rfl, trivial, ⟨f_6, k_ret ht hI, kp_8, 0, z1, z10, z12, z13, z14, z15, z16, z17, z18, z23, z24, z25, z26, q, u, im, kt, k_9, (by first | omega | decide), (by first | omega | decide), (by first | omega | decide), k_10, hc1_ok, k_11, k_12, k_13, hU⟩⟩, hS.F ht⟩) hS.2.2 dX12_count_104
  by_cases h_31 : p1 = 5
  · refine k_topi (y := 5) h_31 ?_
    refine lv_tableIn (tgt := 105) hx hb dX12_count_6 (by decide) (by decide) rfl (by decide) ?_
    have h_31 := kc_eq rfl (by decide : Int32.toInt 5 = 5) h_31
    refine lv_aload_n hx hb dX12_count_105 rfl (lv_at hl 0 rfl) ?_
    refine k_get (ci := 12) (v := .ref (gr g h0 4)) (C := RX12) (T := TX12) (N := 27) hx hb hts (fun _ h0_ => List.mem_cons_of_mem _ (List.mem_append_right _ (List.mem_append_left _ h0_))) hown hK hI i_h0.1 k_9 rfl 4 (by decide) (hts (.fieldLink RX12 16 "DeadlineShareModel" "row" "[J") (List.mem_cons_of_mem _ (List.mem_append_left _ (List.mem_of_getElem? (i := 1) rfl)))) (fun _ h9 => h9) rfl dX12_count_106 ?_
    refine lv_iconst (v := 5) hx hb dX12_count_109 (by decide) ?_
    refine k_lald hx hb hK hI i_1.1 1 k_10 rfl (by unfold vp_in; decide) dX12_count_110 ?_
    refine k_topl (y := q 5) (congrArg q (show Int32.toNatClampNeg 5 = 5 by decide)) ?_
    refine lv_l2i (v := (q 5).toInt32) hx hb dX12_count_111 rfl ?_
    refine lv_topi (fun v_34 ev_34 => ?_)
    have tv_34 := k_l2i (q 5)
    rw [← ev_34] at tv_34
    exact W.iret (v := v_34) hx hb hr (fun t ht hW => ⟨⟨v_34, (), rfl, trivial, ⟨f_6, k_ret ht hI, kp_8, 0, z1, z10, z12, z13, z14, z15, z16, z17, z18, z23, z24, z25, z26, q, u, im, kt, k_9, (by first | omega | decide), (by first | omega | decide), (by first | omega | decide), k_10, hc1_ok, k_11, k_12, k_13, hU⟩⟩, hS.F ht⟩) hS.2.2 dX12_count_112
  by_cases h_35 : p1 = 6
  · refine k_topi (y := 6) h_35 ?_
    refine lv_tableIn (tgt := 113) hx hb dX12_count_6 (by decide) (by decide) rfl (by decide) ?_
    have h_35 := kc_eq rfl (by decide : Int32.toInt 6 = 6) h_35
    refine lv_aload_n hx hb dX12_count_113 rfl (lv_at hl 0 rfl) ?_
    refine k_get (ci := 12) (v := .int z10) (C := RX12) (T := TX12) (N := 27) hx hb hts (fun _ h0_ => List.mem_cons_of_mem _ (List.mem_append_right _ (List.mem_append_left _ h0_))) hown hK hI i_h0.1 k_9 rfl 10 (by decide) (hts (.fieldLink RX12 73 "DeadlineShareModel" "nUndo" "I") (List.mem_cons_of_mem _ (List.mem_append_left _ (List.mem_of_getElem? (i := 9) rfl)))) (fun _ h9 => h9) rfl dX12_count_114 ?_
    exact W.iret (v := z10) hx hb hr (fun t ht hW => ⟨⟨z10, (), rfl, trivial, ⟨f_6, k_ret ht hI, kp_8, 0, z1, z10, z12, z13, z14, z15, z16, z17, z18, z23, z24, z25, z26, q, u, im, kt, k_9, (by first | omega | decide), (by first | omega | decide), (by first | omega | decide), k_10, hc1_ok, k_11, k_12, k_13, hU⟩⟩, hS.F ht⟩) hS.2.2 dX12_count_117
  by_cases h_36 : p1 = 7
  · refine k_topi (y := 7) h_36 ?_
    refine lv_tableIn (tgt := 118) hx hb dX12_count_6 (by decide) (by decide) rfl (by decide) ?_
    have h_36 := kc_eq rfl (by decide : Int32.toInt 7 = 7) h_36
    refine lv_aload_n hx hb dX12_count_118 rfl (lv_at hl 0 rfl) ?_
    refine k_get (ci := 12) (v := .int z12) (C := RX12) (T := TX12) (N := 27) hx hb hts (fun _ h0_ => List.mem_cons_of_mem _ (List.mem_append_right _ (List.mem_append_left _ h0_))) hown hK hI i_h0.1 k_9 rfl 12 (by decide) (hts (.fieldLink RX12 128 "DeadlineShareModel" "taped" "I") (List.mem_cons_of_mem _ (List.mem_append_left _ (List.mem_of_getElem? (i := 10) rfl)))) (fun _ h9 => h9) rfl dX12_count_119 ?_
    exact W.iret (v := z12) hx hb hr (fun t ht hW => ⟨⟨z12, (), rfl, trivial, ⟨f_6, k_ret ht hI, kp_8, 0, z1, z10, z12, z13, z14, z15, z16, z17, z18, z23, z24, z25, z26, q, u, im, kt, k_9, (by first | omega | decide), (by first | omega | decide), (by first | omega | decide), k_10, hc1_ok, k_11, k_12, k_13, hU⟩⟩, hS.F ht⟩) hS.2.2 dX12_count_122
  by_cases h_37 : p1 = 8
  · refine k_topi (y := 8) h_37 ?_
    refine lv_tableIn (tgt := 123) hx hb dX12_count_6 (by decide) (by decide) rfl (by decide) ?_
    have h_37 := kc_eq rfl (by decide : Int32.toInt 8 = 8) h_37
    refine lv_aload_n hx hb dX12_count_123 rfl (lv_at hl 0 rfl) ?_
    refine k_get (ci := 12) (v := .ref (gr g h0 2)) (C := RX12) (T := TX12) (N := 27) hx hb hts (fun _ h0_ => List.mem_cons_of_mem _ (List.mem_append_right _ (List.mem_append_left _ h0_))) hown hK hI i_h0.1 k_9 rfl 2 (by decide) (hts (.fieldLink RX12 7 "DeadlineShareModel" "refusals" "[I") (List.mem_cons_of_mem _ (List.mem_append_left _ (List.mem_of_getElem? (i := 11) rfl)))) (fun _ h9 => h9) rfl dX12_count_124 ?_
    have i_39 := kw_12_2 hG i_h0
    refine lv_iconst (v := 1) hx hb dX12_count_127 (by decide) ?_
    obtain ⟨q_41, k_40⟩ := op_30 hI i_39
    refine k_iald hx hb hK hI i_39.1 0 k_40 rfl (by unfold vp_in; decide) dX12_count_128 ?_
    refine k_topi (y := q_41 1) (congrArg q_41 (show Int32.toNatClampNeg 1 = 1 by decide)) ?_
    exact W.iret (v := (q_41 1)) hx hb hr (fun t ht hW => ⟨⟨q_41 1, (), rfl, trivial, ⟨f_6, k_ret ht hI, kp_8, 0, z1, z10, z12, z13, z14, z15, z16, z17, z18, z23, z24, z25, z26, q, u, im, kt, k_9, (by first | omega | decide), (by first | omega | decide), (by first | omega | decide), k_10, hc1_ok, k_11, k_12, k_13, hU⟩⟩, hS.F ht⟩) hS.2.2 dX12_count_129
  by_cases h_42 : p1 = 9
  · refine k_topi (y := 9) h_42 ?_
    refine lv_tableIn (tgt := 130) hx hb dX12_count_6 (by decide) (by decide) rfl (by decide) ?_
    have h_42 := kc_eq rfl (by decide : Int32.toInt 9 = 9) h_42
    refine lv_aload_n hx hb dX12_count_130 rfl (lv_at hl 0 rfl) ?_
    refine k_get (ci := 12) (v := .ref (gr g h0 2)) (C := RX12) (T := TX12) (N := 27) hx hb hts (fun _ h0_ => List.mem_cons_of_mem _ (List.mem_append_right _ (List.mem_append_left _ h0_))) hown hK hI i_h0.1 k_9 rfl 2 (by decide) (hts (.fieldLink RX12 7 "DeadlineShareModel" "refusals" "[I") (List.mem_cons_of_mem _ (List.mem_append_left _ (List.mem_of_getElem? (i := 11) rfl)))) (fun _ h9 => h9) rfl dX12_count_131 ?_
    have i_44 := kw_12_2 hG i_h0
    refine lv_iconst (v := 2) hx hb dX12_count_134 (by decide) ?_
    obtain ⟨q_46, k_45⟩ := op_30 hI i_44
    refine k_iald hx hb hK hI i_44.1 0 k_45 rfl (by unfold vp_in; decide) dX12_count_135 ?_
    refine k_topi (y := q_46 2) (congrArg q_46 (show Int32.toNatClampNeg 2 = 2 by decide)) ?_
    exact W.iret (v := (q_46 2)) hx hb hr (fun t ht hW => ⟨⟨q_46 2, (), rfl, trivial, ⟨f_6, k_ret ht hI, kp_8, 0, z1, z10, z12, z13, z14, z15, z16, z17, z18, z23, z24, z25, z26, q, u, im, kt, k_9, (by first | omega | decide), (by first | omega | decide), (by first | omega | decide), k_10, hc1_ok, k_11, k_12, k_13, hU⟩⟩, hS.F ht⟩) hS.2.2 dX12_count_136
  by_cases h_47 : p1 = 10
  · refine k_topi (y := 10) h_47 ?_
    refine lv_tableIn (tgt := 137) hx hb dX12_count_6 (by decide) (by decide) rfl (by decide) ?_
    have h_47 := kc_eq rfl (by decide : Int32.toInt 10 = 10) h_47
    refine lv_aload_n hx hb dX12_count_137 rfl (lv_at hl 0 rfl) ?_
    refine k_get (ci := 12) (v := .ref (gr g h0 2)) (C := RX12) (T := TX12) (N := 27) hx hb hts (fun _ h0_ => List.mem_cons_of_mem _ (List.mem_append_right _ (List.mem_append_left _ h0_))) hown hK hI i_h0.1 k_9 rfl 2 (by decide) (hts (.fieldLink RX12 7 "DeadlineShareModel" "refusals" "[I") (List.mem_cons_of_mem _ (List.mem_append_left _ (List.mem_of_getElem? (i := 11) rfl)))) (fun _ h9 => h9) rfl dX12_count_138 ?_
    have i_49 := kw_12_2 hG i_h0
    refine lv_iconst (v := 4) hx hb dX12_count_141 (by decide) ?_
    obtain ⟨q_51, k_50⟩ := op_30 hI i_49
    refine k_iald hx hb hK hI i_49.1 0 k_50 rfl (by unfold vp_in; decide) dX12_count_142 ?_
    refine k_topi (y := q_51 4) (congrArg q_51 (show Int32.toNatClampNeg 4 = 4 by decide)) ?_
    exact W.iret (v := (q_51 4)) hx hb hr (fun t ht hW => ⟨⟨q_51 4, (), rfl, trivial, ⟨f_6, k_ret ht hI, kp_8, 0, z1, z10, z12, z13, z14, z15, z16, z17, z18, z23, z24, z25, z26, q, u, im, kt, k_9, (by first | omega | decide), (by first | omega | decide), (by first | omega | decide), k_10, hc1_ok, k_11, k_12, k_13, hU⟩⟩, hS.F ht⟩) hS.2.2 dX12_count_143
  by_cases h_52 : p1 = 11
  · refine k_topi (y := 11) h_52 ?_
    refine lv_tableIn (tgt := 144) hx hb dX12_count_6 (by decide) (by decide) rfl (by decide) ?_
    have h_52 := kc_eq rfl (by decide : Int32.toInt 11 = 11) h_52
    refine lv_aload_n hx hb dX12_count_144 rfl (lv_at hl 0 rfl) ?_
    refine k_get (ci := 12) (v := .ref (gr g h0 2)) (C := RX12) (T := TX12) (N := 27) hx hb hts (fun _ h0_ => List.mem_cons_of_mem _ (List.mem_append_right _ (List.mem_append_left _ h0_))) hown hK hI i_h0.1 k_9 rfl 2 (by decide) (hts (.fieldLink RX12 7 "DeadlineShareModel" "refusals" "[I") (List.mem_cons_of_mem _ (List.mem_append_left _ (List.mem_of_getElem? (i := 11) rfl)))) (fun _ h9 => h9) rfl dX12_count_145 ?_
    have i_54 := kw_12_2 hG i_h0
    refine lv_iconst (v := 5) hx hb dX12_count_148 (by decide) ?_
    obtain ⟨q_56, k_55⟩ := op_30 hI i_54
    refine k_iald hx hb hK hI i_54.1 0 k_55 rfl (by unfold vp_in; decide) dX12_count_149 ?_
    refine k_topi (y := q_56 5) (congrArg q_56 (show Int32.toNatClampNeg 5 = 5 by decide)) ?_
    exact W.iret (v := (q_56 5)) hx hb hr (fun t ht hW => ⟨⟨q_56 5, (), rfl, trivial, ⟨f_6, k_ret ht hI, kp_8, 0, z1, z10, z12, z13, z14, z15, z16, z17, z18, z23, z24, z25, z26, q, u, im, kt, k_9, (by first | omega | decide), (by first | omega | decide), (by first | omega | decide), k_10, hc1_ok, k_11, k_12, k_13, hU⟩⟩, hS.F ht⟩) hS.2.2 dX12_count_150
  by_cases h_57 : p1 = 12
  · refine k_topi (y := 12) h_57 ?_
    refine lv_tableIn (tgt := 151) hx hb dX12_count_6 (by decide) (by decide) rfl (by decide) ?_
    have h_57 := kc_eq rfl (by decide : Int32.toInt 12 = 12) h_57
    refine lv_aload_n hx hb dX12_count_151 rfl (lv_at hl 0 rfl) ?_
    refine k_get (ci := 12) (v := .ref (gr g h0 2)) (C := RX12) (T := TX12) (N := 27) hx hb hts (fun _ h0_ => List.mem_cons_of_mem _ (List.mem_append_right _ (List.mem_append_left _ h0_))) hown hK hI i_h0.1 k_9 rfl 2 (by decide) (hts (.fieldLink RX12 7 "DeadlineShareModel" "refusals" "[I") (List.mem_cons_of_mem _ (List.mem_append_left _ (List.mem_of_getElem? (i := 11) rfl)))) (fun _ h9 => h9) rfl dX12_count_152 ?_
    have i_59 := kw_12_2 hG i_h0
    refine lv_bipush (v := 6) hx hb dX12_count_155 (by decide) ?_
    obtain ⟨q_61, k_60⟩ := op_30 hI i_59
    refine k_iald hx hb hK hI i_59.1 0 k_60 rfl (by unfold vp_in; decide) dX12_count_157 ?_
    refine k_topi (y := q_61 6) (congrArg q_61 (show Int32.toNatClampNeg 6 = 6 by decide)) ?_
    exact W.iret (v := (q_61 6)) hx hb hr (fun t ht hW => ⟨⟨q_61 6, (), rfl, trivial, ⟨f_6, k_ret ht hI, kp_8, 0, z1, z10, z12, z13, z14, z15, z16, z17, z18, z23, z24, z25, z26, q, u, im, kt, k_9, (by first | omega | decide), (by first | omega | decide), (by first | omega | decide), k_10, hc1_ok, k_11, k_12, k_13, hU⟩⟩, hS.F ht⟩) hS.2.2 dX12_count_158
  have h_14 := kn_eq rfl (by decide : Int32.toInt 0 = 0) h_14
  have h_18 := kn_eq rfl (by decide : Int32.toInt 1 = 1) h_18
  have h_21 := kn_eq rfl (by decide : Int32.toInt 2 = 2) h_21
  have h_24 := kn_eq rfl (by decide : Int32.toInt 3 = 3) h_24
  have h_27 := kn_eq rfl (by decide : Int32.toInt 4 = 4) h_27
  have h_31 := kn_eq rfl (by decide : Int32.toInt 5 = 5) h_31
  have h_35 := kn_eq rfl (by decide : Int32.toInt 6 = 6) h_35
  have h_36 := kn_eq rfl (by decide : Int32.toInt 7 = 7) h_36
  have h_37 := kn_eq rfl (by decide : Int32.toInt 8 = 8) h_37
  have h_42 := kn_eq rfl (by decide : Int32.toInt 9 = 9) h_42
  have h_47 := kn_eq rfl (by decide : Int32.toInt 10 = 10) h_47
  have h_52 := kn_eq rfl (by decide : Int32.toInt 11 = 11) h_52
  have h_57 := kn_eq rfl (by decide : Int32.toInt 12 = 12) h_57
  refine lv_tableOut (tgt := 159) hx hb dX12_count_6 (by omega) (by decide) ?_
  refine lv_iload_n hx hb dX12_count_159 rfl (lv_at hl 1 rfl) ?_
  refine lv_i2l (v := p1.toInt64) hx hb dX12_count_160 rfl ?_
  have t_62 := Int32.toInt_toInt64 p1
  refine lv_ldc2 hx hb hown (hts (.constantLong RX12 340 (13)) (List.mem_cons_of_mem _ (List.mem_append_left _ (List.mem_of_getElem? (i := 12) rfl)))) dX12_count_161 ?_
  refine lv_ldc2 hx hb hown (hts (.constantLong RX12 304 (15)) (List.mem_cons_of_mem _ (List.mem_append_left _ (List.mem_of_getElem? (i := 13) rfl)))) dX12_count_164 ?_
  refine va_calli (va_runS (As := [.long p1.toInt64, .long 13, .long 15]) (rest := []) ⟨hx, hb, hml, hown, hts⟩ (c_X12_in l dC dI g A hG f_6 p1.toInt64 13 15) (va_cwS 3 hts (gi_S (fun w_ h0_ => ⟨List.mem_cons_of_mem _ (List.mem_append_right _ (List.mem_append_right _ (List.mem_append_right _ (List.mem_append_right _ (List.mem_append_left _ h0_))))), (tb_c_X12_in w_ h0_).2⟩) (List.mem_cons_of_mem _ (List.mem_append_left _ (List.mem_of_getElem? (i := 14) rfl))) (List.mem_cons_of_mem _ (List.mem_append_left _ (List.mem_of_getElem? (i := 15) rfl))) (List.mem_cons_of_mem _ (List.mem_append_left _ (List.mem_of_getElem? (i := 5) rfl)))) rfl rfl rfl (by decide +kernel) ⟨Nat.le_of_ble_eq_true rfl, Nat.le_of_ble_eq_true rfl⟩) ⟨fun a U g mk q => ⟨q.1, q.2.calling rfl rfl⟩, fun U hU hW => ⟨rfl, kIn.of hI hK hE hS hU hW⟩⟩ rfl rfl hl.1 rfl (lv_room (Nat.le_of_ble_eq_true rfl)) dX12_count_167 ⟨Nat.le_of_ble_eq_true rfl, Nat.le_of_ble_eq_true rfl⟩) hS (fun q _ h => h) (fun q h => h) (fun r_64 u t H1 locs ht hvm w_63 hB hz1 hk1 hS => ?_)
  have hI : Iv dC dI g A f_6 t.heap := hB
  rw [ht] at hI
  generalize H1 = H at hI hS ⊢
  refine W.widen (k := 0) (n := 0) (Nat.le_of_ble_eq_true rfl) (Nat.le_of_ble_eq_true rfl) ?_
  have w_63 : (r_64.toInt = 0 ∧ (p1.toInt64.toInt < (13 : Int64).toInt ∨ (15 : Int64).toInt < p1.toInt64.toInt)) ∨ (r_64.toInt = 1 ∧ (13 : Int64).toInt ≤ p1.toInt64.toInt ∧ p1.toInt64.toInt ≤ (15 : Int64).toInt) := w_63
  have g_65 : Int64.toInt (13) = 13 := by decide
  have g_66 : Int64.toInt (15) = 15 := by decide
  refine lv_if_eq (tgt := 185) hx hb dX12_count_170 (by decide) (fun c_67 => ?_) (fun c_67 => ?_)
  · have c_67 := kc_eq rfl (by decide : Int32.toInt 0 = 0) c_67
    refine lv_iload_n hx hb dX12_count_185 rfl (lv_at hl 1 rfl) ?_
    refine lv_bipush (v := 16) hx hb dX12_count_186 (by decide) ?_
    refine lv_icmp_ne (tgt := 199) hx hb dX12_count_188 (by decide) (fun c_68 => ?_) (fun c_68 => ?_)
    · have c_68 := kn_eq rfl (by decide : Int32.toInt 16 = 16) c_68
      refine lv_iconst (v := (-1)) hx hb dX12_count_199 (by decide) ?_
      exact W.iret (v := (-1)) hx hb hr (fun t ht hW => ⟨⟨(-1), (), rfl, trivial, ⟨f_6, k_ret ht hI, kp_8, 0, z1, z10, z12, z13, z14, z15, z16, z17, z18, z23, z24, z25, z26, q, u, im, kt, k_9, (by first | omega | decide), (by first | omega | decide), (by first | omega | decide), k_10, hc1_ok, k_11, k_12, k_13, hU⟩⟩, hS.F ht⟩) hS.2.2 dX12_count_200
    · have c_68 := kc_eq rfl (by decide : Int32.toInt 16 = 16) c_68
      refine lv_aload_n hx hb dX12_count_191 rfl (lv_at hl 0 rfl) ?_
      refine lv_iconst (v := 3) hx hb dX12_count_192 (by decide) ?_
      refine va_calli (va_runV (As := [.int 3]) (rest := []) ⟨hx, hb, hml, hown, hts⟩ (c_X12_inState l dC dI g A hG f_6 h0 3 q i_h0 k_10 hc1_ok) (cwV 1 hts (gi_V (fun w_ h0_ => ⟨List.mem_cons_of_mem _ (List.mem_append_right _ (List.mem_append_right _ (List.mem_append_left _ h0_))), (tb_c_X12_inState w_ h0_).2⟩) (List.mem_cons_of_mem _ (List.mem_append_left _ (List.mem_of_getElem? (i := 2) rfl))) (List.mem_cons_of_mem _ (List.mem_append_left _ (List.mem_of_getElem? (i := 3) rfl))) (List.mem_cons_of_mem _ (List.mem_append_left _ (List.mem_of_getElem? (i := 4) rfl))) (List.mem_cons_of_mem _ (List.mem_append_left _ (List.mem_of_getElem? (i := 5) rfl)))) rfl rfl rfl (by decide +kernel) ⟨Nat.le_of_ble_eq_true rfl, Nat.le_of_ble_eq_true rfl⟩) ⟨fun a U g mk q => ⟨q.1, q.2.calling rfl rfl⟩, k_recv hK hI i_h0.1 k_9 (ci := 12) rfl, fun U hU hW => ⟨rfl, kIn.of hI hK hE hS hU hW⟩⟩ rfl rfl hl.1 rfl (lv_room (Nat.le_of_ble_eq_true rfl)) dX12_count_193 ⟨Nat.le_of_ble_eq_true rfl, Nat.le_of_ble_eq_true rfl⟩) hS (fun q _ h => h) (fun q h => h) (fun r_70 u t H1 locs ht hvm w_69 hB hz1 hk1 hS => ?_)
      have hI : Iv dC dI g A f_6 t.heap := hB
      rw [ht] at hI
      generalize H1 = H at hI hS ⊢
      refine W.widen (k := 0) (n := 0) (Nat.le_of_ble_eq_true rfl) (Nat.le_of_ble_eq_true rfl) ?_
      refine lv_goto (tgt := 200) hx hb dX12_count_196 (by decide) ?_
      exact W.iret (v := r_70) hx hb hr (fun t ht hW => ⟨⟨r_70, (), rfl, trivial, ⟨f_6, k_ret ht hI, kp_8, 0, z1, z10, z12, z13, z14, z15, z16, z17, z18, z23, z24, z25, z26, q, u, im, kt, k_9, (by first | omega | decide), (by first | omega | decide), (by first | omega | decide), k_10, hc1_ok, k_11, k_12, k_13, hU⟩⟩, hS.F ht⟩) hS.2.2 dX12_count_200
  · have c_67 := kn_eq rfl (by decide : Int32.toInt 0 = 0) c_67
    refine lv_aload_n hx hb dX12_count_173 rfl (lv_at hl 0 rfl) ?_
    refine k_get (ci := 12) (v := .ref (gr g h0 3)) (C := RX12) (T := TX12) (N := 27) hx hb hts (fun _ h0_ => List.mem_cons_of_mem _ (List.mem_append_right _ (List.mem_append_left _ h0_))) hown hK hI i_h0.1 k_9 rfl 3 (by decide) (hts (.fieldLink RX12 13 "DeadlineShareModel" "term" "[I") (List.mem_cons_of_mem _ (List.mem_append_left _ (List.mem_of_getElem? (i := 16) rfl)))) (fun _ h9 => h9) rfl dX12_count_174 ?_
    have i_72 := kw_12_3 hG i_h0
    refine lv_iload_n hx hb dX12_count_177 rfl (lv_at hl 1 rfl) ?_
    refine lv_bipush (v := 13) hx hb dX12_count_178 (by decide) ?_
    refine lv_isub hx hb dX12_count_180 ?_
    refine lv_topi (fun v_73 ev_73 => ?_)
    have tv_73 := k_sb p1 13
    rw [← ev_73, show Int32.toInt 13 = 13 from by decide] at tv_73
    obtain ⟨q_75, k_74⟩ := op_31 hI i_72
    refine k_iald hx hb hK hI i_72.1 0 k_74 rfl (vp_in_iff.mpr (by omega)) dX12_count_181 ?_
    refine lv_topi (fun v_76 ev_76 => ?_)
    refine lv_goto (tgt := 200) hx hb dX12_count_182 (by decide) ?_
    exact W.iret (v := v_76) hx hb hr (fun t ht hW => ⟨⟨v_76, (), rfl, trivial, ⟨f_6, k_ret ht hI, kp_8, 0, z1, z10, z12, z13, z14, z15, z16, z17, z18, z23, z24, z25, z26, q, u, im, kt, k_9, (by first | omega | decide), (by first | omega | decide), (by first | omega | decide), k_10, hc1_ok, k_11, k_12, k_13, hU⟩⟩, hS.F ht⟩) hS.2.2 dX12_count_200
theorem tw_944 : q_g (.code yX12_eligible cX12_eligible 3 (some .int)) := ⟨(List.mem_append_right _ (List.mem_of_getElem? (i := 1458) (by decide +kernel))), good_of_word (by decide +kernel)⟩
def ow_c_X12_eligible : List Cond := [.fieldLink RX12 67 "DeadlineShareModel" "thrown" "I", .fieldLink RX12 16 "DeadlineShareModel" "row" "[J", .methodLink RX12 244 yX12_isEligible, .instanceMethod yX12_isEligible, .selects RX12 yX12_isEligible yX12_isEligible, .initialized RX12]
def wq_c_X12_eligible : List Cond := .code yX12_eligible cX12_eligible 3 (some .int) :: (ow_c_X12_eligible ++ (u_ws RX12 TX12 27 ++ (wq_c_X12_isEligible ++ ([] : List Cond))))
theorem tb_c_X12_eligible : ∀ w ∈ wq_c_X12_eligible, q_g w := by
  unfold wq_c_X12_eligible ow_c_X12_eligible
  exact q_cons tw_944 (q_app (q_cons tw_927 (q_cons tw_731 (q_cons tw_779 (q_cons tw_778 (q_cons tw_777 (q_cons tw_728 q_nil)))))) (q_app tu_X12 (q_app tb_c_X12_isEligible q_nil)))
set_option maxHeartbeats 4000000 in
set_option maxRecDepth 100000 in
theorem c_X12_eligible (l : Launch) (dC : Nat → ClassId) (dI : Nat → Nat → Nat) (g : kG) (A : Nat → Prop) (hG : kWf g) (f : Nat → va_E) (h0 : Nat) (z0 : Int32) (z1 : Int32) (z10 : Int32) (z12 : Int32) (z13 : Int32) (z14 : Int32) (z15 : Int32) (z16 : Int64) (z17 : Int32) (z18 : Int32) (z23 : Int32) (z24 : Int64) (z25 : Int64) (z26 : Int64) (q : Nat → Int64) (u : Nat → Int64) (im : Nat → Int64) (kt : Nat → Int32) (i_h0 : ik g 12 h0) (hc0 : f h0 = .inr (12, [.int z0, .int z1, .ref (gr g h0 2), .ref (gr g h0 3), .ref (gr g h0 4), .ref (gr g h0 5), .ref (gr g h0 6), .ref (gr g h0 7), .ref (gr g h0 8), .ref (gr g h0 9), .int z10, .ref (gr g h0 11), .int z12, .int z13, .int z14, .int z15, .long z16, .int z17, .int z18, .ref (gr g h0 19), .ref (gr g h0 20), .ref (gr g h0 21), .ref (gr g h0 22), .int z23, .long z24, .long z25, .long z26])) (hc0_10 : 0 ≤ z10.toInt ∧ z10.toInt ≤ 10) (hc0_12 : 0 ≤ z12.toInt ∧ z12.toInt ≤ 200) (hc0_23 : 0 ≤ z23.toInt ∧ z23.toInt ≤ 8) (hc1 : f (gr g h0 4) = .inl (gc g 1, 906, .inr (.inl q))) (hc1_ok : RowOK q) (hc2 : f (gr g h0 5) = .inl (gc g 1, 9060, .inr (.inl u))) (hc3 : f (gr g h0 7) = .inl (gc g 1, 1812, .inr (.inl im))) (hc4 : f (gr g h0 8) = .inl (gc g 3, 2, .inl kt)) (hU : UIq z10 u im kt) : Met l yX12_eligible wq_c_X12_eligible ({ frames := 4, cells := 0, slots := 0, locals := 85 } : Room) (va_Pc [.ref h0] (fun U => kIn dC dI g A f U)) (va_Qi (fun (r : Int32) (_ : Unit) => True) (fun (_ : Unit) t => ∃ f1 : Nat → va_E, Iv dC dI g A f1 t.heap ∧ Kp g [12] f f1 ∧ ∃ (w0 : Int32) (w1 : Int32) (w10 : Int32) (w12 : Int32) (w13 : Int32) (w14 : Int32) (w15 : Int32) (w16 : Int64) (w17 : Int32) (w18 : Int32) (w23 : Int32) (w24 : Int64) (w25 : Int64) (w26 : Int64) (q1 : Nat → Int64) (u1 : Nat → Int64) (im1 : Nat → Int64) (ik1 : Nat → Int32), (f1 h0 = .inr (12, [.int w0, .int w1, .ref (gr g h0 2), .ref (gr g h0 3), .ref (gr g h0 4), .ref (gr g h0 5), .ref (gr g h0 6), .ref (gr g h0 7), .ref (gr g h0 8), .ref (gr g h0 9), .int w10, .ref (gr g h0 11), .int w12, .int w13, .int w14, .int w15, .long w16, .int w17, .int w18, .ref (gr g h0 19), .ref (gr g h0 20), .ref (gr g h0 21), .ref (gr g h0 22), .int w23, .long w24, .long w25, .long w26])) ∧ (0 ≤ w10.toInt ∧ w10.toInt ≤ 10) ∧ (0 ≤ w12.toInt ∧ w12.toInt ≤ 200) ∧ (0 ≤ w23.toInt ∧ w23.toInt ≤ 8) ∧ (f1 (gr g h0 4) = .inl (gc g 1, 906, .inr (.inl q1))) ∧ (RowOK q1) ∧ (f1 (gr g h0 5) = .inl (gc g 1, 9060, .inr (.inl u1))) ∧ (f1 (gr g h0 7) = .inl (gc g 1, 1812, .inr (.inl im1))) ∧ (f1 (gr g h0 8) = .inl (gc g 3, 2, .inl ik1)) ∧ (UIq w10 u1 im1 ik1)) A) 0 0 A := by
  refine Met.ofW (cc := cX12_eligible) (maxL := 3) (ret := (some .int)) (by decide) rfl ?_
  intro p e s m args below meth c s₁ B hml hv
  obtain ⟨rfl, hI, hK, hE⟩ := hv
  have hx := B.exec
  have hb := B.bytes
  have hr := B.returns
  have hts := atoms_spec (ws := wq_c_X12_eligible) B.pre
  have hown : s.vm.findClass RX12 = some m.cls := findClass_of_methodNamed B.named
  have hlocks := B.notSynchronized
  have hS : va_S A s.heap s.heap [] := va_S.rf
  have hk0 : Kp g [12] f f := Kp.rf
  have hl := lv_entry ([.ref h0]) (n := 3) (Nat.le_of_ble_eq_true rfl)
  rw [lg_entry_eq]
  generalize (lg_sl ([.ref h0]) ++ List.replicate (3 - (lg_sl ([.ref h0])).length) Slot.unset).toArray = ls at hl ⊢
  have hl : lv_has ls 3 [(0, .ref h0)] := hl
  have i_1 := kw_12_4 hG i_h0
  have d_2 := rk_hd hc1_ok
  have i_3 := kw_12_5 hG i_h0
  have i_4 := kw_12_7 hG i_h0
  have i_5 := kw_12_8 hG i_h0
  refine lv_aload_n hx hb dX12_eligible_0 rfl (lv_at hl 0 rfl) ?_
  refine lv_iconst (v := 0) hx hb dX12_eligible_1 (by decide) ?_
  refine k_put (ci := 12) (v := .int 0) (ty := .int) (C := RX12) (T := TX12) (N := 27) hx hb hts (fun _ h0_ => List.mem_cons_of_mem _ (List.mem_append_right _ (List.mem_append_left _ h0_))) tyX12 tyX12_ok nmX12 hown hK hI hS i_h0.1 hc0 rfl 0 (by decide) (hts (.fieldLink RX12 67 "DeadlineShareModel" "thrown" "I") (List.mem_cons_of_mem _ (List.mem_append_left _ (List.mem_of_getElem? (i := 0) rfl)))) (fun _ h9 => h9) rfl (by decide +kernel) rfl rfl (Nat.le_of_ble_eq_true rfl) rfl (cl_12 i_h0 (by omega) (by omega) (by omega)) dX12_eligible_2 (fun f_6 H locs e_7 hI hS => ?_)
  have k_9 : f_6 h0 = .inr (12, [.int 0, .int z1, .ref (gr g h0 2), .ref (gr g h0 3), .ref (gr g h0 4), .ref (gr g h0 5), .ref (gr g h0 6), .ref (gr g h0 7), .ref (gr g h0 8), .ref (gr g h0 9), .int z10, .ref (gr g h0 11), .int z12, .int z13, .int z14, .int z15, .long z16, .int z17, .int z18, .ref (gr g h0 19), .ref (gr g h0 20), .ref (gr g h0 21), .ref (gr g h0 22), .int z23, .long z24, .long z25, .long z26]) := by rw [e_7]; exact va_up_self _ _ _
  have k_10 : f_6 (gr g h0 4) = .inl (gc g 1, 906, .inr (.inl q)) := by rw [e_7, va_up_ne _ _ (ik_ne i_1 i_h0 (by decide))]; exact hc1
  have k_11 : f_6 (gr g h0 5) = .inl (gc g 1, 9060, .inr (.inl u)) := by rw [e_7, va_up_ne _ _ (ik_ne i_3 i_h0 (by decide))]; exact hc2
  have k_12 : f_6 (gr g h0 7) = .inl (gc g 1, 1812, .inr (.inl im)) := by rw [e_7, va_up_ne _ _ (ik_ne i_4 i_h0 (by decide))]; exact hc3
  have k_13 : f_6 (gr g h0 8) = .inl (gc g 3, 2, .inl kt) := by rw [e_7, va_up_ne _ _ (ik_ne i_5 i_h0 (by decide))]; exact hc4
  have kp_8 := Kp.put hk0 i_h0 (by decide) e_7
  refine lv_iconst (v := 0) hx hb dX12_eligible_5 (by decide) ?_
  refine lv_istore_n (lv' := [(1, .int 0), (0, .ref h0)]) hx hb dX12_eligible_6 rfl hl (by decide) rfl (fun ls hl => ?_)
  refine lv_iconst (v := 0) hx hb dX12_eligible_7 (by decide) ?_
  refine lv_istore_n (lv' := [(2, .int 0), (1, .int 0), (0, .ref h0)]) hx hb dX12_eligible_8 rfl hl (by decide) rfl (fun ls hl => ?_)
  have K_9 : ∀ (nn : Nat) (y_14 : Nat) (y_15 : Int32) (H : Heap) (locs : List Loc) (ls : Array Slot), 12 - y_14 < nn → Iv dC dI g A f_6 H → va_S A s.heap H locs → (y_14 ≤ 12) → lv_has ls 3 [(2, .int (nI y_14)), (1, .int y_15), (0, .ref h0)] → W p l e (headSpec wq_c_X12_eligible ({ frames := 4, cells := 0, slots := 0, locals := 85 } : Room)).room s m ([.ref h0].toArray) below meth c H locs 0 0 (MQ below (va_Qi (fun (r : Int32) (_ : Unit) => True) (fun (_ : Unit) t => ∃ f1 : Nat → va_E, Iv dC dI g A f1 t.heap ∧ Kp g [12] f f1 ∧ ∃ (w0 : Int32) (w1 : Int32) (w10 : Int32) (w12 : Int32) (w13 : Int32) (w14 : Int32) (w15 : Int32) (w16 : Int64) (w17 : Int32) (w18 : Int32) (w23 : Int32) (w24 : Int64) (w25 : Int64) (w26 : Int64) (q1 : Nat → Int64) (u1 : Nat → Int64) (im1 : Nat → Int64) (ik1 : Nat → Int32), (f1 h0 = .inr (12, [.int w0, .int w1, .ref (gr g h0 2), .ref (gr g h0 3), .ref (gr g h0 4), .ref (gr g h0 5), .ref (gr g h0 6), .ref (gr g h0 7), .ref (gr g h0 8), .ref (gr g h0 9), .int w10, .ref (gr g h0 11), .int w12, .int w13, .int w14, .int w15, .long w16, .int w17, .int w18, .ref (gr g h0 19), .ref (gr g h0 20), .ref (gr g h0 21), .ref (gr g h0 22), .int w23, .long w24, .long w25, .long w26])) ∧ (0 ≤ w10.toInt ∧ w10.toInt ≤ 10) ∧ (0 ≤ w12.toInt ∧ w12.toInt ≤ 200) ∧ (0 ≤ w23.toInt ∧ w23.toInt ≤ 8) ∧ (f1 (gr g h0 4) = .inl (gc g 1, 906, .inr (.inl q1))) ∧ (RowOK q1) ∧ (f1 (gr g h0 5) = .inl (gc g 1, 9060, .inr (.inl u1))) ∧ (f1 (gr g h0 7) = .inl (gc g 1, 1812, .inr (.inl im1))) ∧ (f1 (gr g h0 8) = .inl (gc g 3, 2, .inl ik1)) ∧ (UIq w10 u1 im1 ik1)) A) ([.ref h0].toArray) s 0 0 A) (F0 m 9 ls []) := by
    intro nn
    induction nn with
    | zero => intro y_14 y_15 H locs ls m_17; exact absurd m_17 (Nat.not_lt_zero _)
    | succ nn ih =>
      intro y_14 y_15 H locs ls m_17 hI hS t_16 hl
      refine lv_iload_n hx hb dX12_eligible_9 rfl (lv_at hl 0 rfl) ?_
      refine lv_i2l (v := lN (y_14)) hx hb dX12_eligible_10 (nI_l (by omega)) ?_
      refine lv_aload_n hx hb dX12_eligible_11 rfl (lv_at hl 2 rfl) ?_
      refine k_get (ci := 12) (v := .ref (gr g h0 4)) (C := RX12) (T := TX12) (N := 27) hx hb hts (fun _ h0_ => List.mem_cons_of_mem _ (List.mem_append_right _ (List.mem_append_left _ h0_))) hown hK hI i_h0.1 k_9 rfl 4 (by decide) (hts (.fieldLink RX12 16 "DeadlineShareModel" "row" "[J") (List.mem_cons_of_mem _ (List.mem_append_left _ (List.mem_of_getElem? (i := 1) rfl)))) (fun _ h9 => h9) rfl dX12_eligible_12 ?_
      refine lv_iconst (v := 0) hx hb dX12_eligible_15 (by decide) ?_
      refine k_lald hx hb hK hI i_1.1 1 k_10 rfl (by unfold vp_in; decide) dX12_eligible_16 ?_
      refine k_topl (y := q 0) (congrArg q (show Int32.toNatClampNeg 0 = 0 by decide)) ?_
      refine W.lcmp hx hb dX12_eligible_17 ?_
      refine lv_if_ge (tgt := 45) hx hb dX12_eligible_18 (by decide) (fun c_20 => ?_) (fun c_20 => ?_)
      · have c_20 := lc_le rfl (lN_toInt (n := y_14) (by omega)) ((lg_cmp_ge _ _).mp c_20)
        refine lv_iload_n hx hb dX12_eligible_45 rfl (lv_at hl 1 rfl) ?_
        exact W.iret (v := y_15) hx hb hr (fun t ht hW => ⟨⟨y_15, (), rfl, trivial, ⟨f_6, k_ret ht hI, kp_8, 0, z1, z10, z12, z13, z14, z15, z16, z17, z18, z23, z24, z25, z26, q, u, im, kt, k_9, (by first | omega | decide), (by first | omega | decide), (by first | omega | decide), k_10, hc1_ok, k_11, k_12, k_13, hU⟩⟩, hS.F ht⟩) hS.2.2 dX12_eligible_46
      · have c_20 := ln_le rfl (lN_toInt (n := y_14) (by omega)) (fun h9 => c_20 ((lg_cmp_ge _ _).mpr h9))
        refine lv_iload_n hx hb dX12_eligible_21 rfl (lv_at hl 1 rfl) ?_
        refine lv_aload_n hx hb dX12_eligible_22 rfl (lv_at hl 2 rfl) ?_
        refine lv_iload_n hx hb dX12_eligible_23 rfl (lv_at hl 0 rfl) ?_
        refine va_calli (va_runV (As := [.int (nI y_14)]) (rest := [.int y_15]) ⟨hx, hb, hml, hown, hts⟩ (c_X12_isEligible l dC dI g A hG f_6 h0 y_14 q i_h0 k_10 hc1_ok (by first | omega | decide | (simp only [k_c0, k_c1, k_cm1]; omega))) (cwV 1 hts (gi_V (fun w_ h0_ => ⟨List.mem_cons_of_mem _ (List.mem_append_right _ (List.mem_append_right _ (List.mem_append_left _ h0_))), (tb_c_X12_isEligible w_ h0_).2⟩) (List.mem_cons_of_mem _ (List.mem_append_left _ (List.mem_of_getElem? (i := 2) rfl))) (List.mem_cons_of_mem _ (List.mem_append_left _ (List.mem_of_getElem? (i := 3) rfl))) (List.mem_cons_of_mem _ (List.mem_append_left _ (List.mem_of_getElem? (i := 4) rfl))) (List.mem_cons_of_mem _ (List.mem_append_left _ (List.mem_of_getElem? (i := 5) rfl)))) rfl rfl rfl (by decide +kernel) ⟨Nat.le_of_ble_eq_true rfl, Nat.le_of_ble_eq_true rfl⟩) ⟨fun a U g mk q => ⟨q.1, q.2.calling rfl rfl⟩, k_recv hK hI i_h0.1 k_9 (ci := 12) rfl, fun U hU hW => ⟨rfl, kIn.of hI hK hE hS hU hW⟩⟩ rfl rfl hl.1 rfl (lv_room (Nat.le_of_ble_eq_true rfl)) dX12_eligible_24 ⟨Nat.le_of_ble_eq_true rfl, Nat.le_of_ble_eq_true rfl⟩) hS (fun q _ h => h) (fun q h => h) (fun r_22 u t H1 locs ht hvm w_21 hB hz1 hk1 hS => ?_)
        have hI : Iv dC dI g A f_6 t.heap := hB
        rw [ht] at hI
        generalize H1 = H at hI hS ⊢
        refine W.widen (k := 0) (n := 0) (Nat.le_of_ble_eq_true rfl) (Nat.le_of_ble_eq_true rfl) ?_
        have J_37 : ∀ (y_23 : Int32) (H : Heap) (locs : List Loc) (ls : Array Slot), Iv dC dI g A f_6 H → va_S A s.heap H locs → lv_has ls 3 [(2, .int (nI y_14)), (1, .int y_15), (0, .ref h0)] → W p l e (headSpec wq_c_X12_eligible ({ frames := 4, cells := 0, slots := 0, locals := 85 } : Room)).room s m ([.ref h0].toArray) below meth c H locs 0 0 (MQ below (va_Qi (fun (r : Int32) (_ : Unit) => True) (fun (_ : Unit) t => ∃ f1 : Nat → va_E, Iv dC dI g A f1 t.heap ∧ Kp g [12] f f1 ∧ ∃ (w0 : Int32) (w1 : Int32) (w10 : Int32) (w12 : Int32) (w13 : Int32) (w14 : Int32) (w15 : Int32) (w16 : Int64) (w17 : Int32) (w18 : Int32) (w23 : Int32) (w24 : Int64) (w25 : Int64) (w26 : Int64) (q1 : Nat → Int64) (u1 : Nat → Int64) (im1 : Nat → Int64) (ik1 : Nat → Int32), (f1 h0 = .inr (12, [.int w0, .int w1, .ref (gr g h0 2), .ref (gr g h0 3), .ref (gr g h0 4), .ref (gr g h0 5), .ref (gr g h0 6), .ref (gr g h0 7), .ref (gr g h0 8), .ref (gr g h0 9), .int w10, .ref (gr g h0 11), .int w12, .int w13, .int w14, .int w15, .long w16, .int w17, .int w18, .ref (gr g h0 19), .ref (gr g h0 20), .ref (gr g h0 21), .ref (gr g h0 22), .int w23, .long w24, .long w25, .long w26])) ∧ (0 ≤ w10.toInt ∧ w10.toInt ≤ 10) ∧ (0 ≤ w12.toInt ∧ w12.toInt ≤ 200) ∧ (0 ≤ w23.toInt ∧ w23.toInt ≤ 8) ∧ (f1 (gr g h0 4) = .inl (gc g 1, 906, .inr (.inl q1))) ∧ (RowOK q1) ∧ (f1 (gr g h0 5) = .inl (gc g 1, 9060, .inr (.inl u1))) ∧ (f1 (gr g h0 7) = .inl (gc g 1, 1812, .inr (.inl im1))) ∧ (f1 (gr g h0 8) = .inl (gc g 3, 2, .inl ik1)) ∧ (UIq w10 u1 im1 ik1)) A) ([.ref h0].toArray) s 0 0 A) (F0 m 37 ls [.int y_23, .int y_15]) := by
          intro y_23 H locs ls hI hS  hl
          refine lv_ior hx hb dX12_eligible_37 ?_
          refine lv_topi (fun v_24 ev_24 => ?_)
          refine lv_istore_n (lv' := [(1, .int v_24), (2, .int (nI y_14)), (0, .ref h0)]) hx hb dX12_eligible_38 rfl hl (by decide) rfl (fun ls hl => ?_)
          refine lv_iinc (v := nI (y_14 + 1)) (lv' := [(2, .int (nI (y_14 + 1))), (1, .int v_24), (0, .ref h0)]) hx hb dX12_eligible_39 hl (k := 1) rfl (nI_1 _) (by decide) rfl (fun ls hl => ?_)
          refine lv_goto (tgt := 9) hx hb dX12_eligible_42 (by decide) ?_
          exact ih (y_14 + 1) v_24 _ _ _ (by omega) hI hS (by first | omega | decide) (lv_sub hl [0, 1, 2] rfl)
        refine lv_if_eq (tgt := 36) hx hb dX12_eligible_27 (by decide) (fun c_25 => ?_) (fun c_25 => ?_)
        · have c_25 := kc_eq rfl (by decide : Int32.toInt 0 = 0) c_25
          refine lv_iconst (v := 0) hx hb dX12_eligible_36 (by decide) ?_
          exact J_37 0 _ _ _ hI hS  (lv_sub hl [0, 1, 2] rfl)
        · have c_25 := kn_eq rfl (by decide : Int32.toInt 0 = 0) c_25
          refine lv_iconst (v := 1) hx hb dX12_eligible_30 (by decide) ?_
          refine lv_iload_n hx hb dX12_eligible_31 rfl (lv_at hl 0 rfl) ?_
          refine lv_ishl hx hb dX12_eligible_32 ?_
          refine lv_topi (fun v_26 ev_26 => ?_)
          refine lv_goto (tgt := 37) hx hb dX12_eligible_33 (by decide) ?_
          exact J_37 v_26 _ _ _ hI hS  (lv_sub hl [0, 1, 2] rfl)
  exact K_9 _ 0 0 _ _ _ (Nat.lt_succ_self _) hI hS (by first | omega | decide | (simp only [show Int32.toInt 0 = 0 from by decide]; omega)) (lv_sub hl [0, 1, 2] rfl)
theorem tw_945 : q_g (.selects RX12 yX12_aheadOf yX12_aheadOf) := ⟨(List.mem_append_left _ (List.mem_of_getElem? (i := 58) (by decide +kernel))), good_of_word (by decide +kernel)⟩
theorem tw_946 : q_g (.instanceMethod yX12_aheadOf) := ⟨(List.mem_append_right _ (List.mem_of_getElem? (i := 1465) (by decide +kernel))), good_of_word (by decide +kernel)⟩
theorem tw_947 : q_g (.methodLink RX12 293 yX12_aheadOf) := ⟨(List.mem_append_right _ (List.mem_of_getElem? (i := 1463) (by decide +kernel))), good_of_word (by decide +kernel)⟩
theorem tw_948 : q_g (.code yX12_earliest cX12_earliest 4 (some .int)) := ⟨(List.mem_append_right _ (List.mem_of_getElem? (i := 1462) (by decide +kernel))), good_of_word (by decide +kernel)⟩
def ow_c_X12_earliest : List Cond := [.fieldLink RX12 67 "DeadlineShareModel" "thrown" "I", .fieldLink RX12 16 "DeadlineShareModel" "row" "[J", .methodLink RX12 244 yX12_isEligible, .instanceMethod yX12_isEligible, .selects RX12 yX12_isEligible yX12_isEligible, .initialized RX12, .methodLink RX12 293 yX12_aheadOf, .instanceMethod yX12_aheadOf, .selects RX12 yX12_aheadOf yX12_aheadOf]
def wq_c_X12_earliest : List Cond := .code yX12_earliest cX12_earliest 4 (some .int) :: (ow_c_X12_earliest ++ (u_ws RX12 TX12 27 ++ (wq_c_X12_isEligible ++ (wq_c_X12_aheadOf ++ ([] : List Cond)))))
theorem tb_c_X12_earliest : ∀ w ∈ wq_c_X12_earliest, q_g w := by
  unfold wq_c_X12_earliest ow_c_X12_earliest
  exact q_cons tw_948 (q_app (q_cons tw_927 (q_cons tw_731 (q_cons tw_779 (q_cons tw_778 (q_cons tw_777 (q_cons tw_728 (q_cons tw_947 (q_cons tw_946 (q_cons tw_945 q_nil))))))))) (q_app tu_X12 (q_app tb_c_X12_isEligible (q_app tb_c_X12_aheadOf q_nil))))
set_option maxHeartbeats 4000000 in
set_option maxRecDepth 100000 in
theorem c_X12_earliest (l : Launch) (dC : Nat → ClassId) (dI : Nat → Nat → Nat) (g : kG) (A : Nat → Prop) (hG : kWf g) (f : Nat → va_E) (h0 : Nat) (p1 : Int32) (z0 : Int32) (z1 : Int32) (z10 : Int32) (z12 : Int32) (z13 : Int32) (z14 : Int32) (z15 : Int32) (z16 : Int64) (z17 : Int32) (z18 : Int32) (z23 : Int32) (z24 : Int64) (z25 : Int64) (z26 : Int64) (q : Nat → Int64) (u : Nat → Int64) (im : Nat → Int64) (kt : Nat → Int32) (i_h0 : ik g 12 h0) (hc0 : f h0 = .inr (12, [.int z0, .int z1, .ref (gr g h0 2), .ref (gr g h0 3), .ref (gr g h0 4), .ref (gr g h0 5), .ref (gr g h0 6), .ref (gr g h0 7), .ref (gr g h0 8), .ref (gr g h0 9), .int z10, .ref (gr g h0 11), .int z12, .int z13, .int z14, .int z15, .long z16, .int z17, .int z18, .ref (gr g h0 19), .ref (gr g h0 20), .ref (gr g h0 21), .ref (gr g h0 22), .int z23, .long z24, .long z25, .long z26])) (hc0_10 : 0 ≤ z10.toInt ∧ z10.toInt ≤ 10) (hc0_12 : 0 ≤ z12.toInt ∧ z12.toInt ≤ 200) (hc0_23 : 0 ≤ z23.toInt ∧ z23.toInt ≤ 8) (hc1 : f (gr g h0 4) = .inl (gc g 1, 906, .inr (.inl q))) (hc1_ok : RowOK q) (hc2 : f (gr g h0 5) = .inl (gc g 1, 9060, .inr (.inl u))) (hc3 : f (gr g h0 7) = .inl (gc g 1, 1812, .inr (.inl im))) (hc4 : f (gr g h0 8) = .inl (gc g 3, 2, .inl kt)) (hU : UIq z10 u im kt) : Met l yX12_earliest wq_c_X12_earliest ({ frames := 5, cells := 0, slots := 0, locals := 108 } : Room) (va_Pc [.ref h0, .int p1] (fun U => kIn dC dI g A f U)) (va_Qi (fun (r : Int32) (_ : Unit) => True) (fun (_ : Unit) t => ∃ f1 : Nat → va_E, Iv dC dI g A f1 t.heap ∧ Kp g [12] f f1 ∧ ∃ (w0 : Int32) (w1 : Int32) (w10 : Int32) (w12 : Int32) (w13 : Int32) (w14 : Int32) (w15 : Int32) (w16 : Int64) (w17 : Int32) (w18 : Int32) (w23 : Int32) (w24 : Int64) (w25 : Int64) (w26 : Int64) (q1 : Nat → Int64) (u1 : Nat → Int64) (im1 : Nat → Int64) (ik1 : Nat → Int32), (f1 h0 = .inr (12, [.int w0, .int w1, .ref (gr g h0 2), .ref (gr g h0 3), .ref (gr g h0 4), .ref (gr g h0 5), .ref (gr g h0 6), .ref (gr g h0 7), .ref (gr g h0 8), .ref (gr g h0 9), .int w10, .ref (gr g h0 11), .int w12, .int w13, .int w14, .int w15, .long w16, .int w17, .int w18, .ref (gr g h0 19), .ref (gr g h0 20), .ref (gr g h0 21), .ref (gr g h0 22), .int w23, .long w24, .long w25, .long w26])) ∧ (0 ≤ w10.toInt ∧ w10.toInt ≤ 10) ∧ (0 ≤ w12.toInt ∧ w12.toInt ≤ 200) ∧ (0 ≤ w23.toInt ∧ w23.toInt ≤ 8) ∧ (f1 (gr g h0 4) = .inl (gc g 1, 906, .inr (.inl q1))) ∧ (RowOK q1) ∧ (f1 (gr g h0 5) = .inl (gc g 1, 9060, .inr (.inl u1))) ∧ (f1 (gr g h0 7) = .inl (gc g 1, 1812, .inr (.inl im1))) ∧ (f1 (gr g h0 8) = .inl (gc g 3, 2, .inl ik1)) ∧ (UIq w10 u1 im1 ik1)) A) 0 0 A := by
  refine Met.ofW (cc := cX12_earliest) (maxL := 4) (ret := (some .int)) (by decide) rfl ?_
  intro p e s m args below meth c s₁ B hml hv
  obtain ⟨rfl, hI, hK, hE⟩ := hv
  have hx := B.exec
  have hb := B.bytes
  have hr := B.returns
  have hts := atoms_spec (ws := wq_c_X12_earliest) B.pre
  have hown : s.vm.findClass RX12 = some m.cls := findClass_of_methodNamed B.named
  have hlocks := B.notSynchronized
  have hS : va_S A s.heap s.heap [] := va_S.rf
  have hk0 : Kp g [12] f f := Kp.rf
  have hl := lv_entry ([.ref h0, .int p1]) (n := 4) (Nat.le_of_ble_eq_true rfl)
  rw [lg_entry_eq]
  generalize (lg_sl ([.ref h0, .int p1]) ++ List.replicate (4 - (lg_sl ([.ref h0, .int p1])).length) Slot.unset).toArray = ls at hl ⊢
  have hl : lv_has ls 4 [(0, .ref h0), (1, .int p1)] := hl
  have i_1 := kw_12_4 hG i_h0
  have d_2 := rk_hd hc1_ok
  have i_3 := kw_12_5 hG i_h0
  have i_4 := kw_12_7 hG i_h0
  have i_5 := kw_12_8 hG i_h0
  refine lv_aload_n hx hb dX12_earliest_0 rfl (lv_at hl 0 rfl) ?_
  refine lv_iconst (v := 0) hx hb dX12_earliest_1 (by decide) ?_
  refine k_put (ci := 12) (v := .int 0) (ty := .int) (C := RX12) (T := TX12) (N := 27) hx hb hts (fun _ h0_ => List.mem_cons_of_mem _ (List.mem_append_right _ (List.mem_append_left _ h0_))) tyX12 tyX12_ok nmX12 hown hK hI hS i_h0.1 hc0 rfl 0 (by decide) (hts (.fieldLink RX12 67 "DeadlineShareModel" "thrown" "I") (List.mem_cons_of_mem _ (List.mem_append_left _ (List.mem_of_getElem? (i := 0) rfl)))) (fun _ h9 => h9) rfl (by decide +kernel) rfl rfl (Nat.le_of_ble_eq_true rfl) rfl (cl_12 i_h0 (by omega) (by omega) (by omega)) dX12_earliest_2 (fun f_6 H locs e_7 hI hS => ?_)
  have k_9 : f_6 h0 = .inr (12, [.int 0, .int z1, .ref (gr g h0 2), .ref (gr g h0 3), .ref (gr g h0 4), .ref (gr g h0 5), .ref (gr g h0 6), .ref (gr g h0 7), .ref (gr g h0 8), .ref (gr g h0 9), .int z10, .ref (gr g h0 11), .int z12, .int z13, .int z14, .int z15, .long z16, .int z17, .int z18, .ref (gr g h0 19), .ref (gr g h0 20), .ref (gr g h0 21), .ref (gr g h0 22), .int z23, .long z24, .long z25, .long z26]) := by rw [e_7]; exact va_up_self _ _ _
  have k_10 : f_6 (gr g h0 4) = .inl (gc g 1, 906, .inr (.inl q)) := by rw [e_7, va_up_ne _ _ (ik_ne i_1 i_h0 (by decide))]; exact hc1
  have k_11 : f_6 (gr g h0 5) = .inl (gc g 1, 9060, .inr (.inl u)) := by rw [e_7, va_up_ne _ _ (ik_ne i_3 i_h0 (by decide))]; exact hc2
  have k_12 : f_6 (gr g h0 7) = .inl (gc g 1, 1812, .inr (.inl im)) := by rw [e_7, va_up_ne _ _ (ik_ne i_4 i_h0 (by decide))]; exact hc3
  have k_13 : f_6 (gr g h0 8) = .inl (gc g 3, 2, .inl kt) := by rw [e_7, va_up_ne _ _ (ik_ne i_5 i_h0 (by decide))]; exact hc4
  have kp_8 := Kp.put hk0 i_h0 (by decide) e_7
  refine lv_iconst (v := (-1)) hx hb dX12_earliest_5 (by decide) ?_
  refine lv_istore_n (lv' := [(2, .int (-1)), (0, .ref h0), (1, .int p1)]) hx hb dX12_earliest_6 rfl hl (by decide) rfl (fun ls hl => ?_)
  refine lv_iconst (v := 0) hx hb dX12_earliest_7 (by decide) ?_
  refine lv_istore_n (lv' := [(3, .int 0), (2, .int (-1)), (0, .ref h0), (1, .int p1)]) hx hb dX12_earliest_8 rfl hl (by decide) rfl (fun ls hl => ?_)
  have K_9 : ∀ (nn : Nat) (y_14 : Nat) (y_15 : Int32) (H : Heap) (locs : List Loc) (ls : Array Slot), 12 - y_14 < nn → Iv dC dI g A f_6 H → va_S A s.heap H locs → (y_14 ≤ 12) → lv_has ls 4 [(3, .int (nI y_14)), (2, .int y_15), (0, .ref h0), (1, .int p1)] → W p l e (headSpec wq_c_X12_earliest ({ frames := 5, cells := 0, slots := 0, locals := 108 } : Room)).room s m ([.ref h0, .int p1].toArray) below meth c H locs 0 0 (MQ below (va_Qi (fun (r : Int32) (_ : Unit) => True) (fun (_ : Unit) t => ∃ f1 : Nat → va_E, Iv dC dI g A f1 t.heap ∧ Kp g [12] f f1 ∧ ∃ (w0 : Int32) (w1 : Int32) (w10 : Int32) (w12 : Int32) (w13 : Int32) (w14 : Int32) (w15 : Int32) (w16 : Int64) (w17 : Int32) (w18 : Int32) (w23 : Int32) (w24 : Int64) (w25 : Int64) (w26 : Int64) (q1 : Nat → Int64) (u1 : Nat → Int64) (im1 : Nat → Int64) (ik1 : Nat → Int32), (f1 h0 = .inr (12, [.int w0, .int w1, .ref (gr g h0 2), .ref (gr g h0 3), .ref (gr g h0 4), .ref (gr g h0 5), .ref (gr g h0 6), .ref (gr g h0 7), .ref (gr g h0 8), .ref (gr g h0 9), .int w10, .ref (gr g h0 11), .int w12, .int w13, .int w14, .int w15, .long w16, .int w17, .int w18, .ref (gr g h0 19), .ref (gr g h0 20), .ref (gr g h0 21), .ref (gr g h0 22), .int w23, .long w24, .long w25, .long w26])) ∧ (0 ≤ w10.toInt ∧ w10.toInt ≤ 10) ∧ (0 ≤ w12.toInt ∧ w12.toInt ≤ 200) ∧ (0 ≤ w23.toInt ∧ w23.toInt ≤ 8) ∧ (f1 (gr g h0 4) = .inl (gc g 1, 906, .inr (.inl q1))) ∧ (RowOK q1) ∧ (f1 (gr g h0 5) = .inl (gc g 1, 9060, .inr (.inl u1))) ∧ (f1 (gr g h0 7) = .inl (gc g 1, 1812, .inr (.inl im1))) ∧ (f1 (gr g h0 8) = .inl (gc g 3, 2, .inl ik1)) ∧ (UIq w10 u1 im1 ik1)) A) ([.ref h0, .int p1].toArray) s 0 0 A) (F0 m 9 ls []) := by
    intro nn
    induction nn with
    | zero => intro y_14 y_15 H locs ls m_17; exact absurd m_17 (Nat.not_lt_zero _)
    | succ nn ih =>
      intro y_14 y_15 H locs ls m_17 hI hS t_16 hl
      refine lv_iload_n hx hb dX12_earliest_9 rfl (lv_at hl 0 rfl) ?_
      refine lv_i2l (v := lN (y_14)) hx hb dX12_earliest_10 (nI_l (by omega)) ?_
      refine lv_aload_n hx hb dX12_earliest_11 rfl (lv_at hl 2 rfl) ?_
      refine k_get (ci := 12) (v := .ref (gr g h0 4)) (C := RX12) (T := TX12) (N := 27) hx hb hts (fun _ h0_ => List.mem_cons_of_mem _ (List.mem_append_right _ (List.mem_append_left _ h0_))) hown hK hI i_h0.1 k_9 rfl 4 (by decide) (hts (.fieldLink RX12 16 "DeadlineShareModel" "row" "[J") (List.mem_cons_of_mem _ (List.mem_append_left _ (List.mem_of_getElem? (i := 1) rfl)))) (fun _ h9 => h9) rfl dX12_earliest_12 ?_
      refine lv_iconst (v := 0) hx hb dX12_earliest_15 (by decide) ?_
      refine k_lald hx hb hK hI i_1.1 1 k_10 rfl (by unfold vp_in; decide) dX12_earliest_16 ?_
      refine k_topl (y := q 0) (congrArg q (show Int32.toNatClampNeg 0 = 0 by decide)) ?_
      refine W.lcmp hx hb dX12_earliest_17 ?_
      refine lv_if_ge (tgt := 50) hx hb dX12_earliest_18 (by decide) (fun c_20 => ?_) (fun c_20 => ?_)
      · have c_20 := lc_le rfl (lN_toInt (n := y_14) (by omega)) ((lg_cmp_ge _ _).mp c_20)
        refine lv_iload_n hx hb dX12_earliest_50 rfl (lv_at hl 1 rfl) ?_
        exact W.iret (v := y_15) hx hb hr (fun t ht hW => ⟨⟨y_15, (), rfl, trivial, ⟨f_6, k_ret ht hI, kp_8, 0, z1, z10, z12, z13, z14, z15, z16, z17, z18, z23, z24, z25, z26, q, u, im, kt, k_9, (by first | omega | decide), (by first | omega | decide), (by first | omega | decide), k_10, hc1_ok, k_11, k_12, k_13, hU⟩⟩, hS.F ht⟩) hS.2.2 dX12_earliest_51
      · have c_20 := ln_le rfl (lN_toInt (n := y_14) (by omega)) (fun h9 => c_20 ((lg_cmp_ge _ _).mpr h9))
        refine lv_aload_n hx hb dX12_earliest_21 rfl (lv_at hl 2 rfl) ?_
        refine lv_iload_n hx hb dX12_earliest_22 rfl (lv_at hl 0 rfl) ?_
        refine va_calli (va_runV (As := [.int (nI y_14)]) (rest := []) ⟨hx, hb, hml, hown, hts⟩ (c_X12_isEligible l dC dI g A hG f_6 h0 y_14 q i_h0 k_10 hc1_ok (by first | omega | decide | (simp only [k_c0, k_c1, k_cm1]; omega))) (cwV 1 hts (gi_V (fun w_ h0_ => ⟨List.mem_cons_of_mem _ (List.mem_append_right _ (List.mem_append_right _ (List.mem_append_left _ h0_))), (tb_c_X12_isEligible w_ h0_).2⟩) (List.mem_cons_of_mem _ (List.mem_append_left _ (List.mem_of_getElem? (i := 2) rfl))) (List.mem_cons_of_mem _ (List.mem_append_left _ (List.mem_of_getElem? (i := 3) rfl))) (List.mem_cons_of_mem _ (List.mem_append_left _ (List.mem_of_getElem? (i := 4) rfl))) (List.mem_cons_of_mem _ (List.mem_append_left _ (List.mem_of_getElem? (i := 5) rfl)))) rfl rfl rfl (by decide +kernel) ⟨Nat.le_of_ble_eq_true rfl, Nat.le_of_ble_eq_true rfl⟩) ⟨fun a U g mk q => ⟨q.1, q.2.calling rfl rfl⟩, k_recv hK hI i_h0.1 k_9 (ci := 12) rfl, fun U hU hW => ⟨rfl, kIn.of hI hK hE hS hU hW⟩⟩ rfl rfl hl.1 rfl (lv_room (Nat.le_of_ble_eq_true rfl)) dX12_earliest_23 ⟨Nat.le_of_ble_eq_true rfl, Nat.le_of_ble_eq_true rfl⟩) hS (fun q _ h => h) (fun q h => h) (fun r_22 u t H1 locs ht hvm w_21 hB hz1 hk1 hS => ?_)
        have hI : Iv dC dI g A f_6 t.heap := hB
        rw [ht] at hI
        generalize H1 = H at hI hS ⊢
        refine W.widen (k := 0) (n := 0) (Nat.le_of_ble_eq_true rfl) (Nat.le_of_ble_eq_true rfl) ?_
        have J_43 : ∀ (y_23 : Int32) (H : Heap) (locs : List Loc) (ls : Array Slot), Iv dC dI g A f_6 H → va_S A s.heap H locs → lv_has ls 4 [(3, .int (nI y_14)), (2, .int y_15), (0, .ref h0), (1, .int p1)] → W p l e (headSpec wq_c_X12_earliest ({ frames := 5, cells := 0, slots := 0, locals := 108 } : Room)).room s m ([.ref h0, .int p1].toArray) below meth c H locs 0 0 (MQ below (va_Qi (fun (r : Int32) (_ : Unit) => True) (fun (_ : Unit) t => ∃ f1 : Nat → va_E, Iv dC dI g A f1 t.heap ∧ Kp g [12] f f1 ∧ ∃ (w0 : Int32) (w1 : Int32) (w10 : Int32) (w12 : Int32) (w13 : Int32) (w14 : Int32) (w15 : Int32) (w16 : Int64) (w17 : Int32) (w18 : Int32) (w23 : Int32) (w24 : Int64) (w25 : Int64) (w26 : Int64) (q1 : Nat → Int64) (u1 : Nat → Int64) (im1 : Nat → Int64) (ik1 : Nat → Int32), (f1 h0 = .inr (12, [.int w0, .int w1, .ref (gr g h0 2), .ref (gr g h0 3), .ref (gr g h0 4), .ref (gr g h0 5), .ref (gr g h0 6), .ref (gr g h0 7), .ref (gr g h0 8), .ref (gr g h0 9), .int w10, .ref (gr g h0 11), .int w12, .int w13, .int w14, .int w15, .long w16, .int w17, .int w18, .ref (gr g h0 19), .ref (gr g h0 20), .ref (gr g h0 21), .ref (gr g h0 22), .int w23, .long w24, .long w25, .long w26])) ∧ (0 ≤ w10.toInt ∧ w10.toInt ≤ 10) ∧ (0 ≤ w12.toInt ∧ w12.toInt ≤ 200) ∧ (0 ≤ w23.toInt ∧ w23.toInt ≤ 8) ∧ (f1 (gr g h0 4) = .inl (gc g 1, 906, .inr (.inl q1))) ∧ (RowOK q1) ∧ (f1 (gr g h0 5) = .inl (gc g 1, 9060, .inr (.inl u1))) ∧ (f1 (gr g h0 7) = .inl (gc g 1, 1812, .inr (.inl im1))) ∧ (f1 (gr g h0 8) = .inl (gc g 3, 2, .inl ik1)) ∧ (UIq w10 u1 im1 ik1)) A) ([.ref h0, .int p1].toArray) s 0 0 A) (F0 m 43 ls [.int y_23]) := by
          intro y_23 H locs ls hI hS  hl
          refine lv_istore_n (lv' := [(2, .int y_23), (3, .int (nI y_14)), (0, .ref h0), (1, .int p1)]) hx hb dX12_earliest_43 rfl hl (by decide) rfl (fun ls hl => ?_)
          refine lv_iinc (v := nI (y_14 + 1)) (lv' := [(3, .int (nI (y_14 + 1))), (2, .int y_23), (0, .ref h0), (1, .int p1)]) hx hb dX12_earliest_44 hl (k := 1) rfl (nI_1 _) (by decide) rfl (fun ls hl => ?_)
          refine lv_goto (tgt := 9) hx hb dX12_earliest_47 (by decide) ?_
          exact ih (y_14 + 1) y_23 _ _ _ (by omega) hI hS (by first | omega | decide) (lv_sub hl [0, 1, 2, 3] rfl)
        have J_42 : ∀ (H : Heap) (locs : List Loc) (ls : Array Slot), Iv dC dI g A f_6 H → va_S A s.heap H locs → lv_has ls 4 [(3, .int (nI y_14)), (2, .int y_15), (0, .ref h0), (1, .int p1)] → W p l e (headSpec wq_c_X12_earliest ({ frames := 5, cells := 0, slots := 0, locals := 108 } : Room)).room s m ([.ref h0, .int p1].toArray) below meth c H locs 0 0 (MQ below (va_Qi (fun (r : Int32) (_ : Unit) => True) (fun (_ : Unit) t => ∃ f1 : Nat → va_E, Iv dC dI g A f1 t.heap ∧ Kp g [12] f f1 ∧ ∃ (w0 : Int32) (w1 : Int32) (w10 : Int32) (w12 : Int32) (w13 : Int32) (w14 : Int32) (w15 : Int32) (w16 : Int64) (w17 : Int32) (w18 : Int32) (w23 : Int32) (w24 : Int64) (w25 : Int64) (w26 : Int64) (q1 : Nat → Int64) (u1 : Nat → Int64) (im1 : Nat → Int64) (ik1 : Nat → Int32), (f1 h0 = .inr (12, [.int w0, .int w1, .ref (gr g h0 2), .ref (gr g h0 3), .ref (gr g h0 4), .ref (gr g h0 5), .ref (gr g h0 6), .ref (gr g h0 7), .ref (gr g h0 8), .ref (gr g h0 9), .int w10, .ref (gr g h0 11), .int w12, .int w13, .int w14, .int w15, .long w16, .int w17, .int w18, .ref (gr g h0 19), .ref (gr g h0 20), .ref (gr g h0 21), .ref (gr g h0 22), .int w23, .long w24, .long w25, .long w26])) ∧ (0 ≤ w10.toInt ∧ w10.toInt ≤ 10) ∧ (0 ≤ w12.toInt ∧ w12.toInt ≤ 200) ∧ (0 ≤ w23.toInt ∧ w23.toInt ≤ 8) ∧ (f1 (gr g h0 4) = .inl (gc g 1, 906, .inr (.inl q1))) ∧ (RowOK q1) ∧ (f1 (gr g h0 5) = .inl (gc g 1, 9060, .inr (.inl u1))) ∧ (f1 (gr g h0 7) = .inl (gc g 1, 1812, .inr (.inl im1))) ∧ (f1 (gr g h0 8) = .inl (gc g 3, 2, .inl ik1)) ∧ (UIq w10 u1 im1 ik1)) A) ([.ref h0, .int p1].toArray) s 0 0 A) (F0 m 42 ls []) := by
          intro H locs ls hI hS  hl
          refine lv_iload_n hx hb dX12_earliest_42 rfl (lv_at hl 1 rfl) ?_
          exact J_43 y_15 _ _ _ hI hS  (lv_sub hl [0, 1, 2, 3] rfl)
        refine lv_if_eq (tgt := 42) hx hb dX12_earliest_26 (by decide) (fun c_24 => ?_) (fun c_24 => ?_)
        · have c_24 := kc_eq rfl (by decide : Int32.toInt 0 = 0) c_24
          exact J_42  _ _ _ hI hS  (lv_sub hl [0, 1, 2, 3] rfl)
        · have c_24 := kn_eq rfl (by decide : Int32.toInt 0 = 0) c_24
          refine lv_aload_n hx hb dX12_earliest_29 rfl (lv_at hl 2 rfl) ?_
          refine lv_iload_n hx hb dX12_earliest_30 rfl (lv_at hl 0 rfl) ?_
          refine va_calli (va_runV (As := [.int (nI y_14)]) (rest := []) ⟨hx, hb, hml, hown, hts⟩ (c_X12_aheadOf l dC dI g A hG f_6 h0 y_14 q i_h0 k_10 hc1_ok (by first | omega | decide | (simp only [k_c0, k_c1, k_cm1]; omega))) (cwV 1 hts (gi_V (fun w_ h0_ => ⟨List.mem_cons_of_mem _ (List.mem_append_right _ (List.mem_append_right _ (List.mem_append_right _ (List.mem_append_left _ h0_)))), (tb_c_X12_aheadOf w_ h0_).2⟩) (List.mem_cons_of_mem _ (List.mem_append_left _ (List.mem_of_getElem? (i := 6) rfl))) (List.mem_cons_of_mem _ (List.mem_append_left _ (List.mem_of_getElem? (i := 7) rfl))) (List.mem_cons_of_mem _ (List.mem_append_left _ (List.mem_of_getElem? (i := 8) rfl))) (List.mem_cons_of_mem _ (List.mem_append_left _ (List.mem_of_getElem? (i := 5) rfl)))) rfl rfl rfl (by decide +kernel) ⟨Nat.le_of_ble_eq_true rfl, Nat.le_of_ble_eq_true rfl⟩) ⟨fun a U g mk q => ⟨q.1, q.2.calling rfl rfl⟩, k_recv hK hI i_h0.1 k_9 (ci := 12) rfl, fun U hU hW => ⟨rfl, kIn.of hI hK hE hS hU hW⟩⟩ rfl rfl hl.1 rfl (lv_room (Nat.le_of_ble_eq_true rfl)) dX12_earliest_31 ⟨Nat.le_of_ble_eq_true rfl, Nat.le_of_ble_eq_true rfl⟩) hS (fun q _ h => h) (fun q h => h) (fun r_26 u t H1 locs ht hvm w_25 hB hz1 hk1 hS => ?_)
          have hI : Iv dC dI g A f_6 t.heap := hB
          rw [ht] at hI
          generalize H1 = H at hI hS ⊢
          refine W.widen (k := 0) (n := 0) (Nat.le_of_ble_eq_true rfl) (Nat.le_of_ble_eq_true rfl) ?_
          refine lv_iload_n hx hb dX12_earliest_34 rfl (lv_at hl 3 rfl) ?_
          refine lv_icmp_ne (tgt := 42) hx hb dX12_earliest_35 (by decide) (fun c_27 => ?_) (fun c_27 => ?_)
          · have c_27 := kn_eq rfl rfl c_27
            exact J_42  _ _ _ hI hS  (lv_sub hl [0, 1, 2, 3] rfl)
          · have c_27 := kc_eq rfl rfl c_27
            refine lv_iload_n hx hb dX12_earliest_38 rfl (lv_at hl 0 rfl) ?_
            refine lv_goto (tgt := 43) hx hb dX12_earliest_39 (by decide) ?_
            have g_28 := nI_toInt (n := y_14) (by omega)
            exact J_43 (nI y_14) _ _ _ hI hS  (lv_sub hl [0, 1, 2, 3] rfl)
  exact K_9 _ 0 (-1) _ _ _ (Nat.lt_succ_self _) hI hS (by first | omega | decide | (simp only [show Int32.toInt (-1) = (-1) from by decide]; omega)) (lv_sub hl [0, 1, 2, 3] rfl)
