theorem tw_910 : q_g (.code yX12_logAt cX12_logAt 5 (some .int)) := ⟨(List.mem_append_right _ (List.mem_of_getElem? (i := 1478) (by decide +kernel))), good_of_word (by decide +kernel)⟩
def ow_c_X12_logAt : List Cond := [.fieldLink RX12 16 "DeadlineShareModel" "row" "[J", .methodLink RX12 83 yX12_in, .static yX12_in, .initialized RX12]
def wq_c_X12_logAt : List Cond := .code yX12_logAt cX12_logAt 5 (some .int) :: (ow_c_X12_logAt ++ (u_ws RX12 TX12 27 ++ (wq_c_X12_in ++ ([] : List Cond))))
theorem tb_c_X12_logAt : ∀ w ∈ wq_c_X12_logAt, q_g w := by
  unfold wq_c_X12_logAt ow_c_X12_logAt
  exact q_cons tw_910 (q_app (q_cons tw_731 (q_cons tw_730 (q_cons tw_729 (q_cons tw_728 q_nil)))) (q_app tu_X12 (q_app tb_c_X12_in q_nil)))
set_option maxHeartbeats 4000000 in
set_option maxRecDepth 100000 in
theorem c_X12_logAt (l : Launch) (dC : Nat → ClassId) (dI : Nat → Nat → Nat) (g : kG) (A : Nat → Prop) (hG : kWf g) (f : Nat → va_E) (h0 : Nat) (p1 : Int64) (q : Nat → Int64) (i_h0 : ik g 12 h0) (hc0 : f (gr g h0 4) = .inl (gc g 1, 906, .inr (.inl q))) (hc0_ok : RowOK q) : Met l yX12_logAt wq_c_X12_logAt ({ frames := 1, cells := 0, slots := 0, locals := 25 } : Room) (va_Pc [.ref h0, .long p1] (fun U => kIn dC dI g A f U)) (va_Qi (fun (r : Int32) (_ : Unit) => LAp q p1.toInt r) (fun (_ : Unit) t => Iv dC dI g A f t.heap) A) 0 0 A := by
  refine Met.ofW (cc := cX12_logAt) (maxL := 5) (ret := (some .int)) (by decide) rfl ?_
  intro p e s m args below meth c s₁ B hml hv
  obtain ⟨rfl, hI, hK, hE⟩ := hv
  have hx := B.exec
  have hb := B.bytes
  have hr := B.returns
  have hts := atoms_spec (ws := wq_c_X12_logAt) B.pre
  have hown : s.vm.findClass RX12 = some m.cls := findClass_of_methodNamed B.named
  have hlocks := B.notSynchronized
  have hS : va_S A s.heap s.heap [] := va_S.rf
  have hl := lv_entry ([.ref h0, .long p1]) (n := 5) (Nat.le_of_ble_eq_true rfl)
  rw [lg_entry_eq]
  generalize (lg_sl ([.ref h0, .long p1]) ++ List.replicate (5 - (lg_sl ([.ref h0, .long p1])).length) Slot.unset).toArray = ls at hl ⊢
  have hl : lv_has ls 5 [(0, .ref h0), (1, .long p1)] := hl
  have i_1 := kw_12_4 hG i_h0
  have d_2 := rk_hd hc0_ok
  refine lv_aload_n hx hb dX12_logAt_0 rfl (lv_at hl 0 rfl) ?_
  obtain ⟨x_4, x_5, x_6, x_7, x_8, x_9, x_10, x_11, x_12, x_13, x_14, x_15, x_16, x_17, k_3, b_18, b_19, b_20, b_21, b_22, b_23⟩ := op_12 hI i_h0
  refine k_get (ci := 12) (v := .ref (gr g h0 4)) (C := RX12) (T := TX12) (N := 27) hx hb hts (fun _ h0_ => List.mem_cons_of_mem _ (List.mem_append_right _ (List.mem_append_left _ h0_))) hown hK hI i_h0.1 k_3 rfl 4 (by decide) (hts (.fieldLink RX12 16 "DeadlineShareModel" "row" "[J") (List.mem_cons_of_mem _ (List.mem_append_left _ (List.mem_of_getElem? (i := 0) rfl)))) (fun _ h9 => h9) rfl dX12_logAt_1 ?_
  refine lv_iconst (v := 1) hx hb dX12_logAt_4 (by decide) ?_
  refine k_lald hx hb hK hI i_1.1 1 hc0 rfl (by unfold vp_in; decide) dX12_logAt_5 ?_
  refine k_topl (y := q 1) (congrArg q (show Int32.toNatClampNeg 1 = 1 by decide)) ?_
  refine lv_aload_n hx hb dX12_logAt_6 rfl (lv_at hl 0 rfl) ?_
  refine k_get (ci := 12) (v := .ref (gr g h0 4)) (C := RX12) (T := TX12) (N := 27) hx hb hts (fun _ h0_ => List.mem_cons_of_mem _ (List.mem_append_right _ (List.mem_append_left _ h0_))) hown hK hI i_h0.1 k_3 rfl 4 (by decide) (hts (.fieldLink RX12 16 "DeadlineShareModel" "row" "[J") (List.mem_cons_of_mem _ (List.mem_append_left _ (List.mem_of_getElem? (i := 0) rfl)))) (fun _ h9 => h9) rfl dX12_logAt_7 ?_
  refine lv_iconst (v := 5) hx hb dX12_logAt_10 (by decide) ?_
  refine k_lald hx hb hK hI i_1.1 1 hc0 rfl (by unfold vp_in; decide) dX12_logAt_11 ?_
  refine k_topl (y := q 5) (congrArg q (show Int32.toNatClampNeg 5 = 5 by decide)) ?_
  refine lv_lsub hx hb dX12_logAt_12 ?_
  refine lv_topl (fun v_28 ev_28 => ?_)
  have tv_28 := l_sb (q 1) (q 5)
  rw [← ev_28] at tv_28
  refine lv_lstore_n (lv' := [(3, .long v_28), (0, .ref h0), (1, .long p1)]) hx hb dX12_logAt_13 rfl hl (by decide) rfl (fun ls hl => ?_)
  refine lv_lload_n hx hb dX12_logAt_14 rfl (lv_at hl 2 rfl) ?_
  refine lv_lload_n hx hb dX12_logAt_15 rfl (lv_at hl 0 rfl) ?_
  refine lv_aload_n hx hb dX12_logAt_16 rfl (lv_at hl 1 rfl) ?_
  refine k_get (ci := 12) (v := .ref (gr g h0 4)) (C := RX12) (T := TX12) (N := 27) hx hb hts (fun _ h0_ => List.mem_cons_of_mem _ (List.mem_append_right _ (List.mem_append_left _ h0_))) hown hK hI i_h0.1 k_3 rfl 4 (by decide) (hts (.fieldLink RX12 16 "DeadlineShareModel" "row" "[J") (List.mem_cons_of_mem _ (List.mem_append_left _ (List.mem_of_getElem? (i := 0) rfl)))) (fun _ h9 => h9) rfl dX12_logAt_17 ?_
  refine lv_iconst (v := 1) hx hb dX12_logAt_20 (by decide) ?_
  refine k_lald hx hb hK hI i_1.1 1 hc0 rfl (by unfold vp_in; decide) dX12_logAt_21 ?_
  refine k_topl (y := q 1) (congrArg q (show Int32.toNatClampNeg 1 = 1 by decide)) ?_
  refine lv_lconst (v := 1) hx hb dX12_logAt_22 (by decide) ?_
  refine lv_lsub hx hb dX12_logAt_23 ?_
  refine lv_topl (fun v_31 ev_31 => ?_)
  have tv_31 := l_sb (q 1) 1
  rw [← ev_31, show Int64.toInt 1 = 1 from by decide] at tv_31
  refine va_calli (va_runS (As := [.long p1, .long v_28, .long v_31]) (rest := []) ⟨hx, hb, hml, hown, hts⟩ (c_X12_in l dC dI g A hG f p1 v_28 v_31) (va_cwS 3 hts (gi_S (fun w_ h0_ => ⟨List.mem_cons_of_mem _ (List.mem_append_right _ (List.mem_append_right _ (List.mem_append_left _ h0_))), (tb_c_X12_in w_ h0_).2⟩) (List.mem_cons_of_mem _ (List.mem_append_left _ (List.mem_of_getElem? (i := 1) rfl))) (List.mem_cons_of_mem _ (List.mem_append_left _ (List.mem_of_getElem? (i := 2) rfl))) (List.mem_cons_of_mem _ (List.mem_append_left _ (List.mem_of_getElem? (i := 3) rfl)))) rfl rfl rfl (by decide +kernel) ⟨Nat.le_of_ble_eq_true rfl, Nat.le_of_ble_eq_true rfl⟩) ⟨fun a U g mk q => ⟨q.1, q.2.calling rfl rfl⟩, fun U hU hW => ⟨rfl, kIn.of hI hK hE hS hU hW⟩⟩ rfl rfl hl.1 rfl (lv_room (Nat.le_of_ble_eq_true rfl)) dX12_logAt_24 ⟨Nat.le_of_ble_eq_true rfl, Nat.le_of_ble_eq_true rfl⟩) hS (fun q _ h => h) (fun q h => h) (fun r_33 u t H1 locs ht hvm w_32 hB hz1 hk1 hS => ?_)
  have hI : Iv dC dI g A f t.heap := hB
  rw [ht] at hI
  generalize H1 = H at hI hS ⊢
  refine W.widen (k := 0) (n := 0) (Nat.le_of_ble_eq_true rfl) (Nat.le_of_ble_eq_true rfl) ?_
  have w_32 : (r_33.toInt = 0 ∧ (p1.toInt < v_28.toInt ∨ v_31.toInt < p1.toInt)) ∨ (r_33.toInt = 1 ∧ v_28.toInt ≤ p1.toInt ∧ p1.toInt ≤ v_31.toInt) := w_32
  refine lv_if_eq (tgt := 43) hx hb dX12_logAt_27 (by decide) (fun c_34 => ?_) (fun c_34 => ?_)
  · have c_34 := kc_eq rfl (by decide : Int32.toInt 0 = 0) c_34
    refine lv_iconst (v := (-1)) hx hb dX12_logAt_43 (by decide) ?_
    exact W.iret (v := (-1)) hx hb hr (fun t ht hW => ⟨⟨(-1), (), rfl, (Or.inl ⟨by decide, by omega⟩), k_ret ht hI⟩, hS.F ht⟩) hS.2.2 dX12_logAt_44
  · have c_34 := kn_eq rfl (by decide : Int32.toInt 0 = 0) c_34
    refine lv_sipush (v := 522) hx hb dX12_logAt_30 (by decide) ?_
    refine lv_iconst (v := 3) hx hb dX12_logAt_33 (by decide) ?_
    refine lv_lload_n hx hb dX12_logAt_34 rfl (lv_at hl 2 rfl) ?_
    refine lv_lload_n hx hb dX12_logAt_35 rfl (lv_at hl 0 rfl) ?_
    refine lv_lsub hx hb dX12_logAt_36 ?_
    refine lv_topl (fun v_35 ev_35 => ?_)
    have tv_35 := l_sb p1 v_28
    rw [← ev_35] at tv_35
    refine lv_l2i (v := v_35.toInt32) hx hb dX12_logAt_37 rfl ?_
    refine lv_topi (fun v_36 ev_36 => ?_)
    have tv_36 := k_l2i v_35
    rw [← ev_36] at tv_36
    obtain ⟨m_37, em_37, tm_37⟩ := k_nat (x := v_36) (by omega)
    refine k_topi (y := nI m_37) em_37 ?_
    refine lv_imul hx hb dX12_logAt_38 ?_
    refine k_topi (y := nI (3 * m_37)) ((pk_mul 3 m_37).trans (congrArg nI (by omega))) ?_
    refine lv_iadd hx hb dX12_logAt_39 ?_
    refine k_topi (y := nI (522 + 3 * m_37)) ((nI_add 522 (3 * m_37)).trans (congrArg nI (by omega))) ?_
    refine lv_goto (tgt := 44) hx hb dX12_logAt_40 (by decide) ?_
    exact W.iret (v := (nI (522 + 3 * m_37))) hx hb hr (fun t ht hW => ⟨⟨nI (522 + 3 * m_37), (), rfl, (Or.inr ⟨by omega, by omega, m_37, rfl, by omega⟩), k_ret ht hI⟩, hS.F ht⟩) hS.2.2 dX12_logAt_44
theorem tw_911 : q_g (.selects RX12 yX12_logAt yX12_logAt) := ⟨(List.mem_append_left _ (List.mem_of_getElem? (i := 59) (by decide +kernel))), good_of_word (by decide +kernel)⟩
theorem tw_912 : q_g (.instanceMethod yX12_logAt) := ⟨(List.mem_append_right _ (List.mem_of_getElem? (i := 1477) (by decide +kernel))), good_of_word (by decide +kernel)⟩
theorem tw_913 : q_g (.methodLink RX12 296 yX12_logAt) := ⟨(List.mem_append_right _ (List.mem_of_getElem? (i := 1475) (by decide +kernel))), good_of_word (by decide +kernel)⟩
theorem tw_914 : q_g (.code yX12_areKept cX12_areKept 3 (some .boolean)) := ⟨(List.mem_append_right _ (List.mem_of_getElem? (i := 1486) (by decide +kernel))), good_of_word (by decide +kernel)⟩
def ow_c_X12_areKept : List Cond := [.methodLink RX12 296 yX12_logAt, .instanceMethod yX12_logAt, .selects RX12 yX12_logAt yX12_logAt, .initialized RX12]
def wq_c_X12_areKept : List Cond := .code yX12_areKept cX12_areKept 3 (some .boolean) :: (ow_c_X12_areKept ++ (wq_c_X12_logAt ++ ([] : List Cond)))
theorem tb_c_X12_areKept : ∀ w ∈ wq_c_X12_areKept, q_g w := by
  unfold wq_c_X12_areKept ow_c_X12_areKept
  exact q_cons tw_914 (q_app (q_cons tw_913 (q_cons tw_912 (q_cons tw_911 (q_cons tw_728 q_nil)))) (q_app tb_c_X12_logAt q_nil))
set_option maxHeartbeats 4000000 in
set_option maxRecDepth 100000 in
theorem c_X12_areKept (l : Launch) (dC : Nat → ClassId) (dI : Nat → Nat → Nat) (g : kG) (A : Nat → Prop) (hG : kWf g) (f : Nat → va_E) (h0 : Nat) (p1 : Int32) (p2 : Int32) (q : Nat → Int64) (i_h0 : ik g 12 h0) (hc0 : f (gr g h0 4) = .inl (gc g 1, 906, .inr (.inl q))) (hc0_ok : RowOK q) : Met l yX12_areKept wq_c_X12_areKept ({ frames := 2, cells := 0, slots := 0, locals := 49 } : Room) (va_Pc [.ref h0, .int p1, .int p2] (fun U => kIn dC dI g A f U)) (va_Qi (fun (r : Int32) (_ : Unit) => r.toInt = 0 ∨ p1.toInt = p2.toInt ∨ (p1.toInt < p2.toInt ∧ (q 1).toInt - (q 5).toInt ≤ p1.toInt ∧ p2.toInt ≤ (q 1).toInt)) (fun (_ : Unit) t => Iv dC dI g A f t.heap) A) 0 0 A := by
  refine Met.ofW (cc := cX12_areKept) (maxL := 3) (ret := (some .boolean)) (by decide) rfl ?_
  intro p e s m args below meth c s₁ B hml hv
  obtain ⟨rfl, hI, hK, hE⟩ := hv
  have hx := B.exec
  have hb := B.bytes
  have hr := B.returns
  have hts := atoms_spec (ws := wq_c_X12_areKept) B.pre
  have hown : s.vm.findClass RX12 = some m.cls := findClass_of_methodNamed B.named
  have hlocks := B.notSynchronized
  have hS : va_S A s.heap s.heap [] := va_S.rf
  have hl := lv_entry ([.ref h0, .int p1, .int p2]) (n := 3) (Nat.le_of_ble_eq_true rfl)
  rw [lg_entry_eq]
  generalize (lg_sl ([.ref h0, .int p1, .int p2]) ++ List.replicate (3 - (lg_sl ([.ref h0, .int p1, .int p2])).length) Slot.unset).toArray = ls at hl ⊢
  have hl : lv_has ls 3 [(0, .ref h0), (1, .int p1), (2, .int p2)] := hl
  have i_1 := kw_12_4 hG i_h0
  have d_2 := rk_hd hc0_ok
  refine lv_iload_n hx hb dX12_areKept_0 rfl (lv_at hl 1 rfl) ?_
  refine lv_iload_n hx hb dX12_areKept_1 rfl (lv_at hl 2 rfl) ?_
  refine lv_icmp_eq (tgt := 32) hx hb dX12_areKept_2 (by decide) (fun c_3 => ?_) (fun c_3 => ?_)
  · have c_3 := kc_eq rfl rfl c_3
    refine lv_iconst (v := 1) hx hb dX12_areKept_32 (by decide) ?_
    refine lv_goto (tgt := 37) hx hb dX12_areKept_33 (by decide) ?_
    have w_4 : (1 : Int32).toInt = 0 ∨ p1.toInt = p2.toInt ∨ (p1.toInt < p2.toInt ∧ (q 1).toInt - (q 5).toInt ≤ p1.toInt ∧ p2.toInt ≤ (q 1).toInt) := by rw [show Int32.toInt (1) = 1 from by decide]; omega
    exact W.zret (v := 1) hx hb hr rfl (fun t ht hW => ⟨⟨1, (), rfl, w_4, k_ret ht hI⟩, hS.F ht⟩) hS.2.2 dX12_areKept_37
  · have c_3 := kn_eq rfl rfl c_3
    refine lv_iload_n hx hb dX12_areKept_5 rfl (lv_at hl 1 rfl) ?_
    refine lv_iload_n hx hb dX12_areKept_6 rfl (lv_at hl 2 rfl) ?_
    refine lv_icmp_ge (tgt := 36) hx hb dX12_areKept_7 (by decide) (fun c_5 => ?_) (fun c_5 => ?_)
    · have c_5 := kc_le rfl rfl c_5
      refine lv_iconst (v := 0) hx hb dX12_areKept_36 (by decide) ?_
      have w_6 : (0 : Int32).toInt = 0 ∨ p1.toInt = p2.toInt ∨ (p1.toInt < p2.toInt ∧ (q 1).toInt - (q 5).toInt ≤ p1.toInt ∧ p2.toInt ≤ (q 1).toInt) := by rw [show Int32.toInt (0) = 0 from by decide]; omega
      exact W.zret (v := 0) hx hb hr rfl (fun t ht hW => ⟨⟨0, (), rfl, w_6, k_ret ht hI⟩, hS.F ht⟩) hS.2.2 dX12_areKept_37
    · have c_5 := kn_le rfl rfl c_5
      refine lv_aload_n hx hb dX12_areKept_10 rfl (lv_at hl 0 rfl) ?_
      refine lv_iload_n hx hb dX12_areKept_11 rfl (lv_at hl 1 rfl) ?_
      refine lv_i2l (v := p1.toInt64) hx hb dX12_areKept_12 rfl ?_
      have t_7 := Int32.toInt_toInt64 p1
      have g_8 := Int32.toInt_lt p1
      have g_9 := Int32.le_toInt p1
      obtain ⟨x_11, x_12, x_13, x_14, x_15, x_16, x_17, x_18, x_19, x_20, x_21, x_22, x_23, x_24, k_10, b_25, b_26, b_27, b_28, b_29, b_30⟩ := op_12 hI i_h0
      refine va_calli (va_runV (As := [.long p1.toInt64]) (rest := []) ⟨hx, hb, hml, hown, hts⟩ (c_X12_logAt l dC dI g A hG f h0 p1.toInt64 q i_h0 hc0 hc0_ok) (cwV 1 hts (gi_V (fun w_ h0_ => ⟨List.mem_cons_of_mem _ (List.mem_append_right _ (List.mem_append_left _ h0_)), (tb_c_X12_logAt w_ h0_).2⟩) (List.mem_cons_of_mem _ (List.mem_append_left _ (List.mem_of_getElem? (i := 0) rfl))) (List.mem_cons_of_mem _ (List.mem_append_left _ (List.mem_of_getElem? (i := 1) rfl))) (List.mem_cons_of_mem _ (List.mem_append_left _ (List.mem_of_getElem? (i := 2) rfl))) (List.mem_cons_of_mem _ (List.mem_append_left _ (List.mem_of_getElem? (i := 3) rfl)))) rfl rfl rfl (by decide +kernel) ⟨Nat.le_of_ble_eq_true rfl, Nat.le_of_ble_eq_true rfl⟩) ⟨fun a U g mk q => ⟨q.1, q.2.calling rfl rfl⟩, k_recv hK hI i_h0.1 k_10 (ci := 12) rfl, fun U hU hW => ⟨rfl, kIn.of hI hK hE hS hU hW⟩⟩ rfl rfl hl.1 rfl (lv_room (Nat.le_of_ble_eq_true rfl)) dX12_areKept_13 ⟨Nat.le_of_ble_eq_true rfl, Nat.le_of_ble_eq_true rfl⟩) hS (fun q _ h => h) (fun q h => h) (fun r_32 u t H1 locs ht hvm w_31 hB hz1 hk1 hS => ?_)
      have hI : Iv dC dI g A f t.heap := hB
      rw [ht] at hI
      generalize H1 = H at hI hS ⊢
      refine W.widen (k := 0) (n := 0) (Nat.le_of_ble_eq_true rfl) (Nat.le_of_ble_eq_true rfl) ?_
      have w_31 : LAp q p1.toInt64.toInt r_32 := w_31
      have d_33 := la_or w_31 (by omega)
      have d_34 := la_in w_31
      refine lv_iconst (v := (-1)) hx hb dX12_areKept_16 (by decide) ?_
      refine lv_icmp_eq (tgt := 36) hx hb dX12_areKept_17 (by decide) (fun c_35 => ?_) (fun c_35 => ?_)
      · have c_35 := kc_eq rfl (by decide : Int32.toInt (-1) = (-1)) c_35
        refine lv_iconst (v := 0) hx hb dX12_areKept_36 (by decide) ?_
        have w_36 : (0 : Int32).toInt = 0 ∨ p1.toInt = p2.toInt ∨ (p1.toInt < p2.toInt ∧ (q 1).toInt - (q 5).toInt ≤ p1.toInt ∧ p2.toInt ≤ (q 1).toInt) := by rw [show Int32.toInt (0) = 0 from by decide]; omega
        exact W.zret (v := 0) hx hb hr rfl (fun t ht hW => ⟨⟨0, (), rfl, w_36, k_ret ht hI⟩, hS.F ht⟩) hS.2.2 dX12_areKept_37
      · have c_35 := kn_eq rfl (by decide : Int32.toInt (-1) = (-1)) c_35
        refine lv_aload_n hx hb dX12_areKept_20 rfl (lv_at hl 0 rfl) ?_
        refine lv_iload_n hx hb dX12_areKept_21 rfl (lv_at hl 2 rfl) ?_
        refine lv_i2l (v := p2.toInt64) hx hb dX12_areKept_22 rfl ?_
        have t_37 := Int32.toInt_toInt64 p2
        have g_38 := Int32.toInt_lt p2
        have g_39 := Int32.le_toInt p2
        refine lv_lconst (v := 1) hx hb dX12_areKept_23 (by decide) ?_
        refine lv_lsub hx hb dX12_areKept_24 ?_
        refine lv_topl (fun v_40 ev_40 => ?_)
        have tv_40 := l_sb p2.toInt64 1
        rw [← ev_40, show Int64.toInt 1 = 1 from by decide] at tv_40
        refine va_calli (va_runV (As := [.long v_40]) (rest := []) ⟨hx, hb, hml, hown, hts⟩ (c_X12_logAt l dC dI g A hG f h0 v_40 q i_h0 hc0 hc0_ok) (cwV 1 hts (gi_V (fun w_ h0_ => ⟨List.mem_cons_of_mem _ (List.mem_append_right _ (List.mem_append_left _ h0_)), (tb_c_X12_logAt w_ h0_).2⟩) (List.mem_cons_of_mem _ (List.mem_append_left _ (List.mem_of_getElem? (i := 0) rfl))) (List.mem_cons_of_mem _ (List.mem_append_left _ (List.mem_of_getElem? (i := 1) rfl))) (List.mem_cons_of_mem _ (List.mem_append_left _ (List.mem_of_getElem? (i := 2) rfl))) (List.mem_cons_of_mem _ (List.mem_append_left _ (List.mem_of_getElem? (i := 3) rfl)))) rfl rfl rfl (by decide +kernel) ⟨Nat.le_of_ble_eq_true rfl, Nat.le_of_ble_eq_true rfl⟩) ⟨fun a U g mk q => ⟨q.1, q.2.calling rfl rfl⟩, k_recv hK hI i_h0.1 k_10 (ci := 12) rfl, fun U hU hW => ⟨rfl, kIn.of hI hK hE hS hU hW⟩⟩ rfl rfl hl.1 rfl (lv_room (Nat.le_of_ble_eq_true rfl)) dX12_areKept_25 ⟨Nat.le_of_ble_eq_true rfl, Nat.le_of_ble_eq_true rfl⟩) hS (fun q _ h => h) (fun q h => h) (fun r_42 u t H1 locs ht hvm w_41 hB hz1 hk1 hS => ?_)
        have hI : Iv dC dI g A f t.heap := hB
        rw [ht] at hI
        generalize H1 = H at hI hS ⊢
        refine W.widen (k := 0) (n := 0) (Nat.le_of_ble_eq_true rfl) (Nat.le_of_ble_eq_true rfl) ?_
        have w_41 : LAp q v_40.toInt r_42 := w_41
        have d_43 := la_or w_41 (by omega)
        have d_44 := la_in w_41
        refine lv_iconst (v := (-1)) hx hb dX12_areKept_28 (by decide) ?_
        refine lv_icmp_eq (tgt := 36) hx hb dX12_areKept_29 (by decide) (fun c_45 => ?_) (fun c_45 => ?_)
        · have c_45 := kc_eq rfl (by decide : Int32.toInt (-1) = (-1)) c_45
          refine lv_iconst (v := 0) hx hb dX12_areKept_36 (by decide) ?_
          have w_46 : (0 : Int32).toInt = 0 ∨ p1.toInt = p2.toInt ∨ (p1.toInt < p2.toInt ∧ (q 1).toInt - (q 5).toInt ≤ p1.toInt ∧ p2.toInt ≤ (q 1).toInt) := by rw [show Int32.toInt (0) = 0 from by decide]; omega
          exact W.zret (v := 0) hx hb hr rfl (fun t ht hW => ⟨⟨0, (), rfl, w_46, k_ret ht hI⟩, hS.F ht⟩) hS.2.2 dX12_areKept_37
        · have c_45 := kn_eq rfl (by decide : Int32.toInt (-1) = (-1)) c_45
          refine lv_iconst (v := 1) hx hb dX12_areKept_32 (by decide) ?_
          refine lv_goto (tgt := 37) hx hb dX12_areKept_33 (by decide) ?_
          have w_47 : (1 : Int32).toInt = 0 ∨ p1.toInt = p2.toInt ∨ (p1.toInt < p2.toInt ∧ (q 1).toInt - (q 5).toInt ≤ p1.toInt ∧ p2.toInt ≤ (q 1).toInt) := by rw [show Int32.toInt (1) = 1 from by decide]; omega
          exact W.zret (v := 1) hx hb hr rfl (fun t ht hW => ⟨⟨1, (), rfl, w_47, k_ret ht hI⟩, hS.F ht⟩) hS.2.2 dX12_areKept_37
theorem tw_915 : q_g (.constantLong RX12 304 (15)) := ⟨(List.mem_append_right _ (List.mem_of_getElem? (i := 1495) (by decide +kernel))), good_of_word (by decide +kernel)⟩
theorem tw_916 : q_g (.code yX12_shareAt cX12_shareAt 5 (some .long)) := ⟨(List.mem_append_right _ (List.mem_of_getElem? (i := 1494) (by decide +kernel))), good_of_word (by decide +kernel)⟩
def ow_c_X12_shareAt : List Cond := [.fieldLink RX12 16 "DeadlineShareModel" "row" "[J", .constantLong RX12 304 (15), .constantLong RX12 108 (5354228880)]
def wq_c_X12_shareAt : List Cond := .code yX12_shareAt cX12_shareAt 5 (some .long) :: (ow_c_X12_shareAt ++ (u_ws RX12 TX12 27 ++ ([] : List Cond)))
theorem tb_c_X12_shareAt : ∀ w ∈ wq_c_X12_shareAt, q_g w := by
  unfold wq_c_X12_shareAt ow_c_X12_shareAt
  exact q_cons tw_916 (q_app (q_cons tw_731 (q_cons tw_915 (q_cons tw_757 q_nil))) (q_app tu_X12 q_nil))
set_option maxHeartbeats 4000000 in
set_option maxRecDepth 100000 in
theorem c_X12_shareAt (l : Launch) (dC : Nat → ClassId) (dI : Nat → Nat → Nat) (g : kG) (A : Nat → Prop) (hG : kWf g) (f : Nat → va_E) (h0 : Nat) (p1 : Int32) (p2 : Nat) (q : Nat → Int64) (i_h0 : ik g 12 h0) (hc0 : f (gr g h0 4) = .inl (gc g 1, 906, .inr (.inl q))) (hc0_ok : RowOK q) (hl9 : ∃ l : Nat, p2 = 522 + 3 * l ∧ (l : Int) < (q 5).toInt) : Met l yX12_shareAt wq_c_X12_shareAt ({ frames := 0, cells := 0, slots := 0, locals := 0 } : Room) (va_Pc [.ref h0, .int p1, .int (nI p2)] (fun U => kIn dC dI g A f U)) (va_Ql (fun (r : Int64) (_ : Unit) => True) (fun (_ : Unit) t => Iv dC dI g A f t.heap) A) 0 0 A := by
  refine Met.ofW (cc := cX12_shareAt) (maxL := 5) (ret := (some .long)) (by decide) rfl ?_
  intro p e s m args below meth c s₁ B hml hv
  obtain ⟨rfl, hI, hK, hE⟩ := hv
  have hx := B.exec
  have hb := B.bytes
  have hr := B.returns
  have hts := atoms_spec (ws := wq_c_X12_shareAt) B.pre
  have hown : s.vm.findClass RX12 = some m.cls := findClass_of_methodNamed B.named
  have hlocks := B.notSynchronized
  have hS : va_S A s.heap s.heap [] := va_S.rf
  have hl := lv_entry ([.ref h0, .int p1, .int (nI p2)]) (n := 5) (Nat.le_of_ble_eq_true rfl)
  rw [lg_entry_eq]
  generalize (lg_sl ([.ref h0, .int p1, .int (nI p2)]) ++ List.replicate (5 - (lg_sl ([.ref h0, .int p1, .int (nI p2)])).length) Slot.unset).toArray = ls at hl ⊢
  have hl : lv_has ls 5 [(0, .ref h0), (1, .int p1), (2, .int (nI p2))] := hl
  have i_1 := kw_12_4 hG i_h0
  have d_2 := rk_hd hc0_ok
  obtain ⟨l9, el9, tl9⟩ := hl9
  refine lv_aload_n hx hb dX12_shareAt_0 rfl (lv_at hl 0 rfl) ?_
  obtain ⟨x_4, x_5, x_6, x_7, x_8, x_9, x_10, x_11, x_12, x_13, x_14, x_15, x_16, x_17, k_3, b_18, b_19, b_20, b_21, b_22, b_23⟩ := op_12 hI i_h0
  refine k_get (ci := 12) (v := .ref (gr g h0 4)) (C := RX12) (T := TX12) (N := 27) hx hb hts (fun _ h0_ => List.mem_cons_of_mem _ (List.mem_append_right _ (List.mem_append_left _ h0_))) hown hK hI i_h0.1 k_3 rfl 4 (by decide) (hts (.fieldLink RX12 16 "DeadlineShareModel" "row" "[J") (List.mem_cons_of_mem _ (List.mem_append_left _ (List.mem_of_getElem? (i := 0) rfl)))) (fun _ h9 => h9) rfl dX12_shareAt_1 ?_
  refine lv_iload_n hx hb dX12_shareAt_4 rfl (lv_at hl 2 rfl) ?_
  refine lv_iconst (v := 2) hx hb dX12_shareAt_5 (by decide) ?_
  refine lv_iadd hx hb dX12_shareAt_6 ?_
  refine k_topi (y := nI (p2 + 2)) ((nI_add p2 2).trans (congrArg nI (by omega))) ?_
  refine k_lald hx hb hK hI i_1.1 1 hc0 rfl (vp_in_nI (by omega) (by omega)) dX12_shareAt_7 ?_
  refine k_topl (y := q (p2 + 2)) (congrArg q (nI_clamp (by omega))) ?_
  refine lv_iconst (v := 4) hx hb dX12_shareAt_8 (by decide) ?_
  refine lv_iload_n hx hb dX12_shareAt_9 rfl (lv_at hl 1 rfl) ?_
  refine lv_imul hx hb dX12_shareAt_10 ?_
  refine lv_topi (fun v_26 ev_26 => ?_)
  refine lv_lshr hx hb dX12_shareAt_11 rfl ?_
  refine lv_topl (fun v_27 ev_27 => ?_)
  refine lv_ldc2 hx hb hown (hts (.constantLong RX12 304 (15)) (List.mem_cons_of_mem _ (List.mem_append_left _ (List.mem_of_getElem? (i := 1) rfl)))) dX12_shareAt_12 ?_
  refine lv_land hx hb dX12_shareAt_15 ?_
  refine lv_topl (fun v_28 ev_28 => ?_)
  have tv_28 : (q (p2 + 2)).toInt = 0 → v_28.toInt = 0 := fun h9 => by rw [ev_28, ev_27]; exact l_sh0 _ _ h9
  refine lv_lstore_n (lv' := [(3, .long v_28), (0, .ref h0), (1, .int p1), (2, .int (nI p2))]) hx hb dX12_shareAt_16 rfl hl (by decide) rfl (fun ls hl => ?_)
  refine lv_lload_n hx hb dX12_shareAt_17 rfl (lv_at hl 0 rfl) ?_
  refine lv_lconst (v := 0) hx hb dX12_shareAt_18 (by decide) ?_
  refine W.lcmp hx hb dX12_shareAt_19 ?_
  refine lv_if_ne (tgt := 27) hx hb dX12_shareAt_20 (by decide) (fun c_29 => ?_) (fun c_29 => ?_)
  · have c_29 := ln_eq rfl (by decide : Int64.toInt 0 = 0) (fun h9 => c_29 ((lg_cmp_eq _ _).mpr h9))
    have d_30 : 1 ≤ (q (p2 + 1)).toInt := by rw [el9]; exact rk_log hc0_ok tl9 (fun h9 => by rw [← el9] at h9; omega)
    refine lv_ldc2 hx hb hown (hts (.constantLong RX12 108 (5354228880)) (List.mem_cons_of_mem _ (List.mem_append_left _ (List.mem_of_getElem? (i := 2) rfl)))) dX12_shareAt_27 ?_
    refine lv_aload_n hx hb dX12_shareAt_30 rfl (lv_at hl 1 rfl) ?_
    refine k_get (ci := 12) (v := .ref (gr g h0 4)) (C := RX12) (T := TX12) (N := 27) hx hb hts (fun _ h0_ => List.mem_cons_of_mem _ (List.mem_append_right _ (List.mem_append_left _ h0_))) hown hK hI i_h0.1 k_3 rfl 4 (by decide) (hts (.fieldLink RX12 16 "DeadlineShareModel" "row" "[J") (List.mem_cons_of_mem _ (List.mem_append_left _ (List.mem_of_getElem? (i := 0) rfl)))) (fun _ h9 => h9) rfl dX12_shareAt_31 ?_
    refine lv_iload_n hx hb dX12_shareAt_34 rfl (lv_at hl 3 rfl) ?_
    refine lv_iconst (v := 1) hx hb dX12_shareAt_35 (by decide) ?_
    refine lv_iadd hx hb dX12_shareAt_36 ?_
    refine k_topi (y := nI (p2 + 1)) ((nI_add p2 1).trans (congrArg nI (by omega))) ?_
    refine k_lald hx hb hK hI i_1.1 1 hc0 rfl (vp_in_nI (by omega) (by omega)) dX12_shareAt_37 ?_
    refine k_topl (y := q (p2 + 1)) (congrArg q (nI_clamp (by omega))) ?_
    refine lv_ldiv hx hb dX12_shareAt_38 (k_ne0L (by omega)) ?_
    refine lv_topl (fun v_33 ev_33 => ?_)
    refine lv_lload_n hx hb dX12_shareAt_39 rfl (lv_at hl 0 rfl) ?_
    refine lv_lmul hx hb dX12_shareAt_40 ?_
    refine lv_topl (fun v_34 ev_34 => ?_)
    exact W.lret (v := v_34) hx hb hr (fun t ht hW => ⟨⟨v_34, (), rfl, trivial, k_ret ht hI⟩, hS.F ht⟩) hS.2.2 dX12_shareAt_41
  · have c_29 := lc_eq rfl (by decide : Int64.toInt 0 = 0) ((lg_cmp_eq _ _).mp c_29)
    refine lv_lconst (v := 0) hx hb dX12_shareAt_23 (by decide) ?_
    refine lv_goto (tgt := 41) hx hb dX12_shareAt_24 (by decide) ?_
    exact W.lret (v := 0) hx hb hr (fun t ht hW => ⟨⟨0, (), rfl, trivial, k_ret ht hI⟩, hS.F ht⟩) hS.2.2 dX12_shareAt_41
theorem tw_917 : q_g (.selects RX12 yX12_tick yX12_tick) := ⟨(List.mem_append_left _ (List.mem_of_getElem? (i := 48) (by decide +kernel))), good_of_word (by decide +kernel)⟩
theorem tw_918 : q_g (.instanceMethod yX12_tick) := ⟨(List.mem_append_right _ (List.mem_of_getElem? (i := 1399) (by decide +kernel))), good_of_word (by decide +kernel)⟩
theorem tw_919 : q_g (.methodLink RX12 288 yX12_tick) := ⟨(List.mem_append_right _ (List.mem_of_getElem? (i := 1397) (by decide +kernel))), good_of_word (by decide +kernel)⟩
theorem tw_920 : q_g (.selects RX12 yX12_over yX12_over) := ⟨(List.mem_append_left _ (List.mem_of_getElem? (i := 63) (by decide +kernel))), good_of_word (by decide +kernel)⟩
theorem tw_921 : q_g (.instanceMethod yX12_over) := ⟨(List.mem_append_right _ (List.mem_of_getElem? (i := 1510) (by decide +kernel))), good_of_word (by decide +kernel)⟩
theorem tw_922 : q_g (.methodLink RX12 313 yX12_over) := ⟨(List.mem_append_right _ (List.mem_of_getElem? (i := 1508) (by decide +kernel))), good_of_word (by decide +kernel)⟩
theorem tw_923 : q_g (.selects RX12 yX12_begin yX12_begin) := ⟨(List.mem_append_left _ (List.mem_of_getElem? (i := 62) (by decide +kernel))), good_of_word (by decide +kernel)⟩
theorem tw_924 : q_g (.instanceMethod yX12_begin) := ⟨(List.mem_append_right _ (List.mem_of_getElem? (i := 1506) (by decide +kernel))), good_of_word (by decide +kernel)⟩
theorem tw_925 : q_g (.methodLink RX12 310 yX12_begin) := ⟨(List.mem_append_right _ (List.mem_of_getElem? (i := 1504) (by decide +kernel))), good_of_word (by decide +kernel)⟩
theorem tw_926 : q_g (.code yX12_runsWith cX12_runsWith 6 (some .int)) := ⟨(List.mem_append_right _ (List.mem_of_getElem? (i := 1527) (by decide +kernel))), good_of_word (by decide +kernel)⟩
def ow_c_X12_runsWith : List Cond := [.methodLink RX12 310 yX12_begin, .instanceMethod yX12_begin, .selects RX12 yX12_begin yX12_begin, .initialized RX12, .methodLink RX12 94 yX12_weight, .instanceMethod yX12_weight, .selects RX12 yX12_weight yX12_weight, .methodLink RX12 313 yX12_over, .instanceMethod yX12_over, .selects RX12 yX12_over yX12_over, .methodLink RX12 288 yX12_tick, .instanceMethod yX12_tick, .selects RX12 yX12_tick yX12_tick, .methodLink RX12 157 yX12_weighs, .instanceMethod yX12_weighs, .selects RX12 yX12_weighs yX12_weighs]
def wq_c_X12_runsWith : List Cond := .code yX12_runsWith cX12_runsWith 6 (some .int) :: (ow_c_X12_runsWith ++ (wq_c_X12_begin ++ (wq_c_X12_weight ++ (wq_c_X12_over ++ (wq_c_X12_tick ++ (wq_c_X12_weighs ++ ([] : List Cond)))))))
theorem tb_c_X12_runsWith : ∀ w ∈ wq_c_X12_runsWith, q_g w := by
  unfold wq_c_X12_runsWith ow_c_X12_runsWith
  exact q_cons tw_926 (q_app (q_cons tw_925 (q_cons tw_924 (q_cons tw_923 (q_cons tw_728 (q_cons tw_741 (q_cons tw_740 (q_cons tw_739 (q_cons tw_922 (q_cons tw_921 (q_cons tw_920 (q_cons tw_919 (q_cons tw_918 (q_cons tw_917 (q_cons tw_828 (q_cons tw_827 (q_cons tw_826 q_nil)))))))))))))))) (q_app tb_c_X12_begin (q_app tb_c_X12_weight (q_app tb_c_X12_over (q_app tb_c_X12_tick (q_app tb_c_X12_weighs q_nil))))))
set_option maxHeartbeats 4000000 in
set_option maxRecDepth 100000 in
theorem c_X12_runsWith (l : Launch) (dC : Nat → ClassId) (dI : Nat → Nat → Nat) (g : kG) (A : Nat → Prop) (hG : kWf g) (f : Nat → va_E) (h0 : Nat) (p1 : Nat) (p2 : Int32) (p3 : Int32) (z0 : Int32) (z1 : Int32) (z10 : Int32) (z12 : Int32) (z13 : Int32) (z14 : Int32) (z15 : Int32) (z16 : Int64) (z17 : Int32) (z18 : Int32) (z23 : Int32) (z24 : Int64) (z25 : Int64) (z26 : Int64) (q : Nat → Int64) (pp : Nat → Int64) (i_h0 : ik g 12 h0) (hc0 : f h0 = .inr (12, [.int z0, .int z1, .ref (gr g h0 2), .ref (gr g h0 3), .ref (gr g h0 4), .ref (gr g h0 5), .ref (gr g h0 6), .ref (gr g h0 7), .ref (gr g h0 8), .ref (gr g h0 9), .int z10, .ref (gr g h0 11), .int z12, .int z13, .int z14, .int z15, .long z16, .int z17, .int z18, .ref (gr g h0 19), .ref (gr g h0 20), .ref (gr g h0 21), .ref (gr g h0 22), .int z23, .long z24, .long z25, .long z26])) (hc0_10 : 0 ≤ z10.toInt ∧ z10.toInt ≤ 10) (hc0_12 : 0 ≤ z12.toInt ∧ z12.toInt ≤ 200) (hc0_23 : 0 ≤ z23.toInt ∧ z23.toInt ≤ 8) (hc1 : f (gr g h0 4) = .inl (gc g 1, 906, .inr (.inl q))) (hc1_ok : RowOK q) (hc2 : f (gr g h0 6) = .inl (gc g 1, 906, .inr (.inl pp))) (ht : (p1 : Int) < (q 0).toInt) (hw9 : 1 ≤ p2.toInt ∧ p2.toInt ≤ 8) (hm9 : (q 1).toInt + p3.toInt ≤ 9999) : Met l yX12_runsWith wq_c_X12_runsWith ({ frames := 8, cells := 0, slots := 0, locals := 187 } : Room) (va_Pc [.ref h0, .int (nI p1), .int p2, .int p3] (fun U => kIn dC dI g A f U)) (va_Qi (fun (r : Int32) (_ : Unit) => True) (fun (_ : Unit) t => ∃ f1 : Nat → va_E, Iv dC dI g A f1 t.heap ∧ Kp g [12, 32, 34] f f1 ∧ ∃ (w24 : Int64) (q1 : Nat → Int64) (pp1 : Nat → Int64), (f1 h0 = .inr (12, [.int z0, .int z1, .ref (gr g h0 2), .ref (gr g h0 3), .ref (gr g h0 4), .ref (gr g h0 5), .ref (gr g h0 6), .ref (gr g h0 7), .ref (gr g h0 8), .ref (gr g h0 9), .int z10, .ref (gr g h0 11), .int z12, .int z13, .int z14, .int z15, .long z16, .int z17, .int z18, .ref (gr g h0 19), .ref (gr g h0 20), .ref (gr g h0 21), .ref (gr g h0 22), .int z23, .long w24, .long z25, .long z26])) ∧ (f1 (gr g h0 4) = .inl (gc g 1, 906, .inr (.inl q1))) ∧ (RowOK q1) ∧ ((q1 0).toInt = (q 0).toInt) ∧ ((q1 1).toInt = (q 1).toInt) ∧ (f1 (gr g h0 6) = .inl (gc g 1, 906, .inr (.inl pp1)))) A) 0 0 A := by
  refine Met.ofW (cc := cX12_runsWith) (maxL := 6) (ret := (some .int)) (by decide) rfl ?_
  intro p e s m args below meth c s₁ B hml hv
  obtain ⟨rfl, hI, hK, hE⟩ := hv
  have hx := B.exec
  have hb := B.bytes
  have hr := B.returns
  have hts := atoms_spec (ws := wq_c_X12_runsWith) B.pre
  have hown : s.vm.findClass RX12 = some m.cls := findClass_of_methodNamed B.named
  have hlocks := B.notSynchronized
  have hS : va_S A s.heap s.heap [] := va_S.rf
  have hk0 : Kp g [12, 32, 34] f f := Kp.rf
  have hl := lv_entry ([.ref h0, .int (nI p1), .int p2, .int p3]) (n := 6) (Nat.le_of_ble_eq_true rfl)
  rw [lg_entry_eq]
  generalize (lg_sl ([.ref h0, .int (nI p1), .int p2, .int p3]) ++ List.replicate (6 - (lg_sl ([.ref h0, .int (nI p1), .int p2, .int p3])).length) Slot.unset).toArray = ls at hl ⊢
  have hl : lv_has ls 6 [(0, .ref h0), (1, .int (nI p1)), (2, .int p2), (3, .int p3)] := hl
  have i_1 := kw_12_4 hG i_h0
  have d_2 := rk_hd hc1_ok
  have i_3 := kw_12_6 hG i_h0
  refine lv_aload_n hx hb dX12_runsWith_0 rfl (lv_at hl 0 rfl) ?_
  refine va_callv (va_runV (As := []) (rest := []) ⟨hx, hb, hml, hown, hts⟩ (c_X12_begin l dC dI g A hG f h0 q pp i_h0 hc1 hc1_ok hc2) (cwV 0 hts (gi_V (fun w_ h0_ => ⟨List.mem_cons_of_mem _ (List.mem_append_right _ (List.mem_append_left _ h0_)), (tb_c_X12_begin w_ h0_).2⟩) (List.mem_cons_of_mem _ (List.mem_append_left _ (List.mem_of_getElem? (i := 0) rfl))) (List.mem_cons_of_mem _ (List.mem_append_left _ (List.mem_of_getElem? (i := 1) rfl))) (List.mem_cons_of_mem _ (List.mem_append_left _ (List.mem_of_getElem? (i := 2) rfl))) (List.mem_cons_of_mem _ (List.mem_append_left _ (List.mem_of_getElem? (i := 3) rfl)))) rfl rfl rfl (by decide +kernel) ⟨Nat.le_of_ble_eq_true rfl, Nat.le_of_ble_eq_true rfl⟩) ⟨fun a U g mk q => ⟨q.1, q.2.calling rfl rfl⟩, k_recv hK hI i_h0.1 hc0 (ci := 12) rfl, fun U hU hW => ⟨rfl, kIn.of hI hK hE hS hU hW⟩⟩ rfl rfl hl.1 rfl (lv_room (Nat.le_of_ble_eq_true rfl)) dX12_runsWith_1 ⟨Nat.le_of_ble_eq_true rfl, Nat.le_of_ble_eq_true rfl⟩) hS (fun q _ h => h) (fun q h => h) (fun u t H1 locs ht hvm _ hB hz1 hk1 hS => ?_)
  obtain ⟨f_4, hI, kc_6, pp1_7, k_8, z_9, z_10, z_11⟩ := hB
  rw [ht] at hI
  have k_12 : f_4 h0 = .inr (12, [.int z0, .int z1, .ref (gr g h0 2), .ref (gr g h0 3), .ref (gr g h0 4), .ref (gr g h0 5), .ref (gr g h0 6), .ref (gr g h0 7), .ref (gr g h0 8), .ref (gr g h0 9), .int z10, .ref (gr g h0 11), .int z12, .int z13, .int z14, .int z15, .long z16, .int z17, .int z18, .ref (gr g h0 19), .ref (gr g h0 20), .ref (gr g h0 21), .ref (gr g h0 22), .int z23, .long z24, .long z25, .long z26]) := Kp.at kc_6 i_h0 (by decide) hc0
  have k_13 : f_4 (gr g h0 4) = .inl (gc g 1, 906, .inr (.inl q)) := Kp.at kc_6 i_1 (by decide) hc1
  have z_9 : RowOK pp1_7 := z_9
  have d_14 := rk_hd z_9
  have z_10 : (pp1_7 0).toInt = (q 0).toInt := z_10
  have z_11 : (pp1_7 1).toInt = (q 1).toInt := z_11
  have kp_15 := Kp.call hk0 kc_6 (by decide)
  generalize H1 = H at hI hS ⊢
  refine W.widen (k := 0) (n := 0) (Nat.le_of_ble_eq_true rfl) (Nat.le_of_ble_eq_true rfl) ?_
  refine lv_iload_n hx hb dX12_runsWith_4 rfl (lv_at hl 2 rfl) ?_
  refine lv_i2l (v := p2.toInt64) hx hb dX12_runsWith_5 rfl ?_
  have t_16 := Int32.toInt_toInt64 p2
  have g_17 := Int32.toInt_lt p2
  have g_18 := Int32.le_toInt p2
  refine lv_aload_n hx hb dX12_runsWith_6 rfl (lv_at hl 0 rfl) ?_
  refine lv_iload_n hx hb dX12_runsWith_7 rfl (lv_at hl 1 rfl) ?_
  refine va_calll (va_runV (As := [.int (nI p1)]) (rest := [.long p2.toInt64]) ⟨hx, hb, hml, hown, hts⟩ (c_X12_weight l dC dI g A hG f_4 h0 p1 q i_h0 k_13 hc1_ok (by first | omega | decide | (simp only [k_c0, k_c1, k_cm1] <;> omega))) (cwV 1 hts (gi_V (fun w_ h0_ => ⟨List.mem_cons_of_mem _ (List.mem_append_right _ (List.mem_append_right _ (List.mem_append_left _ h0_))), (tb_c_X12_weight w_ h0_).2⟩) (List.mem_cons_of_mem _ (List.mem_append_left _ (List.mem_of_getElem? (i := 4) rfl))) (List.mem_cons_of_mem _ (List.mem_append_left _ (List.mem_of_getElem? (i := 5) rfl))) (List.mem_cons_of_mem _ (List.mem_append_left _ (List.mem_of_getElem? (i := 6) rfl))) (List.mem_cons_of_mem _ (List.mem_append_left _ (List.mem_of_getElem? (i := 3) rfl)))) rfl rfl rfl (by decide +kernel) ⟨Nat.le_of_ble_eq_true rfl, Nat.le_of_ble_eq_true rfl⟩) ⟨fun a U g mk q => ⟨q.1, q.2.calling rfl rfl⟩, k_recv hK hI i_h0.1 k_12 (ci := 12) rfl, fun U hU hW => ⟨rfl, kIn.of hI hK hE hS hU hW⟩⟩ rfl rfl hl.1 rfl (lv_room (Nat.le_of_ble_eq_true rfl)) dX12_runsWith_8 ⟨Nat.le_of_ble_eq_true rfl, Nat.le_of_ble_eq_true rfl⟩) hS (fun q _ h => h) (fun q h => h) (fun r_20 u t H1 locs ht hvm w_19 hB hz1 hk1 hS => ?_)
  have hI : Iv dC dI g A f_4 t.heap := hB
  rw [ht] at hI
  generalize H1 = H at hI hS ⊢
  refine W.widen (k := 0) (n := 0) (Nat.le_of_ble_eq_true rfl) (Nat.le_of_ble_eq_true rfl) ?_
  have w_19 : r_20 = q (6 + 43 * p1) := w_19
  refine k_topl (y := q (6 + 43 * p1)) w_19 ?_
  have d_21 := rk_0 hc1_ok (t := p1) (by omega)
  refine W.lcmp hx hb dX12_runsWith_11 ?_
  have J_30 : ∀ (y_22 : Int32) (q_24 : Nat → Int64) (f_23 : Nat → va_E) (H : Heap) (locs : List Loc) (ls : Array Slot), Iv dC dI g A f_23 H → va_S A s.heap H locs → f_23 (gr g h0 4) = .inl (gc g 1, 906, .inr (.inl q_24)) → RowOK q_24 → f_23 h0 = .inr (12, [.int z0, .int z1, .ref (gr g h0 2), .ref (gr g h0 3), .ref (gr g h0 4), .ref (gr g h0 5), .ref (gr g h0 6), .ref (gr g h0 7), .ref (gr g h0 8), .ref (gr g h0 9), .int z10, .ref (gr g h0 11), .int z12, .int z13, .int z14, .int z15, .long z16, .int z17, .int z18, .ref (gr g h0 19), .ref (gr g h0 20), .ref (gr g h0 21), .ref (gr g h0 22), .int z23, .long z24, .long z25, .long z26]) → f_23 (gr g h0 6) = .inl (gc g 1, 906, .inr (.inl pp1_7)) → Kp g [12, 32, 34] f f_23 → ((q_24 0).toInt = (q 0).toInt) → ((q_24 1).toInt = (q 1).toInt) → lv_has ls 6 [(0, .ref h0), (1, .int (nI p1)), (2, .int p2), (3, .int p3)] → W p l e (headSpec wq_c_X12_runsWith ({ frames := 8, cells := 0, slots := 0, locals := 187 } : Room)).room s m ([.ref h0, .int (nI p1), .int p2, .int p3].toArray) below meth c H locs 0 0 (MQ below (va_Qi (fun (r : Int32) (_ : Unit) => True) (fun (_ : Unit) t => ∃ f1 : Nat → va_E, Iv dC dI g A f1 t.heap ∧ Kp g [12, 32, 34] f f1 ∧ ∃ (w24 : Int64) (q1 : Nat → Int64) (pp1 : Nat → Int64), (f1 h0 = .inr (12, [.int z0, .int z1, .ref (gr g h0 2), .ref (gr g h0 3), .ref (gr g h0 4), .ref (gr g h0 5), .ref (gr g h0 6), .ref (gr g h0 7), .ref (gr g h0 8), .ref (gr g h0 9), .int z10, .ref (gr g h0 11), .int z12, .int z13, .int z14, .int z15, .long z16, .int z17, .int z18, .ref (gr g h0 19), .ref (gr g h0 20), .ref (gr g h0 21), .ref (gr g h0 22), .int z23, .long w24, .long z25, .long z26])) ∧ (f1 (gr g h0 4) = .inl (gc g 1, 906, .inr (.inl q1))) ∧ (RowOK q1) ∧ ((q1 0).toInt = (q 0).toInt) ∧ ((q1 1).toInt = (q 1).toInt) ∧ (f1 (gr g h0 6) = .inl (gc g 1, 906, .inr (.inl pp1)))) A) ([.ref h0, .int (nI p1), .int p2, .int p3].toArray) s 0 0 A) (F0 m 30 ls [.int y_22]) := by
    intro y_22 q_24 f_23 H locs ls hI hS k_25 ok_26 k_27 k_28 kp_29 t_30 t_31 hl
    have d_32 := rk_hd ok_26
    refine lv_istore (lv' := [(4, .int y_22), (0, .ref h0), (1, .int (nI p1)), (2, .int p2), (3, .int p3)]) hx hb dX12_runsWith_30 hl (by decide) rfl (fun ls hl => ?_)
    refine lv_iconst (v := 0) hx hb dX12_runsWith_32 (by decide) ?_
    refine lv_istore (lv' := [(5, .int 0), (4, .int y_22), (0, .ref h0), (1, .int (nI p1)), (2, .int p2), (3, .int p3)]) hx hb dX12_runsWith_33 hl (by decide) rfl (fun ls hl => ?_)
    have K_35 : ∀ (nn : Nat) (y_33 : Int32) (y_34 : Int32) (q_36 : Nat → Int64) (y_39 : Int64) (f_35 : Nat → va_E) (H : Heap) (locs : List Loc) (ls : Array Slot), (p3.toInt - y_33.toInt).toNat < nn → Iv dC dI g A f_35 H → va_S A s.heap H locs → f_35 (gr g h0 4) = .inl (gc g 1, 906, .inr (.inl q_36)) → RowOK q_36 → f_35 h0 = .inr (12, [.int z0, .int z1, .ref (gr g h0 2), .ref (gr g h0 3), .ref (gr g h0 4), .ref (gr g h0 5), .ref (gr g h0 6), .ref (gr g h0 7), .ref (gr g h0 8), .ref (gr g h0 9), .int z10, .ref (gr g h0 11), .int z12, .int z13, .int z14, .int z15, .long z16, .int z17, .int z18, .ref (gr g h0 19), .ref (gr g h0 20), .ref (gr g h0 21), .ref (gr g h0 22), .int z23, .long y_39, .long z25, .long z26]) → f_35 (gr g h0 6) = .inl (gc g 1, 906, .inr (.inl pp1_7)) → Kp g [12, 32, 34] f f_35 → ((q_36 0).toInt = (q 0).toInt) → ((q_36 1).toInt = (q 1).toInt + y_33.toInt) → (0 ≤ y_33.toInt) → lv_has ls 6 [(5, .int y_33), (4, .int y_34), (0, .ref h0), (1, .int (nI p1)), (2, .int p2), (3, .int p3)] → W p l e (headSpec wq_c_X12_runsWith ({ frames := 8, cells := 0, slots := 0, locals := 187 } : Room)).room s m ([.ref h0, .int (nI p1), .int p2, .int p3].toArray) below meth c H locs 0 0 (MQ below (va_Qi (fun (r : Int32) (_ : Unit) => True) (fun (_ : Unit) t => ∃ f1 : Nat → va_E, Iv dC dI g A f1 t.heap ∧ Kp g [12, 32, 34] f f1 ∧ ∃ (w24 : Int64) (q1 : Nat → Int64) (pp1 : Nat → Int64), (f1 h0 = .inr (12, [.int z0, .int z1, .ref (gr g h0 2), .ref (gr g h0 3), .ref (gr g h0 4), .ref (gr g h0 5), .ref (gr g h0 6), .ref (gr g h0 7), .ref (gr g h0 8), .ref (gr g h0 9), .int z10, .ref (gr g h0 11), .int z12, .int z13, .int z14, .int z15, .long z16, .int z17, .int z18, .ref (gr g h0 19), .ref (gr g h0 20), .ref (gr g h0 21), .ref (gr g h0 22), .int z23, .long w24, .long z25, .long z26])) ∧ (f1 (gr g h0 4) = .inl (gc g 1, 906, .inr (.inl q1))) ∧ (RowOK q1) ∧ ((q1 0).toInt = (q 0).toInt) ∧ ((q1 1).toInt = (q 1).toInt) ∧ (f1 (gr g h0 6) = .inl (gc g 1, 906, .inr (.inl pp1)))) A) ([.ref h0, .int (nI p1), .int p2, .int p3].toArray) s 0 0 A) (F0 m 35 ls []) := by
      intro nn
      induction nn with
      | zero => intro y_33 y_34 q_36 y_39 f_35 H locs ls m_46; exact absurd m_46 (Nat.not_lt_zero _)
      | succ nn ih =>
        intro y_33 y_34 q_36 y_39 f_35 H locs ls m_46 hI hS k_37 ok_38 k_40 k_41 kp_42 t_43 t_44 t_45 hl
        have g_47 := Int32.toInt_lt p3
        have g_48 := Int32.le_toInt p3
        have g_49 := Int32.toInt_lt y_33
        have g_50 := Int32.le_toInt y_33
        have d_51 := rk_hd ok_38
        refine lv_iload hx hb dX12_runsWith_35 (lv_at hl 0 rfl) ?_
        refine lv_iload_n hx hb dX12_runsWith_37 rfl (lv_at hl 5 rfl) ?_
        have J_72 : ∀ (H : Heap) (locs : List Loc) (ls : Array Slot), Iv dC dI g A f_35 H → va_S A s.heap H locs → lv_has ls 6 [(5, .int y_33), (4, .int y_34), (0, .ref h0), (1, .int (nI p1)), (2, .int p2), (3, .int p3)] → W p l e (headSpec wq_c_X12_runsWith ({ frames := 8, cells := 0, slots := 0, locals := 187 } : Room)).room s m ([.ref h0, .int (nI p1), .int p2, .int p3].toArray) below meth c H locs 0 0 (MQ below (va_Qi (fun (r : Int32) (_ : Unit) => True) (fun (_ : Unit) t => ∃ f1 : Nat → va_E, Iv dC dI g A f1 t.heap ∧ Kp g [12, 32, 34] f f1 ∧ ∃ (w24 : Int64) (q1 : Nat → Int64) (pp1 : Nat → Int64), (f1 h0 = .inr (12, [.int z0, .int z1, .ref (gr g h0 2), .ref (gr g h0 3), .ref (gr g h0 4), .ref (gr g h0 5), .ref (gr g h0 6), .ref (gr g h0 7), .ref (gr g h0 8), .ref (gr g h0 9), .int z10, .ref (gr g h0 11), .int z12, .int z13, .int z14, .int z15, .long z16, .int z17, .int z18, .ref (gr g h0 19), .ref (gr g h0 20), .ref (gr g h0 21), .ref (gr g h0 22), .int z23, .long w24, .long z25, .long z26])) ∧ (f1 (gr g h0 4) = .inl (gc g 1, 906, .inr (.inl q1))) ∧ (RowOK q1) ∧ ((q1 0).toInt = (q 0).toInt) ∧ ((q1 1).toInt = (q 1).toInt) ∧ (f1 (gr g h0 6) = .inl (gc g 1, 906, .inr (.inl pp1)))) A) ([.ref h0, .int (nI p1), .int p2, .int p3].toArray) s 0 0 A) (F0 m 72 ls []) := by
          intro H locs ls hI hS  hl
          refine lv_aload_n hx hb dX12_runsWith_72 rfl (lv_at hl 2 rfl) ?_
          refine va_callv (va_runV (As := []) (rest := []) ⟨hx, hb, hml, hown, hts⟩ (c_X12_over l dC dI g A hG f_35 h0 q_36 pp1_7 i_h0 k_37 k_41 z_9) (cwV 0 hts (gi_V (fun w_ h0_ => ⟨List.mem_cons_of_mem _ (List.mem_append_right _ (List.mem_append_right _ (List.mem_append_right _ (List.mem_append_left _ h0_)))), (tb_c_X12_over w_ h0_).2⟩) (List.mem_cons_of_mem _ (List.mem_append_left _ (List.mem_of_getElem? (i := 7) rfl))) (List.mem_cons_of_mem _ (List.mem_append_left _ (List.mem_of_getElem? (i := 8) rfl))) (List.mem_cons_of_mem _ (List.mem_append_left _ (List.mem_of_getElem? (i := 9) rfl))) (List.mem_cons_of_mem _ (List.mem_append_left _ (List.mem_of_getElem? (i := 3) rfl)))) rfl rfl rfl (by decide +kernel) ⟨Nat.le_of_ble_eq_true rfl, Nat.le_of_ble_eq_true rfl⟩) ⟨fun a U g mk q => ⟨q.1, q.2.calling rfl rfl⟩, k_recv hK hI i_h0.1 k_40 (ci := 12) rfl, fun U hU hW => ⟨rfl, kIn.of hI hK hE hS hU hW⟩⟩ rfl rfl hl.1 rfl (lv_room (Nat.le_of_ble_eq_true rfl)) dX12_runsWith_73 ⟨Nat.le_of_ble_eq_true rfl, Nat.le_of_ble_eq_true rfl⟩) hS (fun q _ h => h) (fun q h => h) (fun u t H1 locs ht hvm _ hB hz1 hk1 hS => ?_)
          obtain ⟨f_52, hI, kc_54, q1_55, k_56, z_57, z_58, z_59⟩ := hB
          rw [ht] at hI
          have k_60 : f_52 h0 = .inr (12, [.int z0, .int z1, .ref (gr g h0 2), .ref (gr g h0 3), .ref (gr g h0 4), .ref (gr g h0 5), .ref (gr g h0 6), .ref (gr g h0 7), .ref (gr g h0 8), .ref (gr g h0 9), .int z10, .ref (gr g h0 11), .int z12, .int z13, .int z14, .int z15, .long z16, .int z17, .int z18, .ref (gr g h0 19), .ref (gr g h0 20), .ref (gr g h0 21), .ref (gr g h0 22), .int z23, .long y_39, .long z25, .long z26]) := Kp.at kc_54 i_h0 (by decide) k_40
          have k_61 : f_52 (gr g h0 6) = .inl (gc g 1, 906, .inr (.inl pp1_7)) := Kp.at kc_54 i_3 (by decide) k_41
          have z_57 : RowOK q1_55 := z_57
          have d_62 := rk_hd z_57
          have z_58 : (q1_55 0).toInt = (pp1_7 0).toInt := z_58
          have z_59 : (q1_55 1).toInt = (pp1_7 1).toInt := z_59
          have kp_63 := Kp.call kp_42 kc_54 (by decide)
          generalize H1 = H at hI hS ⊢
          refine W.widen (k := 0) (n := 0) (Nat.le_of_ble_eq_true rfl) (Nat.le_of_ble_eq_true rfl) ?_
          refine lv_iload hx hb dX12_runsWith_76 (lv_at hl 1 rfl) ?_
          exact W.iret (v := y_34) hx hb hr (fun t ht hW => ⟨⟨y_34, (), rfl, trivial, ⟨f_52, k_ret ht hI, kp_63, y_39, q1_55, pp1_7, k_60, k_56, z_57, (by first | omega | decide), (by first | omega | decide), k_61⟩⟩, hS.F ht⟩) hS.2.2 dX12_runsWith_78
        refine lv_icmp_ge (tgt := 72) hx hb dX12_runsWith_38 (by decide) (fun c_64 => ?_) (fun c_64 => ?_)
        · have c_64 := kc_le rfl rfl c_64
          exact J_72  _ _ _ hI hS  (lv_sub hl [0, 1, 2, 3, 4, 5] rfl)
        · have c_64 := kn_le rfl rfl c_64
          refine lv_iload hx hb dX12_runsWith_41 (lv_at hl 1 rfl) ?_
          refine lv_iconst (v := (-1)) hx hb dX12_runsWith_43 (by decide) ?_
          refine lv_icmp_eq (tgt := 72) hx hb dX12_runsWith_44 (by decide) (fun c_65 => ?_) (fun c_65 => ?_)
          · have c_65 := kc_eq rfl (by decide : Int32.toInt (-1) = (-1)) c_65
            exact J_72  _ _ _ hI hS  (lv_sub hl [0, 1, 2, 3, 4, 5] rfl)
          · have c_65 := kn_eq rfl (by decide : Int32.toInt (-1) = (-1)) c_65
            refine lv_iload hx hb dX12_runsWith_47 (lv_at hl 1 rfl) ?_
            refine lv_aload_n hx hb dX12_runsWith_49 rfl (lv_at hl 2 rfl) ?_
            refine lv_iconst (v := 0) hx hb dX12_runsWith_50 (by decide) ?_
            refine va_calli (va_runV (As := [.int 0]) (rest := [.int y_34]) ⟨hx, hb, hml, hown, hts⟩ (c_X12_tick l dC dI g A hG f_35 h0 0 z0 z1 z10 z12 z13 z14 z15 z16 z17 z18 z23 y_39 z25 z26 q_36 i_h0 k_40 (by first | omega | (simp only [k_c0]; omega)) (by first | omega | (simp only [k_c0]; omega)) (by first | omega | (simp only [k_c0]; omega)) k_37 ok_38 (by first | omega | decide | (simp only [show Int32.toInt 0 = 0 from by decide] <;> omega))) (cwV 1 hts (gi_V (fun w_ h0_ => ⟨List.mem_cons_of_mem _ (List.mem_append_right _ (List.mem_append_right _ (List.mem_append_right _ (List.mem_append_right _ (List.mem_append_left _ h0_))))), (tb_c_X12_tick w_ h0_).2⟩) (List.mem_cons_of_mem _ (List.mem_append_left _ (List.mem_of_getElem? (i := 10) rfl))) (List.mem_cons_of_mem _ (List.mem_append_left _ (List.mem_of_getElem? (i := 11) rfl))) (List.mem_cons_of_mem _ (List.mem_append_left _ (List.mem_of_getElem? (i := 12) rfl))) (List.mem_cons_of_mem _ (List.mem_append_left _ (List.mem_of_getElem? (i := 3) rfl)))) rfl rfl rfl (by decide +kernel) ⟨Nat.le_of_ble_eq_true rfl, Nat.le_of_ble_eq_true rfl⟩) ⟨fun a U g mk q => ⟨q.1, q.2.calling rfl rfl⟩, k_recv hK hI i_h0.1 k_40 (ci := 12) rfl, fun U hU hW => ⟨rfl, kIn.of hI hK hE hS hU hW⟩⟩ rfl rfl hl.1 rfl (lv_room (Nat.le_of_ble_eq_true rfl)) dX12_runsWith_51 ⟨Nat.le_of_ble_eq_true rfl, Nat.le_of_ble_eq_true rfl⟩) hS (fun q _ h => h) (fun q h => h) (fun r_68 u t H1 locs ht hvm w_67 hB hz1 hk1 hS => ?_)
            obtain ⟨f_66, hI, kc_69, w24_70, q1_71, k_72, k_73, z_74, z_75, z_76⟩ := hB
            rw [ht] at hI
            have k_77 : f_66 (gr g h0 6) = .inl (gc g 1, 906, .inr (.inl pp1_7)) := Kp.at kc_69 i_3 (by decide) k_41
            have k_72 : f_66 h0 = .inr (12, [.int z0, .int z1, .ref (gr g h0 2), .ref (gr g h0 3), .ref (gr g h0 4), .ref (gr g h0 5), .ref (gr g h0 6), .ref (gr g h0 7), .ref (gr g h0 8), .ref (gr g h0 9), .int z10, .ref (gr g h0 11), .int z12, .int z13, .int z14, .int z15, .long z16, .int z17, .int z18, .ref (gr g h0 19), .ref (gr g h0 20), .ref (gr g h0 21), .ref (gr g h0 22), .int z23, .long w24_70, .long z25, .long z26]) := k_72
            have z_74 : RowOK q1_71 := z_74
            have d_78 := rk_hd z_74
            have z_75 : (q1_71 0).toInt = (q_36 0).toInt := z_75
            have z_76 : (q1_71 1).toInt = (q_36 1).toInt + 1 := z_76
            have kp_79 := Kp.call kp_42 kc_69 (by decide)
            generalize H1 = H at hI hS ⊢
            refine W.widen (k := 0) (n := 0) (Nat.le_of_ble_eq_true rfl) (Nat.le_of_ble_eq_true rfl) ?_
            have w_67 : -1 ≤ r_68.toInt ∧ r_68.toInt < (q_36 0).toInt := w_67
            have g_80 : Int32.toInt (0) = 0 := by decide
            refine lv_iload_n hx hb dX12_runsWith_54 rfl (lv_at hl 3 rfl) ?_
            have J_63 : ∀ (y_81 : Int32) (H : Heap) (locs : List Loc) (ls : Array Slot), Iv dC dI g A f_66 H → va_S A s.heap H locs → lv_has ls 6 [(5, .int y_33), (4, .int y_34), (0, .ref h0), (1, .int (nI p1)), (2, .int p2), (3, .int p3)] → W p l e (headSpec wq_c_X12_runsWith ({ frames := 8, cells := 0, slots := 0, locals := 187 } : Room)).room s m ([.ref h0, .int (nI p1), .int p2, .int p3].toArray) below meth c H locs 0 0 (MQ below (va_Qi (fun (r : Int32) (_ : Unit) => True) (fun (_ : Unit) t => ∃ f1 : Nat → va_E, Iv dC dI g A f1 t.heap ∧ Kp g [12, 32, 34] f f1 ∧ ∃ (w24 : Int64) (q1 : Nat → Int64) (pp1 : Nat → Int64), (f1 h0 = .inr (12, [.int z0, .int z1, .ref (gr g h0 2), .ref (gr g h0 3), .ref (gr g h0 4), .ref (gr g h0 5), .ref (gr g h0 6), .ref (gr g h0 7), .ref (gr g h0 8), .ref (gr g h0 9), .int z10, .ref (gr g h0 11), .int z12, .int z13, .int z14, .int z15, .long z16, .int z17, .int z18, .ref (gr g h0 19), .ref (gr g h0 20), .ref (gr g h0 21), .ref (gr g h0 22), .int z23, .long w24, .long z25, .long z26])) ∧ (f1 (gr g h0 4) = .inl (gc g 1, 906, .inr (.inl q1))) ∧ (RowOK q1) ∧ ((q1 0).toInt = (q 0).toInt) ∧ ((q1 1).toInt = (q 1).toInt) ∧ (f1 (gr g h0 6) = .inl (gc g 1, 906, .inr (.inl pp1)))) A) ([.ref h0, .int (nI p1), .int p2, .int p3].toArray) s 0 0 A) (F0 m 63 ls [.int y_81, .int y_34]) := by
              intro y_81 H locs ls hI hS  hl
              refine lv_iadd hx hb dX12_runsWith_63 ?_
              refine lv_topi (fun v_82 ev_82 => ?_)
              have tv_82 := k_ad y_34 y_81
              rw [← ev_82] at tv_82
              refine lv_istore (lv' := [(4, .int v_82), (5, .int y_33), (0, .ref h0), (1, .int (nI p1)), (2, .int p2), (3, .int p3)]) hx hb dX12_runsWith_64 hl (by decide) rfl (fun ls hl => ?_)
              obtain ⟨v_83, ev_83⟩ : ∃ y : Int32, y = y_33 + Int32.ofInt 1 := ⟨_, rfl⟩
              refine lv_iinc (v := v_83) (lv' := [(5, .int v_83), (4, .int v_82), (0, .ref h0), (1, .int (nI p1)), (2, .int p2), (3, .int p3)]) hx hb dX12_runsWith_66 hl (k := 1) rfl ev_83.symm (by decide) rfl (fun ls hl => ?_)
              have tv_83 := k_inc y_33
              rw [← ev_83] at tv_83
              refine lv_goto (tgt := 35) hx hb dX12_runsWith_69 (by decide) ?_
              exact ih v_83 v_82 q1_71 w24_70 f_66 _ _ _ (by omega) hI hS k_73 z_74 k_72 k_77 kp_79 (by first | omega | decide | exact Or.inl (by decide)) (by first | omega | decide | exact Or.inl (by decide)) (by first | omega | decide | exact Or.inl (by decide)) (lv_sub hl [0, 1, 2, 3, 4, 5] rfl)
            refine lv_icmp_ne (tgt := 62) hx hb dX12_runsWith_55 (by decide) (fun c_84 => ?_) (fun c_84 => ?_)
            · have c_84 := kn_eq rfl (nI_toInt (n := p1) (by omega)) c_84
              refine lv_iconst (v := 0) hx hb dX12_runsWith_62 (by decide) ?_
              exact J_63 0 _ _ _ hI hS  (lv_sub hl [0, 1, 2, 3, 4, 5] rfl)
            · have c_84 := kc_eq rfl (nI_toInt (n := p1) (by omega)) c_84
              refine lv_iconst (v := 1) hx hb dX12_runsWith_58 (by decide) ?_
              refine lv_goto (tgt := 63) hx hb dX12_runsWith_59 (by decide) ?_
              exact J_63 1 _ _ _ hI hS  (lv_sub hl [0, 1, 2, 3, 4, 5] rfl)
    exact K_35 _ 0 y_22 q_24 z24 f_23 _ _ _ (Nat.lt_succ_self _) hI hS k_25 ok_26 k_27 k_28 kp_29 (by first | omega | decide | exact Or.inl (by decide) | (simp only [show Int32.toInt 0 = 0 from by decide] <;> omega)) (by first | omega | decide | exact Or.inl (by decide) | (simp only [show Int32.toInt 0 = 0 from by decide] <;> omega)) (by first | omega | decide | exact Or.inl (by decide) | (simp only [show Int32.toInt 0 = 0 from by decide] <;> omega)) (lv_sub hl [0, 1, 2, 3, 4, 5] rfl)
  have J_25 : ∀ (q_86 : Nat → Int64) (f_85 : Nat → va_E) (H : Heap) (locs : List Loc) (ls : Array Slot), Iv dC dI g A f_85 H → va_S A s.heap H locs → f_85 (gr g h0 4) = .inl (gc g 1, 906, .inr (.inl q_86)) → RowOK q_86 → f_85 h0 = .inr (12, [.int z0, .int z1, .ref (gr g h0 2), .ref (gr g h0 3), .ref (gr g h0 4), .ref (gr g h0 5), .ref (gr g h0 6), .ref (gr g h0 7), .ref (gr g h0 8), .ref (gr g h0 9), .int z10, .ref (gr g h0 11), .int z12, .int z13, .int z14, .int z15, .long z16, .int z17, .int z18, .ref (gr g h0 19), .ref (gr g h0 20), .ref (gr g h0 21), .ref (gr g h0 22), .int z23, .long z24, .long z25, .long z26]) → f_85 (gr g h0 6) = .inl (gc g 1, 906, .inr (.inl pp1_7)) → Kp g [12, 32, 34] f f_85 → ((q_86 0).toInt = (q 0).toInt) → ((q_86 1).toInt = (q 1).toInt) → lv_has ls 6 [(0, .ref h0), (1, .int (nI p1)), (2, .int p2), (3, .int p3)] → W p l e (headSpec wq_c_X12_runsWith ({ frames := 8, cells := 0, slots := 0, locals := 187 } : Room)).room s m ([.ref h0, .int (nI p1), .int p2, .int p3].toArray) below meth c H locs 0 0 (MQ below (va_Qi (fun (r : Int32) (_ : Unit) => True) (fun (_ : Unit) t => ∃ f1 : Nat → va_E, Iv dC dI g A f1 t.heap ∧ Kp g [12, 32, 34] f f1 ∧ ∃ (w24 : Int64) (q1 : Nat → Int64) (pp1 : Nat → Int64), (f1 h0 = .inr (12, [.int z0, .int z1, .ref (gr g h0 2), .ref (gr g h0 3), .ref (gr g h0 4), .ref (gr g h0 5), .ref (gr g h0 6), .ref (gr g h0 7), .ref (gr g h0 8), .ref (gr g h0 9), .int z10, .ref (gr g h0 11), .int z12, .int z13, .int z14, .int z15, .long z16, .int z17, .int z18, .ref (gr g h0 19), .ref (gr g h0 20), .ref (gr g h0 21), .ref (gr g h0 22), .int z23, .long w24, .long z25, .long z26])) ∧ (f1 (gr g h0 4) = .inl (gc g 1, 906, .inr (.inl q1))) ∧ (RowOK q1) ∧ ((q1 0).toInt = (q 0).toInt) ∧ ((q1 1).toInt = (q 1).toInt) ∧ (f1 (gr g h0 6) = .inl (gc g 1, 906, .inr (.inl pp1)))) A) ([.ref h0, .int (nI p1), .int p2, .int p3].toArray) s 0 0 A) (F0 m 25 ls []) := by
    intro q_86 f_85 H locs ls hI hS k_87 ok_88 k_89 k_90 kp_91 t_92 t_93 hl
    have d_94 := rk_hd ok_88
    refine lv_iconst (v := 0) hx hb dX12_runsWith_25 (by decide) ?_
    refine lv_goto (tgt := 30) hx hb dX12_runsWith_26 (by decide) ?_
    exact J_30 0 q_86 f_85 _ _ _ hI hS k_87 ok_88 k_89 k_90 kp_91 (by first | omega | decide | exact Or.inl (by decide) | (simp only [show Int32.toInt 0 = 0 from by decide] <;> omega)) (by first | omega | decide | exact Or.inl (by decide) | (simp only [show Int32.toInt 0 = 0 from by decide] <;> omega)) (lv_sub hl [0, 1, 2, 3] rfl)
  refine lv_if_eq (tgt := 25) hx hb dX12_runsWith_12 (by decide) (fun c_95 => ?_) (fun c_95 => ?_)
  · have c_95 := lc_eq rfl rfl ((lg_cmp_eq _ _).mp c_95)
    exact J_25 q f_4 _ _ _ hI hS k_13 hc1_ok k_12 k_8 kp_15 (by first | omega | decide | exact Or.inl (by decide)) (by first | omega | decide | exact Or.inl (by decide)) (lv_sub hl [0, 1, 2, 3] rfl)
  · have c_95 := ln_eq rfl rfl (fun h9 => c_95 ((lg_cmp_eq _ _).mpr h9))
    refine lv_aload_n hx hb dX12_runsWith_15 rfl (lv_at hl 0 rfl) ?_
    refine lv_iload_n hx hb dX12_runsWith_16 rfl (lv_at hl 1 rfl) ?_
    refine lv_iload_n hx hb dX12_runsWith_17 rfl (lv_at hl 2 rfl) ?_
    refine lv_i2l (v := p2.toInt64) hx hb dX12_runsWith_18 rfl ?_
    have t_96 := Int32.toInt_toInt64 p2
    have g_97 := Int32.toInt_lt p2
    have g_98 := Int32.le_toInt p2
    refine va_calli (va_runV (As := [.int (nI p1), .long p2.toInt64]) (rest := []) ⟨hx, hb, hml, hown, hts⟩ (c_X12_weighs l dC dI g A hG f_4 h0 p1 p2.toInt64 q i_h0 k_13 hc1_ok (by first | omega | decide | (simp only [k_c0, k_c1, k_cm1] <;> omega)) (by first | omega | decide | (simp only [k_c0, k_c1, k_cm1] <;> omega))) (cwV 2 hts (gi_V (fun w_ h0_ => ⟨List.mem_cons_of_mem _ (List.mem_append_right _ (List.mem_append_right _ (List.mem_append_right _ (List.mem_append_right _ (List.mem_append_right _ (List.mem_append_left _ h0_)))))), (tb_c_X12_weighs w_ h0_).2⟩) (List.mem_cons_of_mem _ (List.mem_append_left _ (List.mem_of_getElem? (i := 13) rfl))) (List.mem_cons_of_mem _ (List.mem_append_left _ (List.mem_of_getElem? (i := 14) rfl))) (List.mem_cons_of_mem _ (List.mem_append_left _ (List.mem_of_getElem? (i := 15) rfl))) (List.mem_cons_of_mem _ (List.mem_append_left _ (List.mem_of_getElem? (i := 3) rfl)))) rfl rfl rfl (by decide +kernel) ⟨Nat.le_of_ble_eq_true rfl, Nat.le_of_ble_eq_true rfl⟩) ⟨fun a U g mk q => ⟨q.1, q.2.calling rfl rfl⟩, k_recv hK hI i_h0.1 k_12 (ci := 12) rfl, fun U hU hW => ⟨rfl, kIn.of hI hK hE hS hU hW⟩⟩ rfl rfl hl.1 rfl (lv_room (Nat.le_of_ble_eq_true rfl)) dX12_runsWith_19 ⟨Nat.le_of_ble_eq_true rfl, Nat.le_of_ble_eq_true rfl⟩) hS (fun q _ h => h) (fun q h => h) (fun r_101 u t H1 locs ht hvm w_100 hB hz1 hk1 hS => ?_)
    obtain ⟨f_99, hI, kc_102, q1_103, k_104, z_105, z_106, z_107, z_108⟩ := hB
    rw [ht] at hI
    have k_109 : f_99 h0 = .inr (12, [.int z0, .int z1, .ref (gr g h0 2), .ref (gr g h0 3), .ref (gr g h0 4), .ref (gr g h0 5), .ref (gr g h0 6), .ref (gr g h0 7), .ref (gr g h0 8), .ref (gr g h0 9), .int z10, .ref (gr g h0 11), .int z12, .int z13, .int z14, .int z15, .long z16, .int z17, .int z18, .ref (gr g h0 19), .ref (gr g h0 20), .ref (gr g h0 21), .ref (gr g h0 22), .int z23, .long z24, .long z25, .long z26]) := Kp.at kc_102 i_h0 (by decide) k_12
    have k_110 : f_99 (gr g h0 6) = .inl (gc g 1, 906, .inr (.inl pp1_7)) := Kp.at kc_102 i_3 (by decide) k_8
    have z_105 : RowOK q1_103 := z_105
    have d_111 := rk_hd z_105
    have z_106 : (q1_103 0).toInt = (q 0).toInt := z_106
    have z_107 : (q1_103 1).toInt = (q 1).toInt := z_107
    have z_108 : ∀ j : Nat, 11 ≤ j → j < 43 → q1_103 (6 + 43 * p1 + j) = q (6 + 43 * p1 + j) := z_108
    have kp_112 := Kp.call kp_15 kc_102 (by decide)
    generalize H1 = H at hI hS ⊢
    refine W.widen (k := 0) (n := 0) (Nat.le_of_ble_eq_true rfl) (Nat.le_of_ble_eq_true rfl) ?_
    refine lv_if_eq (tgt := 29) hx hb dX12_runsWith_22 (by decide) (fun c_113 => ?_) (fun c_113 => ?_)
    · have c_113 := kc_eq rfl (by decide : Int32.toInt 0 = 0) c_113
      refine lv_iconst (v := (-1)) hx hb dX12_runsWith_29 (by decide) ?_
      exact J_30 (-1) q1_103 f_99 _ _ _ hI hS k_104 z_105 k_109 k_110 kp_112 (by first | omega | decide | exact Or.inl (by decide) | (simp only [show Int32.toInt (-1) = (-1) from by decide] <;> omega)) (by first | omega | decide | exact Or.inl (by decide) | (simp only [show Int32.toInt (-1) = (-1) from by decide] <;> omega)) (lv_sub hl [0, 1, 2, 3] rfl)
    · have c_113 := kn_eq rfl (by decide : Int32.toInt 0 = 0) c_113
      exact J_25 q1_103 f_99 _ _ _ hI hS k_104 z_105 k_109 k_110 kp_112 (by first | omega | decide | exact Or.inl (by decide)) (by first | omega | decide | exact Or.inl (by decide)) (lv_sub hl [0, 1, 2, 3] rfl)
