theorem tw_903 : q_g (.code yX12_inState cX12_inState 4 (some .int)) := ⟨(List.mem_append_right _ (List.mem_of_getElem? (i := 1545) (by decide +kernel))), good_of_word (by decide +kernel)⟩
def ow_c_X12_inState : List Cond := [.fieldLink RX12 16 "DeadlineShareModel" "row" "[J", .methodLink RX12 87 yX12_at, .static yX12_at, .initialized RX12]
def wq_c_X12_inState : List Cond := .code yX12_inState cX12_inState 4 (some .int) :: (ow_c_X12_inState ++ (u_ws RX12 TX12 27 ++ (wq_c_X12_at ++ ([] : List Cond))))
theorem tb_c_X12_inState : ∀ w ∈ wq_c_X12_inState, q_g w := by
  unfold wq_c_X12_inState ow_c_X12_inState
  exact q_cons tw_903 (q_app (q_cons tw_731 (q_cons tw_734 (q_cons tw_733 (q_cons tw_728 q_nil)))) (q_app tu_X12 (q_app tb_c_X12_at q_nil)))
set_option maxHeartbeats 4000000 in
set_option maxRecDepth 100000 in
theorem c_X12_inState (l : Launch) (dC : Nat → ClassId) (dI : Nat → Nat → Nat) (g : kG) (A : Nat → Prop) (hG : kWf g) (f : Nat → va_E) (h0 : Nat) (p1 : Int32) (q : Nat → Int64) (i_h0 : ik g 12 h0) (hc0 : f (gr g h0 4) = .inl (gc g 1, 906, .inr (.inl q))) (hc0_ok : RowOK q) : Met l yX12_inState wq_c_X12_inState ({ frames := 1, cells := 0, slots := 0, locals := 20 } : Room) (va_Pc [.ref h0, .int p1] (fun U => kIn dC dI g A f U)) (va_Qi (fun (r : Int32) (_ : Unit) => True) (fun (_ : Unit) t => Iv dC dI g A f t.heap) A) 0 0 A := by
  refine Met.ofW (cc := cX12_inState) (maxL := 4) (ret := (some .int)) (by decide) rfl ?_
  intro p e s m args below meth c s₁ B hml hv
  obtain ⟨rfl, hI, hK, hE⟩ := hv
  have hx := B.exec
  have hb := B.bytes
  have hr := B.returns
  have hts := atoms_spec (ws := wq_c_X12_inState) B.pre
  have hown : s.vm.findClass RX12 = some m.cls := findClass_of_methodNamed B.named
  have hlocks := B.notSynchronized
  have hS : va_S A s.heap s.heap [] := va_S.rf
  have hl := lv_entry ([.ref h0, .int p1]) (n := 4) (Nat.le_of_ble_eq_true rfl)
  rw [lg_entry_eq]
  generalize (lg_sl ([.ref h0, .int p1]) ++ List.replicate (4 - (lg_sl ([.ref h0, .int p1])).length) Slot.unset).toArray = ls at hl ⊢
  have hl : lv_has ls 4 [(0, .ref h0), (1, .int p1)] := hl
  have i_1 := kw_12_4 hG i_h0
  have d_2 := rk_hd hc0_ok
  refine lv_iconst (v := 0) hx hb dX12_inState_0 (by decide) ?_
  refine lv_istore_n (lv' := [(2, .int 0), (0, .ref h0), (1, .int p1)]) hx hb dX12_inState_1 rfl hl (by decide) rfl (fun ls hl => ?_)
  refine lv_iconst (v := 0) hx hb dX12_inState_2 (by decide) ?_
  refine lv_istore_n (lv' := [(3, .int 0), (2, .int 0), (0, .ref h0), (1, .int p1)]) hx hb dX12_inState_3 rfl hl (by decide) rfl (fun ls hl => ?_)
  have K_4 : ∀ (nn : Nat) (y_3 : Nat) (y_4 : Int32) (H : Heap) (locs : List Loc) (ls : Array Slot), 12 - y_3 < nn → Iv dC dI g A f H → va_S A s.heap H locs → (y_3 ≤ 12) → lv_has ls 4 [(3, .int (nI y_3)), (2, .int y_4), (0, .ref h0), (1, .int p1)] → W p l e (headSpec wq_c_X12_inState ({ frames := 1, cells := 0, slots := 0, locals := 20 } : Room)).room s m ([.ref h0, .int p1].toArray) below meth c H locs 0 0 (MQ below (va_Qi (fun (r : Int32) (_ : Unit) => True) (fun (_ : Unit) t => Iv dC dI g A f t.heap) A) ([.ref h0, .int p1].toArray) s 0 0 A) (F0 m 4 ls []) := by
    intro nn
    induction nn with
    | zero => intro y_3 y_4 H locs ls m_6; exact absurd m_6 (Nat.not_lt_zero _)
    | succ nn ih =>
      intro y_3 y_4 H locs ls m_6 hI hS t_5 hl
      refine lv_iload_n hx hb dX12_inState_4 rfl (lv_at hl 0 rfl) ?_
      refine lv_i2l (v := lN (y_3)) hx hb dX12_inState_5 (nI_l (by omega)) ?_
      refine lv_aload_n hx hb dX12_inState_6 rfl (lv_at hl 2 rfl) ?_
      obtain ⟨x_8, x_9, x_10, x_11, x_12, x_13, x_14, x_15, x_16, x_17, x_18, x_19, x_20, x_21, k_7, b_22, b_23, b_24, b_25, b_26, b_27⟩ := op_12 hI i_h0
      refine k_get (ci := 12) (v := .ref (gr g h0 4)) (C := RX12) (T := TX12) (N := 27) hx hb hts (fun _ h0_ => List.mem_cons_of_mem _ (List.mem_append_right _ (List.mem_append_left _ h0_))) hown hK hI i_h0.1 k_7 rfl 4 (by decide) (hts (.fieldLink RX12 16 "DeadlineShareModel" "row" "[J") (List.mem_cons_of_mem _ (List.mem_append_left _ (List.mem_of_getElem? (i := 0) rfl)))) (fun _ h9 => h9) rfl dX12_inState_7 ?_
      refine lv_iconst (v := 0) hx hb dX12_inState_10 (by decide) ?_
      refine k_lald hx hb hK hI i_1.1 1 hc0 rfl (by unfold vp_in; decide) dX12_inState_11 ?_
      refine k_topl (y := q 0) (congrArg q (show Int32.toNatClampNeg 0 = 0 by decide)) ?_
      refine W.lcmp hx hb dX12_inState_12 ?_
      refine lv_if_ge (tgt := 47) hx hb dX12_inState_13 (by decide) (fun c_30 => ?_) (fun c_30 => ?_)
      · have c_30 := lc_le rfl (lN_toInt (n := y_3) (by omega)) ((lg_cmp_ge _ _).mp c_30)
        refine lv_iload_n hx hb dX12_inState_47 rfl (lv_at hl 1 rfl) ?_
        exact W.iret (v := y_4) hx hb hr (fun t ht hW => ⟨⟨y_4, (), rfl, trivial, k_ret ht hI⟩, hS.F ht⟩) hS.2.2 dX12_inState_48
      · have c_30 := ln_le rfl (lN_toInt (n := y_3) (by omega)) (fun h9 => c_30 ((lg_cmp_ge _ _).mpr h9))
        refine lv_iload_n hx hb dX12_inState_16 rfl (lv_at hl 1 rfl) ?_
        refine lv_aload_n hx hb dX12_inState_17 rfl (lv_at hl 2 rfl) ?_
        refine k_get (ci := 12) (v := .ref (gr g h0 4)) (C := RX12) (T := TX12) (N := 27) hx hb hts (fun _ h0_ => List.mem_cons_of_mem _ (List.mem_append_right _ (List.mem_append_left _ h0_))) hown hK hI i_h0.1 k_7 rfl 4 (by decide) (hts (.fieldLink RX12 16 "DeadlineShareModel" "row" "[J") (List.mem_cons_of_mem _ (List.mem_append_left _ (List.mem_of_getElem? (i := 0) rfl)))) (fun _ h9 => h9) rfl dX12_inState_18 ?_
        refine lv_iload_n hx hb dX12_inState_21 rfl (lv_at hl 0 rfl) ?_
        refine va_calli (va_runS (As := [.int (nI y_3)]) (rest := [.ref (gr g h0 4), .int y_4]) ⟨hx, hb, hml, hown, hts⟩ (c_X12_at l dC dI g A hG f y_3) (va_cwS 1 hts (gi_S (fun w_ h0_ => ⟨List.mem_cons_of_mem _ (List.mem_append_right _ (List.mem_append_right _ (List.mem_append_left _ h0_))), (tb_c_X12_at w_ h0_).2⟩) (List.mem_cons_of_mem _ (List.mem_append_left _ (List.mem_of_getElem? (i := 1) rfl))) (List.mem_cons_of_mem _ (List.mem_append_left _ (List.mem_of_getElem? (i := 2) rfl))) (List.mem_cons_of_mem _ (List.mem_append_left _ (List.mem_of_getElem? (i := 3) rfl)))) rfl rfl rfl (by decide +kernel) ⟨Nat.le_of_ble_eq_true rfl, Nat.le_of_ble_eq_true rfl⟩) ⟨fun a U g mk q => ⟨q.1, q.2.calling rfl rfl⟩, fun U hU hW => ⟨rfl, kIn.of hI hK hE hS hU hW⟩⟩ rfl rfl hl.1 rfl (lv_room (Nat.le_of_ble_eq_true rfl)) dX12_inState_22 ⟨Nat.le_of_ble_eq_true rfl, Nat.le_of_ble_eq_true rfl⟩) hS (fun q _ h => h) (fun q h => h) (fun r_34 u t H1 locs ht hvm w_33 hB hz1 hk1 hS => ?_)
        have hI : Iv dC dI g A f t.heap := hB
        rw [ht] at hI
        generalize H1 = H at hI hS ⊢
        refine W.widen (k := 0) (n := 0) (Nat.le_of_ble_eq_true rfl) (Nat.le_of_ble_eq_true rfl) ?_
        have w_33 : r_34 = nI (6 + 43 * y_3) := w_33
        refine k_topi (y := nI (6 + 43 * y_3)) w_33 ?_
        refine lv_iconst (v := 2) hx hb dX12_inState_25 (by decide) ?_
        refine lv_iadd hx hb dX12_inState_26 ?_
        refine k_topi (y := nI (6 + 43 * y_3 + 2)) ((nI_add (6 + 43 * y_3) 2).trans (congrArg nI (by omega))) ?_
        refine k_lald hx hb hK hI i_1.1 1 hc0 rfl (vp_in_nI (by omega) (by omega)) dX12_inState_27 ?_
        refine k_topl (y := q (6 + 43 * y_3 + 2)) (congrArg q (nI_clamp (by omega))) ?_
        refine lv_iload_n hx hb dX12_inState_28 rfl (lv_at hl 3 rfl) ?_
        refine lv_i2l (v := p1.toInt64) hx hb dX12_inState_29 rfl ?_
        have t_35 := Int32.toInt_toInt64 p1
        refine W.lcmp hx hb dX12_inState_30 ?_
        have J_39 : ∀ (y_36 : Int32) (H : Heap) (locs : List Loc) (ls : Array Slot), Iv dC dI g A f H → va_S A s.heap H locs → lv_has ls 4 [(3, .int (nI y_3)), (2, .int y_4), (0, .ref h0), (1, .int p1)] → W p l e (headSpec wq_c_X12_inState ({ frames := 1, cells := 0, slots := 0, locals := 20 } : Room)).room s m ([.ref h0, .int p1].toArray) below meth c H locs 0 0 (MQ below (va_Qi (fun (r : Int32) (_ : Unit) => True) (fun (_ : Unit) t => Iv dC dI g A f t.heap) A) ([.ref h0, .int p1].toArray) s 0 0 A) (F0 m 39 ls [.int y_36, .int y_4]) := by
          intro y_36 H locs ls hI hS  hl
          refine lv_iadd hx hb dX12_inState_39 ?_
          refine lv_topi (fun v_37 ev_37 => ?_)
          have tv_37 := k_ad y_4 y_36
          rw [← ev_37] at tv_37
          refine lv_istore_n (lv' := [(2, .int v_37), (3, .int (nI y_3)), (0, .ref h0), (1, .int p1)]) hx hb dX12_inState_40 rfl hl (by decide) rfl (fun ls hl => ?_)
          refine lv_iinc (v := nI (y_3 + 1)) (lv' := [(3, .int (nI (y_3 + 1))), (2, .int v_37), (0, .ref h0), (1, .int p1)]) hx hb dX12_inState_41 hl (k := 1) rfl (nI_1 _) (by decide) rfl (fun ls hl => ?_)
          refine lv_goto (tgt := 4) hx hb dX12_inState_44 (by decide) ?_
          exact ih (y_3 + 1) v_37 _ _ _ (by omega) hI hS (by first | omega | decide | exact Or.inl (by decide)) (lv_sub hl [0, 1, 2, 3] rfl)
        refine lv_if_ne (tgt := 38) hx hb dX12_inState_31 (by decide) (fun c_38 => ?_) (fun c_38 => ?_)
        · have c_38 := ln_eq rfl rfl (fun h9 => c_38 ((lg_cmp_eq _ _).mpr h9))
          refine lv_iconst (v := 0) hx hb dX12_inState_38 (by decide) ?_
          exact J_39 0 _ _ _ hI hS  (lv_sub hl [0, 1, 2, 3] rfl)
        · have c_38 := lc_eq rfl rfl ((lg_cmp_eq _ _).mp c_38)
          refine lv_iconst (v := 1) hx hb dX12_inState_34 (by decide) ?_
          refine lv_goto (tgt := 39) hx hb dX12_inState_35 (by decide) ?_
          exact J_39 1 _ _ _ hI hS  (lv_sub hl [0, 1, 2, 3] rfl)
  exact K_4 _ 0 0 _ _ _ (Nat.lt_succ_self _) hI hS (by first | omega | decide | exact Or.inl (by decide) | (simp only [show Int32.toInt 0 = 0 from by decide] <;> omega)) (lv_sub hl [0, 1, 2, 3] rfl)
theorem tw_904 : q_g (.code yX12_scripted cX12_scripted 3 (some .int)) := ⟨(List.mem_append_right _ (List.mem_of_getElem? (i := 1549) (by decide +kernel))), good_of_word (by decide +kernel)⟩
def ow_c_X12_scripted : List Cond := [.fieldLink RX12 16 "DeadlineShareModel" "row" "[J", .methodLink RX12 87 yX12_at, .static yX12_at, .initialized RX12]
def wq_c_X12_scripted : List Cond := .code yX12_scripted cX12_scripted 3 (some .int) :: (ow_c_X12_scripted ++ (u_ws RX12 TX12 27 ++ (wq_c_X12_at ++ ([] : List Cond))))
theorem tb_c_X12_scripted : ∀ w ∈ wq_c_X12_scripted, q_g w := by
  unfold wq_c_X12_scripted ow_c_X12_scripted
  exact q_cons tw_904 (q_app (q_cons tw_731 (q_cons tw_734 (q_cons tw_733 (q_cons tw_728 q_nil)))) (q_app tu_X12 (q_app tb_c_X12_at q_nil)))
set_option maxHeartbeats 4000000 in
set_option maxRecDepth 100000 in
theorem c_X12_scripted (l : Launch) (dC : Nat → ClassId) (dI : Nat → Nat → Nat) (g : kG) (A : Nat → Prop) (hG : kWf g) (f : Nat → va_E) (h0 : Nat) (q : Nat → Int64) (i_h0 : ik g 12 h0) (hc0 : f (gr g h0 4) = .inl (gc g 1, 906, .inr (.inl q))) (hc0_ok : RowOK q) : Met l yX12_scripted wq_c_X12_scripted ({ frames := 1, cells := 0, slots := 0, locals := 20 } : Room) (va_Pc [.ref h0] (fun U => kIn dC dI g A f U)) (va_Qi (fun (r : Int32) (_ : Unit) => True) (fun (_ : Unit) t => Iv dC dI g A f t.heap) A) 0 0 A := by
  refine Met.ofW (cc := cX12_scripted) (maxL := 3) (ret := (some .int)) (by decide) rfl ?_
  intro p e s m args below meth c s₁ B hml hv
  obtain ⟨rfl, hI, hK, hE⟩ := hv
  have hx := B.exec
  have hb := B.bytes
  have hr := B.returns
  have hts := atoms_spec (ws := wq_c_X12_scripted) B.pre
  have hown : s.vm.findClass RX12 = some m.cls := findClass_of_methodNamed B.named
  have hlocks := B.notSynchronized
  have hS : va_S A s.heap s.heap [] := va_S.rf
  have hl := lv_entry ([.ref h0]) (n := 3) (Nat.le_of_ble_eq_true rfl)
  rw [lg_entry_eq]
  generalize (lg_sl ([.ref h0]) ++ List.replicate (3 - (lg_sl ([.ref h0])).length) Slot.unset).toArray = ls at hl ⊢
  have hl : lv_has ls 3 [(0, .ref h0)] := hl
  have i_1 := kw_12_4 hG i_h0
  have d_2 := rk_hd hc0_ok
  refine lv_iconst (v := 0) hx hb dX12_scripted_0 (by decide) ?_
  refine lv_istore_n (lv' := [(1, .int 0), (0, .ref h0)]) hx hb dX12_scripted_1 rfl hl (by decide) rfl (fun ls hl => ?_)
  refine lv_iconst (v := 0) hx hb dX12_scripted_2 (by decide) ?_
  refine lv_istore_n (lv' := [(2, .int 0), (1, .int 0), (0, .ref h0)]) hx hb dX12_scripted_3 rfl hl (by decide) rfl (fun ls hl => ?_)
  have K_4 : ∀ (nn : Nat) (y_3 : Nat) (y_4 : Int32) (H : Heap) (locs : List Loc) (ls : Array Slot), 12 - y_3 < nn → Iv dC dI g A f H → va_S A s.heap H locs → (y_3 ≤ 12) → lv_has ls 3 [(2, .int (nI y_3)), (1, .int y_4), (0, .ref h0)] → W p l e (headSpec wq_c_X12_scripted ({ frames := 1, cells := 0, slots := 0, locals := 20 } : Room)).room s m ([.ref h0].toArray) below meth c H locs 0 0 (MQ below (va_Qi (fun (r : Int32) (_ : Unit) => True) (fun (_ : Unit) t => Iv dC dI g A f t.heap) A) ([.ref h0].toArray) s 0 0 A) (F0 m 4 ls []) := by
    intro nn
    induction nn with
    | zero => intro y_3 y_4 H locs ls m_6; exact absurd m_6 (Nat.not_lt_zero _)
    | succ nn ih =>
      intro y_3 y_4 H locs ls m_6 hI hS t_5 hl
      refine lv_iload_n hx hb dX12_scripted_4 rfl (lv_at hl 0 rfl) ?_
      refine lv_i2l (v := lN (y_3)) hx hb dX12_scripted_5 (nI_l (by omega)) ?_
      refine lv_aload_n hx hb dX12_scripted_6 rfl (lv_at hl 2 rfl) ?_
      obtain ⟨x_8, x_9, x_10, x_11, x_12, x_13, x_14, x_15, x_16, x_17, x_18, x_19, x_20, x_21, k_7, b_22, b_23, b_24, b_25, b_26, b_27⟩ := op_12 hI i_h0
      refine k_get (ci := 12) (v := .ref (gr g h0 4)) (C := RX12) (T := TX12) (N := 27) hx hb hts (fun _ h0_ => List.mem_cons_of_mem _ (List.mem_append_right _ (List.mem_append_left _ h0_))) hown hK hI i_h0.1 k_7 rfl 4 (by decide) (hts (.fieldLink RX12 16 "DeadlineShareModel" "row" "[J") (List.mem_cons_of_mem _ (List.mem_append_left _ (List.mem_of_getElem? (i := 0) rfl)))) (fun _ h9 => h9) rfl dX12_scripted_7 ?_
      refine lv_iconst (v := 0) hx hb dX12_scripted_10 (by decide) ?_
      refine k_lald hx hb hK hI i_1.1 1 hc0 rfl (by unfold vp_in; decide) dX12_scripted_11 ?_
      refine k_topl (y := q 0) (congrArg q (show Int32.toNatClampNeg 0 = 0 by decide)) ?_
      refine W.lcmp hx hb dX12_scripted_12 ?_
      refine lv_if_ge (tgt := 47) hx hb dX12_scripted_13 (by decide) (fun c_30 => ?_) (fun c_30 => ?_)
      · have c_30 := lc_le rfl (lN_toInt (n := y_3) (by omega)) ((lg_cmp_ge _ _).mp c_30)
        refine lv_iload_n hx hb dX12_scripted_47 rfl (lv_at hl 1 rfl) ?_
        exact W.iret (v := y_4) hx hb hr (fun t ht hW => ⟨⟨y_4, (), rfl, trivial, k_ret ht hI⟩, hS.F ht⟩) hS.2.2 dX12_scripted_48
      · have c_30 := ln_le rfl (lN_toInt (n := y_3) (by omega)) (fun h9 => c_30 ((lg_cmp_ge _ _).mpr h9))
        refine lv_iload_n hx hb dX12_scripted_16 rfl (lv_at hl 1 rfl) ?_
        refine lv_aload_n hx hb dX12_scripted_17 rfl (lv_at hl 2 rfl) ?_
        refine k_get (ci := 12) (v := .ref (gr g h0 4)) (C := RX12) (T := TX12) (N := 27) hx hb hts (fun _ h0_ => List.mem_cons_of_mem _ (List.mem_append_right _ (List.mem_append_left _ h0_))) hown hK hI i_h0.1 k_7 rfl 4 (by decide) (hts (.fieldLink RX12 16 "DeadlineShareModel" "row" "[J") (List.mem_cons_of_mem _ (List.mem_append_left _ (List.mem_of_getElem? (i := 0) rfl)))) (fun _ h9 => h9) rfl dX12_scripted_18 ?_
        refine lv_iload_n hx hb dX12_scripted_21 rfl (lv_at hl 0 rfl) ?_
        refine va_calli (va_runS (As := [.int (nI y_3)]) (rest := [.ref (gr g h0 4), .int y_4]) ⟨hx, hb, hml, hown, hts⟩ (c_X12_at l dC dI g A hG f y_3) (va_cwS 1 hts (gi_S (fun w_ h0_ => ⟨List.mem_cons_of_mem _ (List.mem_append_right _ (List.mem_append_right _ (List.mem_append_left _ h0_))), (tb_c_X12_at w_ h0_).2⟩) (List.mem_cons_of_mem _ (List.mem_append_left _ (List.mem_of_getElem? (i := 1) rfl))) (List.mem_cons_of_mem _ (List.mem_append_left _ (List.mem_of_getElem? (i := 2) rfl))) (List.mem_cons_of_mem _ (List.mem_append_left _ (List.mem_of_getElem? (i := 3) rfl)))) rfl rfl rfl (by decide +kernel) ⟨Nat.le_of_ble_eq_true rfl, Nat.le_of_ble_eq_true rfl⟩) ⟨fun a U g mk q => ⟨q.1, q.2.calling rfl rfl⟩, fun U hU hW => ⟨rfl, kIn.of hI hK hE hS hU hW⟩⟩ rfl rfl hl.1 rfl (lv_room (Nat.le_of_ble_eq_true rfl)) dX12_scripted_22 ⟨Nat.le_of_ble_eq_true rfl, Nat.le_of_ble_eq_true rfl⟩) hS (fun q _ h => h) (fun q h => h) (fun r_34 u t H1 locs ht hvm w_33 hB hz1 hk1 hS => ?_)
        have hI : Iv dC dI g A f t.heap := hB
        rw [ht] at hI
        generalize H1 = H at hI hS ⊢
        refine W.widen (k := 0) (n := 0) (Nat.le_of_ble_eq_true rfl) (Nat.le_of_ble_eq_true rfl) ?_
        have w_33 : r_34 = nI (6 + 43 * y_3) := w_33
        refine k_topi (y := nI (6 + 43 * y_3)) w_33 ?_
        refine lv_bipush (v := 13) hx hb dX12_scripted_25 (by decide) ?_
        refine lv_iadd hx hb dX12_scripted_27 ?_
        refine k_topi (y := nI (6 + 43 * y_3 + 13)) ((nI_add (6 + 43 * y_3) 13).trans (congrArg nI (by omega))) ?_
        refine k_lald hx hb hK hI i_1.1 1 hc0 rfl (vp_in_nI (by omega) (by omega)) dX12_scripted_28 ?_
        refine k_topl (y := q (6 + 43 * y_3 + 13)) (congrArg q (nI_clamp (by omega))) ?_
        have d_35 := rk_13 hc0_ok (t := y_3) (by omega)
        refine lv_lconst (v := 0) hx hb dX12_scripted_29 (by decide) ?_
        refine W.lcmp hx hb dX12_scripted_30 ?_
        have J_39 : ∀ (y_36 : Int32) (H : Heap) (locs : List Loc) (ls : Array Slot), Iv dC dI g A f H → va_S A s.heap H locs → lv_has ls 3 [(2, .int (nI y_3)), (1, .int y_4), (0, .ref h0)] → W p l e (headSpec wq_c_X12_scripted ({ frames := 1, cells := 0, slots := 0, locals := 20 } : Room)).room s m ([.ref h0].toArray) below meth c H locs 0 0 (MQ below (va_Qi (fun (r : Int32) (_ : Unit) => True) (fun (_ : Unit) t => Iv dC dI g A f t.heap) A) ([.ref h0].toArray) s 0 0 A) (F0 m 39 ls [.int y_36, .int y_4]) := by
          intro y_36 H locs ls hI hS  hl
          refine lv_iadd hx hb dX12_scripted_39 ?_
          refine lv_topi (fun v_37 ev_37 => ?_)
          have tv_37 := k_ad y_4 y_36
          rw [← ev_37] at tv_37
          refine lv_istore_n (lv' := [(1, .int v_37), (2, .int (nI y_3)), (0, .ref h0)]) hx hb dX12_scripted_40 rfl hl (by decide) rfl (fun ls hl => ?_)
          refine lv_iinc (v := nI (y_3 + 1)) (lv' := [(2, .int (nI (y_3 + 1))), (1, .int v_37), (0, .ref h0)]) hx hb dX12_scripted_41 hl (k := 1) rfl (nI_1 _) (by decide) rfl (fun ls hl => ?_)
          refine lv_goto (tgt := 4) hx hb dX12_scripted_44 (by decide) ?_
          exact ih (y_3 + 1) v_37 _ _ _ (by omega) hI hS (by first | omega | decide | exact Or.inl (by decide)) (lv_sub hl [0, 1, 2] rfl)
        refine lv_if_le (tgt := 38) hx hb dX12_scripted_31 (by decide) (fun c_38 => ?_) (fun c_38 => ?_)
        · have c_38 := lc_le rfl (by decide : Int64.toInt 0 = 0) ((lg_cmp_le _ _).mp c_38)
          refine lv_iconst (v := 0) hx hb dX12_scripted_38 (by decide) ?_
          exact J_39 0 _ _ _ hI hS  (lv_sub hl [0, 1, 2] rfl)
        · have c_38 := ln_le rfl (by decide : Int64.toInt 0 = 0) (fun h9 => c_38 ((lg_cmp_le _ _).mpr h9))
          refine lv_iconst (v := 1) hx hb dX12_scripted_34 (by decide) ?_
          refine lv_goto (tgt := 39) hx hb dX12_scripted_35 (by decide) ?_
          exact J_39 1 _ _ _ hI hS  (lv_sub hl [0, 1, 2] rfl)
  exact K_4 _ 0 0 _ _ _ (Nat.lt_succ_self _) hI hS (by first | omega | decide | exact Or.inl (by decide) | (simp only [show Int32.toInt 0 = 0 from by decide] <;> omega)) (lv_sub hl [0, 1, 2] rfl)
theorem tw_905 : q_g (.code yX12_aheadOf cX12_aheadOf 4 (some .int)) := ⟨(List.mem_append_right _ (List.mem_of_getElem? (i := 1466) (by decide +kernel))), good_of_word (by decide +kernel)⟩
def ow_c_X12_aheadOf : List Cond := [.fieldLink RX12 16 "DeadlineShareModel" "row" "[J", .methodLink RX12 244 yX12_isEligible, .instanceMethod yX12_isEligible, .selects RX12 yX12_isEligible yX12_isEligible, .initialized RX12, .methodLink RX12 167 yX12_deadline, .instanceMethod yX12_deadline, .selects RX12 yX12_deadline yX12_deadline]
def wq_c_X12_aheadOf : List Cond := .code yX12_aheadOf cX12_aheadOf 4 (some .int) :: (ow_c_X12_aheadOf ++ (u_ws RX12 TX12 27 ++ (wq_c_X12_isEligible ++ (wq_c_X12_deadline ++ ([] : List Cond)))))
theorem tb_c_X12_aheadOf : ∀ w ∈ wq_c_X12_aheadOf, q_g w := by
  unfold wq_c_X12_aheadOf ow_c_X12_aheadOf
  exact q_cons tw_905 (q_app (q_cons tw_731 (q_cons tw_779 (q_cons tw_778 (q_cons tw_777 (q_cons tw_728 (q_cons tw_782 (q_cons tw_781 (q_cons tw_780 q_nil)))))))) (q_app tu_X12 (q_app tb_c_X12_isEligible (q_app tb_c_X12_deadline q_nil))))
set_option maxHeartbeats 4000000 in
set_option maxRecDepth 100000 in
theorem c_X12_aheadOf (l : Launch) (dC : Nat → ClassId) (dI : Nat → Nat → Nat) (g : kG) (A : Nat → Prop) (hG : kWf g) (f : Nat → va_E) (h0 : Nat) (p1 : Nat) (q : Nat → Int64) (i_h0 : ik g 12 h0) (hc0 : f (gr g h0 4) = .inl (gc g 1, 906, .inr (.inl q))) (hc0_ok : RowOK q) (ht : (p1 : Int) < (q 0).toInt) : Met l yX12_aheadOf wq_c_X12_aheadOf ({ frames := 4, cells := 0, slots := 0, locals := 85 } : Room) (va_Pc [.ref h0, .int (nI p1)] (fun U => kIn dC dI g A f U)) (va_Qi (fun (r : Int32) (_ : Unit) => True) (fun (_ : Unit) t => Iv dC dI g A f t.heap) A) 0 0 A := by
  refine Met.ofW (cc := cX12_aheadOf) (maxL := 4) (ret := (some .int)) (by decide) rfl ?_
  intro p e s m args below meth c s₁ B hml hv
  obtain ⟨rfl, hI, hK, hE⟩ := hv
  have hx := B.exec
  have hb := B.bytes
  have hr := B.returns
  have hts := atoms_spec (ws := wq_c_X12_aheadOf) B.pre
  have hown : s.vm.findClass RX12 = some m.cls := findClass_of_methodNamed B.named
  have hlocks := B.notSynchronized
  have hS : va_S A s.heap s.heap [] := va_S.rf
  have hl := lv_entry ([.ref h0, .int (nI p1)]) (n := 4) (Nat.le_of_ble_eq_true rfl)
  rw [lg_entry_eq]
  generalize (lg_sl ([.ref h0, .int (nI p1)]) ++ List.replicate (4 - (lg_sl ([.ref h0, .int (nI p1)])).length) Slot.unset).toArray = ls at hl ⊢
  have hl : lv_has ls 4 [(0, .ref h0), (1, .int (nI p1))] := hl
  have i_1 := kw_12_4 hG i_h0
  have d_2 := rk_hd hc0_ok
  refine lv_iconst (v := 0) hx hb dX12_aheadOf_0 (by decide) ?_
  refine lv_istore_n (lv' := [(2, .int 0), (0, .ref h0), (1, .int (nI p1))]) hx hb dX12_aheadOf_1 rfl hl (by decide) rfl (fun ls hl => ?_)
  refine lv_iconst (v := 0) hx hb dX12_aheadOf_2 (by decide) ?_
  refine lv_istore_n (lv' := [(3, .int 0), (2, .int 0), (0, .ref h0), (1, .int (nI p1))]) hx hb dX12_aheadOf_3 rfl hl (by decide) rfl (fun ls hl => ?_)
  have K_4 : ∀ (nn : Nat) (y_3 : Nat) (y_4 : Int32) (H : Heap) (locs : List Loc) (ls : Array Slot), 12 - y_3 < nn → Iv dC dI g A f H → va_S A s.heap H locs → (y_3 ≤ 12) → lv_has ls 4 [(3, .int (nI y_3)), (2, .int y_4), (0, .ref h0), (1, .int (nI p1))] → W p l e (headSpec wq_c_X12_aheadOf ({ frames := 4, cells := 0, slots := 0, locals := 85 } : Room)).room s m ([.ref h0, .int (nI p1)].toArray) below meth c H locs 0 0 (MQ below (va_Qi (fun (r : Int32) (_ : Unit) => True) (fun (_ : Unit) t => Iv dC dI g A f t.heap) A) ([.ref h0, .int (nI p1)].toArray) s 0 0 A) (F0 m 4 ls []) := by
    intro nn
    induction nn with
    | zero => intro y_3 y_4 H locs ls m_6; exact absurd m_6 (Nat.not_lt_zero _)
    | succ nn ih =>
      intro y_3 y_4 H locs ls m_6 hI hS t_5 hl
      refine lv_iload_n hx hb dX12_aheadOf_4 rfl (lv_at hl 0 rfl) ?_
      refine lv_i2l (v := lN (y_3)) hx hb dX12_aheadOf_5 (nI_l (by omega)) ?_
      refine lv_aload_n hx hb dX12_aheadOf_6 rfl (lv_at hl 2 rfl) ?_
      obtain ⟨x_8, x_9, x_10, x_11, x_12, x_13, x_14, x_15, x_16, x_17, x_18, x_19, x_20, x_21, k_7, b_22, b_23, b_24, b_25, b_26, b_27⟩ := op_12 hI i_h0
      refine k_get (ci := 12) (v := .ref (gr g h0 4)) (C := RX12) (T := TX12) (N := 27) hx hb hts (fun _ h0_ => List.mem_cons_of_mem _ (List.mem_append_right _ (List.mem_append_left _ h0_))) hown hK hI i_h0.1 k_7 rfl 4 (by decide) (hts (.fieldLink RX12 16 "DeadlineShareModel" "row" "[J") (List.mem_cons_of_mem _ (List.mem_append_left _ (List.mem_of_getElem? (i := 0) rfl)))) (fun _ h9 => h9) rfl dX12_aheadOf_7 ?_
      refine lv_iconst (v := 0) hx hb dX12_aheadOf_10 (by decide) ?_
      refine k_lald hx hb hK hI i_1.1 1 hc0 rfl (by unfold vp_in; decide) dX12_aheadOf_11 ?_
      refine k_topl (y := q 0) (congrArg q (show Int32.toNatClampNeg 0 = 0 by decide)) ?_
      refine W.lcmp hx hb dX12_aheadOf_12 ?_
      refine lv_if_ge (tgt := 76) hx hb dX12_aheadOf_13 (by decide) (fun c_30 => ?_) (fun c_30 => ?_)
      · have c_30 := lc_le rfl (lN_toInt (n := y_3) (by omega)) ((lg_cmp_ge _ _).mp c_30)
        refine lv_iload_n hx hb dX12_aheadOf_76 rfl (lv_at hl 1 rfl) ?_
        exact W.iret (v := y_4) hx hb hr (fun t ht hW => ⟨⟨y_4, (), rfl, trivial, k_ret ht hI⟩, hS.F ht⟩) hS.2.2 dX12_aheadOf_77
      · have c_30 := ln_le rfl (lN_toInt (n := y_3) (by omega)) (fun h9 => c_30 ((lg_cmp_ge _ _).mpr h9))
        refine lv_iload_n hx hb dX12_aheadOf_16 rfl (lv_at hl 1 rfl) ?_
        refine lv_iload_n hx hb dX12_aheadOf_17 rfl (lv_at hl 0 rfl) ?_
        refine lv_iload_n hx hb dX12_aheadOf_18 rfl (lv_at hl 3 rfl) ?_
        have J_68 : ∀ (y_31 : Int32) (H : Heap) (locs : List Loc) (ls : Array Slot), Iv dC dI g A f H → va_S A s.heap H locs → lv_has ls 4 [(3, .int (nI y_3)), (2, .int y_4), (0, .ref h0), (1, .int (nI p1))] → W p l e (headSpec wq_c_X12_aheadOf ({ frames := 4, cells := 0, slots := 0, locals := 85 } : Room)).room s m ([.ref h0, .int (nI p1)].toArray) below meth c H locs 0 0 (MQ below (va_Qi (fun (r : Int32) (_ : Unit) => True) (fun (_ : Unit) t => Iv dC dI g A f t.heap) A) ([.ref h0, .int (nI p1)].toArray) s 0 0 A) (F0 m 68 ls [.int y_31, .int y_4]) := by
          intro y_31 H locs ls hI hS  hl
          refine lv_iadd hx hb dX12_aheadOf_68 ?_
          refine lv_topi (fun v_32 ev_32 => ?_)
          have tv_32 := k_ad y_4 y_31
          rw [← ev_32] at tv_32
          refine lv_istore_n (lv' := [(2, .int v_32), (3, .int (nI y_3)), (0, .ref h0), (1, .int (nI p1))]) hx hb dX12_aheadOf_69 rfl hl (by decide) rfl (fun ls hl => ?_)
          refine lv_iinc (v := nI (y_3 + 1)) (lv' := [(3, .int (nI (y_3 + 1))), (2, .int v_32), (0, .ref h0), (1, .int (nI p1))]) hx hb dX12_aheadOf_70 hl (k := 1) rfl (nI_1 _) (by decide) rfl (fun ls hl => ?_)
          refine lv_goto (tgt := 4) hx hb dX12_aheadOf_73 (by decide) ?_
          exact ih (y_3 + 1) v_32 _ _ _ (by omega) hI hS (by first | omega | decide | exact Or.inl (by decide)) (lv_sub hl [0, 1, 2, 3] rfl)
        have J_67 : ∀ (H : Heap) (locs : List Loc) (ls : Array Slot), Iv dC dI g A f H → va_S A s.heap H locs → lv_has ls 4 [(3, .int (nI y_3)), (2, .int y_4), (0, .ref h0), (1, .int (nI p1))] → W p l e (headSpec wq_c_X12_aheadOf ({ frames := 4, cells := 0, slots := 0, locals := 85 } : Room)).room s m ([.ref h0, .int (nI p1)].toArray) below meth c H locs 0 0 (MQ below (va_Qi (fun (r : Int32) (_ : Unit) => True) (fun (_ : Unit) t => Iv dC dI g A f t.heap) A) ([.ref h0, .int (nI p1)].toArray) s 0 0 A) (F0 m 67 ls [.int y_4]) := by
          intro H locs ls hI hS  hl
          refine lv_iconst (v := 0) hx hb dX12_aheadOf_67 (by decide) ?_
          exact J_68 0 _ _ _ hI hS  (lv_sub hl [0, 1, 2, 3] rfl)
        refine lv_icmp_eq (tgt := 67) hx hb dX12_aheadOf_19 (by decide) (fun c_33 => ?_) (fun c_33 => ?_)
        · have c_33 := kc_eq (nI_toInt (n := y_3) (by omega)) (nI_toInt (n := p1) (by omega)) c_33
          exact J_67  _ _ _ hI hS  (lv_sub hl [0, 1, 2, 3] rfl)
        · have c_33 := kn_eq (nI_toInt (n := y_3) (by omega)) (nI_toInt (n := p1) (by omega)) c_33
          refine lv_aload_n hx hb dX12_aheadOf_22 rfl (lv_at hl 2 rfl) ?_
          refine lv_iload_n hx hb dX12_aheadOf_23 rfl (lv_at hl 0 rfl) ?_
          refine va_calli (va_runV (As := [.int (nI y_3)]) (rest := [.int y_4]) ⟨hx, hb, hml, hown, hts⟩ (c_X12_isEligible l dC dI g A hG f h0 y_3 q i_h0 hc0 hc0_ok (by first | omega | decide | (simp only [k_c0, k_c1, k_cm1] <;> omega))) (cwV 1 hts (gi_V (fun w_ h0_ => ⟨List.mem_cons_of_mem _ (List.mem_append_right _ (List.mem_append_right _ (List.mem_append_left _ h0_))), (tb_c_X12_isEligible w_ h0_).2⟩) (List.mem_cons_of_mem _ (List.mem_append_left _ (List.mem_of_getElem? (i := 1) rfl))) (List.mem_cons_of_mem _ (List.mem_append_left _ (List.mem_of_getElem? (i := 2) rfl))) (List.mem_cons_of_mem _ (List.mem_append_left _ (List.mem_of_getElem? (i := 3) rfl))) (List.mem_cons_of_mem _ (List.mem_append_left _ (List.mem_of_getElem? (i := 4) rfl)))) rfl rfl rfl (by decide +kernel) ⟨Nat.le_of_ble_eq_true rfl, Nat.le_of_ble_eq_true rfl⟩) ⟨fun a U g mk q => ⟨q.1, q.2.calling rfl rfl⟩, k_recv hK hI i_h0.1 k_7 (ci := 12) rfl, fun U hU hW => ⟨rfl, kIn.of hI hK hE hS hU hW⟩⟩ rfl rfl hl.1 rfl (lv_room (Nat.le_of_ble_eq_true rfl)) dX12_aheadOf_24 ⟨Nat.le_of_ble_eq_true rfl, Nat.le_of_ble_eq_true rfl⟩) hS (fun q _ h => h) (fun q h => h) (fun r_35 u t H1 locs ht hvm w_34 hB hz1 hk1 hS => ?_)
          have hI : Iv dC dI g A f t.heap := hB
          rw [ht] at hI
          generalize H1 = H at hI hS ⊢
          refine W.widen (k := 0) (n := 0) (Nat.le_of_ble_eq_true rfl) (Nat.le_of_ble_eq_true rfl) ?_
          refine lv_if_eq (tgt := 67) hx hb dX12_aheadOf_27 (by decide) (fun c_36 => ?_) (fun c_36 => ?_)
          · have c_36 := kc_eq rfl (by decide : Int32.toInt 0 = 0) c_36
            exact J_67  _ _ _ hI hS  (lv_sub hl [0, 1, 2, 3] rfl)
          · have c_36 := kn_eq rfl (by decide : Int32.toInt 0 = 0) c_36
            refine lv_aload_n hx hb dX12_aheadOf_30 rfl (lv_at hl 2 rfl) ?_
            refine lv_iload_n hx hb dX12_aheadOf_31 rfl (lv_at hl 0 rfl) ?_
            refine va_calll (va_runV (As := [.int (nI y_3)]) (rest := [.int y_4]) ⟨hx, hb, hml, hown, hts⟩ (c_X12_deadline l dC dI g A hG f h0 y_3 q i_h0 hc0 hc0_ok (by first | omega | decide | (simp only [k_c0, k_c1, k_cm1] <;> omega))) (cwV 1 hts (gi_V (fun w_ h0_ => ⟨List.mem_cons_of_mem _ (List.mem_append_right _ (List.mem_append_right _ (List.mem_append_right _ (List.mem_append_left _ h0_)))), (tb_c_X12_deadline w_ h0_).2⟩) (List.mem_cons_of_mem _ (List.mem_append_left _ (List.mem_of_getElem? (i := 5) rfl))) (List.mem_cons_of_mem _ (List.mem_append_left _ (List.mem_of_getElem? (i := 6) rfl))) (List.mem_cons_of_mem _ (List.mem_append_left _ (List.mem_of_getElem? (i := 7) rfl))) (List.mem_cons_of_mem _ (List.mem_append_left _ (List.mem_of_getElem? (i := 4) rfl)))) rfl rfl rfl (by decide +kernel) ⟨Nat.le_of_ble_eq_true rfl, Nat.le_of_ble_eq_true rfl⟩) ⟨fun a U g mk q => ⟨q.1, q.2.calling rfl rfl⟩, k_recv hK hI i_h0.1 k_7 (ci := 12) rfl, fun U hU hW => ⟨rfl, kIn.of hI hK hE hS hU hW⟩⟩ rfl rfl hl.1 rfl (lv_room (Nat.le_of_ble_eq_true rfl)) dX12_aheadOf_32 ⟨Nat.le_of_ble_eq_true rfl, Nat.le_of_ble_eq_true rfl⟩) hS (fun q _ h => h) (fun q h => h) (fun r_38 u t H1 locs ht hvm w_37 hB hz1 hk1 hS => ?_)
            have hI : Iv dC dI g A f t.heap := hB
            rw [ht] at hI
            generalize H1 = H at hI hS ⊢
            refine W.widen (k := 0) (n := 0) (Nat.le_of_ble_eq_true rfl) (Nat.le_of_ble_eq_true rfl) ?_
            refine lv_aload_n hx hb dX12_aheadOf_35 rfl (lv_at hl 2 rfl) ?_
            refine lv_iload_n hx hb dX12_aheadOf_36 rfl (lv_at hl 3 rfl) ?_
            refine va_calll (va_runV (As := [.int (nI p1)]) (rest := [.long r_38, .int y_4]) ⟨hx, hb, hml, hown, hts⟩ (c_X12_deadline l dC dI g A hG f h0 p1 q i_h0 hc0 hc0_ok (by first | omega | decide | (simp only [k_c0, k_c1, k_cm1] <;> omega))) (cwV 1 hts (gi_V (fun w_ h0_ => ⟨List.mem_cons_of_mem _ (List.mem_append_right _ (List.mem_append_right _ (List.mem_append_right _ (List.mem_append_left _ h0_)))), (tb_c_X12_deadline w_ h0_).2⟩) (List.mem_cons_of_mem _ (List.mem_append_left _ (List.mem_of_getElem? (i := 5) rfl))) (List.mem_cons_of_mem _ (List.mem_append_left _ (List.mem_of_getElem? (i := 6) rfl))) (List.mem_cons_of_mem _ (List.mem_append_left _ (List.mem_of_getElem? (i := 7) rfl))) (List.mem_cons_of_mem _ (List.mem_append_left _ (List.mem_of_getElem? (i := 4) rfl)))) rfl rfl rfl (by decide +kernel) ⟨Nat.le_of_ble_eq_true rfl, Nat.le_of_ble_eq_true rfl⟩) ⟨fun a U g mk q => ⟨q.1, q.2.calling rfl rfl⟩, k_recv hK hI i_h0.1 k_7 (ci := 12) rfl, fun U hU hW => ⟨rfl, kIn.of hI hK hE hS hU hW⟩⟩ rfl rfl hl.1 rfl (lv_room (Nat.le_of_ble_eq_true rfl)) dX12_aheadOf_37 ⟨Nat.le_of_ble_eq_true rfl, Nat.le_of_ble_eq_true rfl⟩) hS (fun q _ h => h) (fun q h => h) (fun r_40 u t H1 locs ht hvm w_39 hB hz1 hk1 hS => ?_)
            have hI : Iv dC dI g A f t.heap := hB
            rw [ht] at hI
            generalize H1 = H at hI hS ⊢
            refine W.widen (k := 0) (n := 0) (Nat.le_of_ble_eq_true rfl) (Nat.le_of_ble_eq_true rfl) ?_
            refine W.lcmp hx hb dX12_aheadOf_40 ?_
            have J_63 : ∀ (H : Heap) (locs : List Loc) (ls : Array Slot), Iv dC dI g A f H → va_S A s.heap H locs → lv_has ls 4 [(3, .int (nI y_3)), (2, .int y_4), (0, .ref h0), (1, .int (nI p1))] → W p l e (headSpec wq_c_X12_aheadOf ({ frames := 4, cells := 0, slots := 0, locals := 85 } : Room)).room s m ([.ref h0, .int (nI p1)].toArray) below meth c H locs 0 0 (MQ below (va_Qi (fun (r : Int32) (_ : Unit) => True) (fun (_ : Unit) t => Iv dC dI g A f t.heap) A) ([.ref h0, .int (nI p1)].toArray) s 0 0 A) (F0 m 63 ls [.int y_4]) := by
              intro H locs ls hI hS  hl
              refine lv_iconst (v := 1) hx hb dX12_aheadOf_63 (by decide) ?_
              refine lv_goto (tgt := 68) hx hb dX12_aheadOf_64 (by decide) ?_
              exact J_68 1 _ _ _ hI hS  (lv_sub hl [0, 1, 2, 3] rfl)
            refine lv_if_lt (tgt := 63) hx hb dX12_aheadOf_41 (by decide) (fun c_41 => ?_) (fun c_41 => ?_)
            · have c_41 := lc_lt rfl rfl ((lg_cmp_lt _ _).mp c_41)
              exact J_63  _ _ _ hI hS  (lv_sub hl [0, 1, 2, 3] rfl)
            · have c_41 := ln_lt rfl rfl (fun h9 => c_41 ((lg_cmp_lt _ _).mpr h9))
              refine lv_aload_n hx hb dX12_aheadOf_44 rfl (lv_at hl 2 rfl) ?_
              refine lv_iload_n hx hb dX12_aheadOf_45 rfl (lv_at hl 0 rfl) ?_
              refine va_calll (va_runV (As := [.int (nI y_3)]) (rest := [.int y_4]) ⟨hx, hb, hml, hown, hts⟩ (c_X12_deadline l dC dI g A hG f h0 y_3 q i_h0 hc0 hc0_ok (by first | omega | decide | (simp only [k_c0, k_c1, k_cm1] <;> omega))) (cwV 1 hts (gi_V (fun w_ h0_ => ⟨List.mem_cons_of_mem _ (List.mem_append_right _ (List.mem_append_right _ (List.mem_append_right _ (List.mem_append_left _ h0_)))), (tb_c_X12_deadline w_ h0_).2⟩) (List.mem_cons_of_mem _ (List.mem_append_left _ (List.mem_of_getElem? (i := 5) rfl))) (List.mem_cons_of_mem _ (List.mem_append_left _ (List.mem_of_getElem? (i := 6) rfl))) (List.mem_cons_of_mem _ (List.mem_append_left _ (List.mem_of_getElem? (i := 7) rfl))) (List.mem_cons_of_mem _ (List.mem_append_left _ (List.mem_of_getElem? (i := 4) rfl)))) rfl rfl rfl (by decide +kernel) ⟨Nat.le_of_ble_eq_true rfl, Nat.le_of_ble_eq_true rfl⟩) ⟨fun a U g mk q => ⟨q.1, q.2.calling rfl rfl⟩, k_recv hK hI i_h0.1 k_7 (ci := 12) rfl, fun U hU hW => ⟨rfl, kIn.of hI hK hE hS hU hW⟩⟩ rfl rfl hl.1 rfl (lv_room (Nat.le_of_ble_eq_true rfl)) dX12_aheadOf_46 ⟨Nat.le_of_ble_eq_true rfl, Nat.le_of_ble_eq_true rfl⟩) hS (fun q _ h => h) (fun q h => h) (fun r_43 u t H1 locs ht hvm w_42 hB hz1 hk1 hS => ?_)
              have hI : Iv dC dI g A f t.heap := hB
              rw [ht] at hI
              generalize H1 = H at hI hS ⊢
              refine W.widen (k := 0) (n := 0) (Nat.le_of_ble_eq_true rfl) (Nat.le_of_ble_eq_true rfl) ?_
              refine lv_aload_n hx hb dX12_aheadOf_49 rfl (lv_at hl 2 rfl) ?_
              refine lv_iload_n hx hb dX12_aheadOf_50 rfl (lv_at hl 3 rfl) ?_
              refine va_calll (va_runV (As := [.int (nI p1)]) (rest := [.long r_43, .int y_4]) ⟨hx, hb, hml, hown, hts⟩ (c_X12_deadline l dC dI g A hG f h0 p1 q i_h0 hc0 hc0_ok (by first | omega | decide | (simp only [k_c0, k_c1, k_cm1] <;> omega))) (cwV 1 hts (gi_V (fun w_ h0_ => ⟨List.mem_cons_of_mem _ (List.mem_append_right _ (List.mem_append_right _ (List.mem_append_right _ (List.mem_append_left _ h0_)))), (tb_c_X12_deadline w_ h0_).2⟩) (List.mem_cons_of_mem _ (List.mem_append_left _ (List.mem_of_getElem? (i := 5) rfl))) (List.mem_cons_of_mem _ (List.mem_append_left _ (List.mem_of_getElem? (i := 6) rfl))) (List.mem_cons_of_mem _ (List.mem_append_left _ (List.mem_of_getElem? (i := 7) rfl))) (List.mem_cons_of_mem _ (List.mem_append_left _ (List.mem_of_getElem? (i := 4) rfl)))) rfl rfl rfl (by decide +kernel) ⟨Nat.le_of_ble_eq_true rfl, Nat.le_of_ble_eq_true rfl⟩) ⟨fun a U g mk q => ⟨q.1, q.2.calling rfl rfl⟩, k_recv hK hI i_h0.1 k_7 (ci := 12) rfl, fun U hU hW => ⟨rfl, kIn.of hI hK hE hS hU hW⟩⟩ rfl rfl hl.1 rfl (lv_room (Nat.le_of_ble_eq_true rfl)) dX12_aheadOf_51 ⟨Nat.le_of_ble_eq_true rfl, Nat.le_of_ble_eq_true rfl⟩) hS (fun q _ h => h) (fun q h => h) (fun r_45 u t H1 locs ht hvm w_44 hB hz1 hk1 hS => ?_)
              have hI : Iv dC dI g A f t.heap := hB
              rw [ht] at hI
              generalize H1 = H at hI hS ⊢
              refine W.widen (k := 0) (n := 0) (Nat.le_of_ble_eq_true rfl) (Nat.le_of_ble_eq_true rfl) ?_
              refine W.lcmp hx hb dX12_aheadOf_54 ?_
              refine lv_if_ne (tgt := 67) hx hb dX12_aheadOf_55 (by decide) (fun c_46 => ?_) (fun c_46 => ?_)
              · have c_46 := ln_eq rfl rfl (fun h9 => c_46 ((lg_cmp_eq _ _).mpr h9))
                exact J_67  _ _ _ hI hS  (lv_sub hl [0, 1, 2, 3] rfl)
              · have c_46 := lc_eq rfl rfl ((lg_cmp_eq _ _).mp c_46)
                refine lv_iload_n hx hb dX12_aheadOf_58 rfl (lv_at hl 0 rfl) ?_
                refine lv_iload_n hx hb dX12_aheadOf_59 rfl (lv_at hl 3 rfl) ?_
                refine lv_icmp_ge (tgt := 67) hx hb dX12_aheadOf_60 (by decide) (fun c_47 => ?_) (fun c_47 => ?_)
                · have c_47 := kc_le (nI_toInt (n := p1) (by omega)) (nI_toInt (n := y_3) (by omega)) c_47
                  exact J_67  _ _ _ hI hS  (lv_sub hl [0, 1, 2, 3] rfl)
                · have c_47 := kn_le (nI_toInt (n := p1) (by omega)) (nI_toInt (n := y_3) (by omega)) c_47
                  exact J_63  _ _ _ hI hS  (lv_sub hl [0, 1, 2, 3] rfl)
  exact K_4 _ 0 0 _ _ _ (Nat.lt_succ_self _) hI hS (by first | omega | decide | exact Or.inl (by decide) | (simp only [show Int32.toInt 0 = 0 from by decide] <;> omega)) (lv_sub hl [0, 1, 2, 3] rfl)
theorem tw_906 : q_g (.fieldLink RX12 325 "DeadlineShareModel" "least1" "J") := ⟨(List.mem_append_right _ (List.mem_of_getElem? (i := 1123) (by decide +kernel))), good_of_word (by decide +kernel)⟩
theorem tw_907 : q_g (.fieldLink RX12 322 "DeadlineShareModel" "most1" "J") := ⟨(List.mem_append_right _ (List.mem_of_getElem? (i := 1122) (by decide +kernel))), good_of_word (by decide +kernel)⟩
theorem tw_908 : q_g (.constantLong RX12 320 (100)) := ⟨(List.mem_append_right _ (List.mem_of_getElem? (i := 1537) (by decide +kernel))), good_of_word (by decide +kernel)⟩
theorem tw_909 : q_g (.code yX12_lookAtLags cX12_lookAtLags 4 none) := ⟨(List.mem_append_right _ (List.mem_of_getElem? (i := 1536) (by decide +kernel))), good_of_word (by decide +kernel)⟩
def ow_c_X12_lookAtLags : List Cond := [.fieldLink RX12 16 "DeadlineShareModel" "row" "[J", .methodLink RX12 90 yX12_isOn, .instanceMethod yX12_isOn, .selects RX12 yX12_isOn yX12_isOn, .initialized RX12, .constantLong RX12 320 (100), .methodLink RX12 119 yX12_lag, .instanceMethod yX12_lag, .selects RX12 yX12_lag yX12_lag, .methodLink RX12 105 yX12_heavy, .instanceMethod yX12_heavy, .selects RX12 yX12_heavy yX12_heavy, .constantLong RX12 108 (5354228880), .methodLink RX12 115 yX12_down, .static yX12_down, .fieldLink RX12 322 "DeadlineShareModel" "most1" "J", .fieldLink RX12 325 "DeadlineShareModel" "least1" "J"]
def wq_c_X12_lookAtLags : List Cond := .code yX12_lookAtLags cX12_lookAtLags 4 none :: (ow_c_X12_lookAtLags ++ (u_ws RX12 TX12 27 ++ (wq_c_X12_isOn ++ (wq_c_X12_lag ++ (wq_c_X12_heavy ++ (wq_c_X12_down ++ ([] : List Cond)))))))
theorem tb_c_X12_lookAtLags : ∀ w ∈ wq_c_X12_lookAtLags, q_g w := by
  unfold wq_c_X12_lookAtLags ow_c_X12_lookAtLags
  exact q_cons tw_909 (q_app (q_cons tw_731 (q_cons tw_744 (q_cons tw_743 (q_cons tw_742 (q_cons tw_728 (q_cons tw_908 (q_cons tw_772 (q_cons tw_771 (q_cons tw_770 (q_cons tw_752 (q_cons tw_751 (q_cons tw_750 (q_cons tw_757 (q_cons tw_765 (q_cons tw_764 (q_cons tw_907 (q_cons tw_906 q_nil))))))))))))))))) (q_app tu_X12 (q_app tb_c_X12_isOn (q_app tb_c_X12_lag (q_app tb_c_X12_heavy (q_app tb_c_X12_down q_nil))))))
set_option maxHeartbeats 4000000 in
set_option maxRecDepth 100000 in
theorem c_X12_lookAtLags (l : Launch) (dC : Nat → ClassId) (dI : Nat → Nat → Nat) (g : kG) (A : Nat → Prop) (hG : kWf g) (f : Nat → va_E) (h0 : Nat) (z0 : Int32) (z1 : Int32) (z10 : Int32) (z12 : Int32) (z13 : Int32) (z14 : Int32) (z15 : Int32) (z16 : Int64) (z17 : Int32) (z18 : Int32) (z23 : Int32) (z24 : Int64) (z25 : Int64) (z26 : Int64) (q : Nat → Int64) (i_h0 : ik g 12 h0) (hc0 : f h0 = .inr (12, [.int z0, .int z1, .ref (gr g h0 2), .ref (gr g h0 3), .ref (gr g h0 4), .ref (gr g h0 5), .ref (gr g h0 6), .ref (gr g h0 7), .ref (gr g h0 8), .ref (gr g h0 9), .int z10, .ref (gr g h0 11), .int z12, .int z13, .int z14, .int z15, .long z16, .int z17, .int z18, .ref (gr g h0 19), .ref (gr g h0 20), .ref (gr g h0 21), .ref (gr g h0 22), .int z23, .long z24, .long z25, .long z26])) (hc0_10 : 0 ≤ z10.toInt ∧ z10.toInt ≤ 10) (hc0_12 : 0 ≤ z12.toInt ∧ z12.toInt ≤ 200) (hc0_23 : 0 ≤ z23.toInt ∧ z23.toInt ≤ 8) (hc1 : f (gr g h0 4) = .inl (gc g 1, 906, .inr (.inl q))) (hc1_ok : RowOK q) : Met l yX12_lookAtLags wq_c_X12_lookAtLags ({ frames := 4, cells := 0, slots := 0, locals := 85 } : Room) (va_Pc [.ref h0] (fun U => kIn dC dI g A f U)) (va_Qv (fun (_ : Unit) => True) (fun (_ : Unit) t => ∃ f1 : Nat → va_E, Iv dC dI g A f1 t.heap ∧ Kp g [12] f f1 ∧ ∃ (w25 : Int64) (w26 : Int64), (f1 h0 = .inr (12, [.int z0, .int z1, .ref (gr g h0 2), .ref (gr g h0 3), .ref (gr g h0 4), .ref (gr g h0 5), .ref (gr g h0 6), .ref (gr g h0 7), .ref (gr g h0 8), .ref (gr g h0 9), .int z10, .ref (gr g h0 11), .int z12, .int z13, .int z14, .int z15, .long z16, .int z17, .int z18, .ref (gr g h0 19), .ref (gr g h0 20), .ref (gr g h0 21), .ref (gr g h0 22), .int z23, .long z24, .long w25, .long w26]))) A) 0 0 A := by
  refine Met.ofW (cc := cX12_lookAtLags) (maxL := 4) (ret := none) (by decide) rfl ?_
  intro p e s m args below meth c s₁ B hml hv
  obtain ⟨rfl, hI, hK, hE⟩ := hv
  have hx := B.exec
  have hb := B.bytes
  have hr := B.returns
  have hts := atoms_spec (ws := wq_c_X12_lookAtLags) B.pre
  have hown : s.vm.findClass RX12 = some m.cls := findClass_of_methodNamed B.named
  have hlocks := B.notSynchronized
  have hS : va_S A s.heap s.heap [] := va_S.rf
  have hk0 : Kp g [12] f f := Kp.rf
  have hl := lv_entry ([.ref h0]) (n := 4) (Nat.le_of_ble_eq_true rfl)
  rw [lg_entry_eq]
  generalize (lg_sl ([.ref h0]) ++ List.replicate (4 - (lg_sl ([.ref h0])).length) Slot.unset).toArray = ls at hl ⊢
  have hl : lv_has ls 4 [(0, .ref h0)] := hl
  have i_1 := kw_12_4 hG i_h0
  have d_2 := rk_hd hc1_ok
  refine lv_iconst (v := 0) hx hb dX12_lookAtLags_0 (by decide) ?_
  refine lv_istore_n (lv' := [(1, .int 0), (0, .ref h0)]) hx hb dX12_lookAtLags_1 rfl hl (by decide) rfl (fun ls hl => ?_)
  have K_2 : ∀ (nn : Nat) (y_3 : Nat) (y_5 : Int64) (y_6 : Int64) (f_4 : Nat → va_E) (H : Heap) (locs : List Loc) (ls : Array Slot), 12 - y_3 < nn → Iv dC dI g A f_4 H → va_S A s.heap H locs → f_4 h0 = .inr (12, [.int z0, .int z1, .ref (gr g h0 2), .ref (gr g h0 3), .ref (gr g h0 4), .ref (gr g h0 5), .ref (gr g h0 6), .ref (gr g h0 7), .ref (gr g h0 8), .ref (gr g h0 9), .int z10, .ref (gr g h0 11), .int z12, .int z13, .int z14, .int z15, .long z16, .int z17, .int z18, .ref (gr g h0 19), .ref (gr g h0 20), .ref (gr g h0 21), .ref (gr g h0 22), .int z23, .long z24, .long y_5, .long y_6]) → f_4 (gr g h0 4) = .inl (gc g 1, 906, .inr (.inl q)) → Kp g [12] f f_4 → (y_3 ≤ 12) → lv_has ls 4 [(1, .int (nI y_3)), (0, .ref h0)] → W p l e (headSpec wq_c_X12_lookAtLags ({ frames := 4, cells := 0, slots := 0, locals := 85 } : Room)).room s m ([.ref h0].toArray) below meth c H locs 0 0 (MQ below (va_Qv (fun (_ : Unit) => True) (fun (_ : Unit) t => ∃ f1 : Nat → va_E, Iv dC dI g A f1 t.heap ∧ Kp g [12] f f1 ∧ ∃ (w25 : Int64) (w26 : Int64), (f1 h0 = .inr (12, [.int z0, .int z1, .ref (gr g h0 2), .ref (gr g h0 3), .ref (gr g h0 4), .ref (gr g h0 5), .ref (gr g h0 6), .ref (gr g h0 7), .ref (gr g h0 8), .ref (gr g h0 9), .int z10, .ref (gr g h0 11), .int z12, .int z13, .int z14, .int z15, .long z16, .int z17, .int z18, .ref (gr g h0 19), .ref (gr g h0 20), .ref (gr g h0 21), .ref (gr g h0 22), .int z23, .long z24, .long w25, .long w26]))) A) ([.ref h0].toArray) s 0 0 A) (F0 m 2 ls []) := by
    intro nn
    induction nn with
    | zero => intro y_3 y_5 y_6 f_4 H locs ls m_11; exact absurd m_11 (Nat.not_lt_zero _)
    | succ nn ih =>
      intro y_3 y_5 y_6 f_4 H locs ls m_11 hI hS k_7 k_8 kp_9 t_10 hl
      refine lv_iload_n hx hb dX12_lookAtLags_2 rfl (lv_at hl 0 rfl) ?_
      refine lv_i2l (v := lN (y_3)) hx hb dX12_lookAtLags_3 (nI_l (by omega)) ?_
      refine lv_aload_n hx hb dX12_lookAtLags_4 rfl (lv_at hl 1 rfl) ?_
      refine k_get (ci := 12) (v := .ref (gr g h0 4)) (C := RX12) (T := TX12) (N := 27) hx hb hts (fun _ h0_ => List.mem_cons_of_mem _ (List.mem_append_right _ (List.mem_append_left _ h0_))) hown hK hI i_h0.1 k_7 rfl 4 (by decide) (hts (.fieldLink RX12 16 "DeadlineShareModel" "row" "[J") (List.mem_cons_of_mem _ (List.mem_append_left _ (List.mem_of_getElem? (i := 0) rfl)))) (fun _ h9 => h9) rfl dX12_lookAtLags_5 ?_
      refine lv_iconst (v := 0) hx hb dX12_lookAtLags_8 (by decide) ?_
      refine k_lald hx hb hK hI i_1.1 1 k_8 rfl (by unfold vp_in; decide) dX12_lookAtLags_9 ?_
      refine k_topl (y := q 0) (congrArg q (show Int32.toNatClampNeg 0 = 0 by decide)) ?_
      refine W.lcmp hx hb dX12_lookAtLags_10 ?_
      refine lv_if_ge (tgt := 91) hx hb dX12_lookAtLags_11 (by decide) (fun c_14 => ?_) (fun c_14 => ?_)
      · have c_14 := lc_le rfl (lN_toInt (n := y_3) (by omega)) ((lg_cmp_ge _ _).mp c_14)
        exact W.vret hx hb hr (fun t ht hW => ⟨⟨(), rfl, trivial, ⟨f_4, k_ret ht hI, kp_9, y_5, y_6, k_7⟩⟩, hS.F ht⟩) hS.2.2 dX12_lookAtLags_91
      · have c_14 := ln_le rfl (lN_toInt (n := y_3) (by omega)) (fun h9 => c_14 ((lg_cmp_ge _ _).mpr h9))
        refine lv_aload_n hx hb dX12_lookAtLags_14 rfl (lv_at hl 1 rfl) ?_
        refine lv_iload_n hx hb dX12_lookAtLags_15 rfl (lv_at hl 0 rfl) ?_
        refine va_calli (va_runV (As := [.int (nI y_3)]) (rest := []) ⟨hx, hb, hml, hown, hts⟩ (c_X12_isOn l dC dI g A hG f_4 h0 y_3 q i_h0 k_8 hc1_ok (by first | omega | decide | (simp only [k_c0, k_c1, k_cm1] <;> omega))) (cwV 1 hts (gi_V (fun w_ h0_ => ⟨List.mem_cons_of_mem _ (List.mem_append_right _ (List.mem_append_right _ (List.mem_append_left _ h0_))), (tb_c_X12_isOn w_ h0_).2⟩) (List.mem_cons_of_mem _ (List.mem_append_left _ (List.mem_of_getElem? (i := 1) rfl))) (List.mem_cons_of_mem _ (List.mem_append_left _ (List.mem_of_getElem? (i := 2) rfl))) (List.mem_cons_of_mem _ (List.mem_append_left _ (List.mem_of_getElem? (i := 3) rfl))) (List.mem_cons_of_mem _ (List.mem_append_left _ (List.mem_of_getElem? (i := 4) rfl)))) rfl rfl rfl (by decide +kernel) ⟨Nat.le_of_ble_eq_true rfl, Nat.le_of_ble_eq_true rfl⟩) ⟨fun a U g mk q => ⟨q.1, q.2.calling rfl rfl⟩, k_recv hK hI i_h0.1 k_7 (ci := 12) rfl, fun U hU hW => ⟨rfl, kIn.of hI hK hE hS hU hW⟩⟩ rfl rfl hl.1 rfl (lv_room (Nat.le_of_ble_eq_true rfl)) dX12_lookAtLags_16 ⟨Nat.le_of_ble_eq_true rfl, Nat.le_of_ble_eq_true rfl⟩) hS (fun q _ h => h) (fun q h => h) (fun r_16 u t H1 locs ht hvm w_15 hB hz1 hk1 hS => ?_)
        have hI : Iv dC dI g A f_4 t.heap := hB
        rw [ht] at hI
        generalize H1 = H at hI hS ⊢
        refine W.widen (k := 0) (n := 0) (Nat.le_of_ble_eq_true rfl) (Nat.le_of_ble_eq_true rfl) ?_
        have w_15 : (r_16.toInt = 0 ∧ (q (6 + 43 * y_3 + 2)).toInt ≠ 1) ∨ (r_16.toInt = 1 ∧ (q (6 + 43 * y_3 + 2)).toInt = 1) := w_15
        have J_85 : ∀ (y_18 : Int64) (y_19 : Int64) (f_17 : Nat → va_E) (H : Heap) (locs : List Loc) (ls : Array Slot), Iv dC dI g A f_17 H → va_S A s.heap H locs → f_17 h0 = .inr (12, [.int z0, .int z1, .ref (gr g h0 2), .ref (gr g h0 3), .ref (gr g h0 4), .ref (gr g h0 5), .ref (gr g h0 6), .ref (gr g h0 7), .ref (gr g h0 8), .ref (gr g h0 9), .int z10, .ref (gr g h0 11), .int z12, .int z13, .int z14, .int z15, .long z16, .int z17, .int z18, .ref (gr g h0 19), .ref (gr g h0 20), .ref (gr g h0 21), .ref (gr g h0 22), .int z23, .long z24, .long y_18, .long y_19]) → f_17 (gr g h0 4) = .inl (gc g 1, 906, .inr (.inl q)) → Kp g [12] f f_17 → lv_has ls 4 [(1, .int (nI y_3)), (0, .ref h0)] → W p l e (headSpec wq_c_X12_lookAtLags ({ frames := 4, cells := 0, slots := 0, locals := 85 } : Room)).room s m ([.ref h0].toArray) below meth c H locs 0 0 (MQ below (va_Qv (fun (_ : Unit) => True) (fun (_ : Unit) t => ∃ f1 : Nat → va_E, Iv dC dI g A f1 t.heap ∧ Kp g [12] f f1 ∧ ∃ (w25 : Int64) (w26 : Int64), (f1 h0 = .inr (12, [.int z0, .int z1, .ref (gr g h0 2), .ref (gr g h0 3), .ref (gr g h0 4), .ref (gr g h0 5), .ref (gr g h0 6), .ref (gr g h0 7), .ref (gr g h0 8), .ref (gr g h0 9), .int z10, .ref (gr g h0 11), .int z12, .int z13, .int z14, .int z15, .long z16, .int z17, .int z18, .ref (gr g h0 19), .ref (gr g h0 20), .ref (gr g h0 21), .ref (gr g h0 22), .int z23, .long z24, .long w25, .long w26]))) A) ([.ref h0].toArray) s 0 0 A) (F0 m 85 ls []) := by
          intro y_18 y_19 f_17 H locs ls hI hS k_20 k_21 kp_22 hl
          refine lv_iinc (v := nI (y_3 + 1)) (lv' := [(1, .int (nI (y_3 + 1))), (0, .ref h0)]) hx hb dX12_lookAtLags_85 hl (k := 0) rfl (nI_1 _) (by decide) rfl (fun ls hl => ?_)
          refine lv_goto (tgt := 2) hx hb dX12_lookAtLags_88 (by decide) ?_
          exact ih (y_3 + 1) y_18 y_19 f_17 _ _ _ (by omega) hI hS k_20 k_21 kp_22 (by first | omega | decide | exact Or.inl (by decide)) (lv_sub hl [0, 1] rfl)
        refine lv_if_eq (tgt := 85) hx hb dX12_lookAtLags_19 (by decide) (fun c_23 => ?_) (fun c_23 => ?_)
        · have c_23 := kc_eq rfl (by decide : Int32.toInt 0 = 0) c_23
          exact J_85 y_5 y_6 f_4 _ _ _ hI hS k_7 k_8 kp_9 (lv_sub hl [0, 1] rfl)
        · have c_23 := kn_eq rfl (by decide : Int32.toInt 0 = 0) c_23
          refine lv_ldc2 hx hb hown (hts (.constantLong RX12 320 (100)) (List.mem_cons_of_mem _ (List.mem_append_left _ (List.mem_of_getElem? (i := 5) rfl)))) dX12_lookAtLags_22 ?_
          refine lv_aload_n hx hb dX12_lookAtLags_25 rfl (lv_at hl 1 rfl) ?_
          refine lv_iload_n hx hb dX12_lookAtLags_26 rfl (lv_at hl 0 rfl) ?_
          refine va_calll (va_runV (As := [.int (nI y_3)]) (rest := [.long 100]) ⟨hx, hb, hml, hown, hts⟩ (c_X12_lag l dC dI g A hG f_4 h0 y_3 q i_h0 k_8 hc1_ok (by first | omega | decide | (simp only [k_c0, k_c1, k_cm1] <;> omega))) (cwV 1 hts (gi_V (fun w_ h0_ => ⟨List.mem_cons_of_mem _ (List.mem_append_right _ (List.mem_append_right _ (List.mem_append_right _ (List.mem_append_left _ h0_)))), (tb_c_X12_lag w_ h0_).2⟩) (List.mem_cons_of_mem _ (List.mem_append_left _ (List.mem_of_getElem? (i := 6) rfl))) (List.mem_cons_of_mem _ (List.mem_append_left _ (List.mem_of_getElem? (i := 7) rfl))) (List.mem_cons_of_mem _ (List.mem_append_left _ (List.mem_of_getElem? (i := 8) rfl))) (List.mem_cons_of_mem _ (List.mem_append_left _ (List.mem_of_getElem? (i := 4) rfl)))) rfl rfl rfl (by decide +kernel) ⟨Nat.le_of_ble_eq_true rfl, Nat.le_of_ble_eq_true rfl⟩) ⟨fun a U g mk q => ⟨q.1, q.2.calling rfl rfl⟩, k_recv hK hI i_h0.1 k_7 (ci := 12) rfl, fun U hU hW => ⟨rfl, kIn.of hI hK hE hS hU hW⟩⟩ rfl rfl hl.1 rfl (lv_room (Nat.le_of_ble_eq_true rfl)) dX12_lookAtLags_27 ⟨Nat.le_of_ble_eq_true rfl, Nat.le_of_ble_eq_true rfl⟩) hS (fun q _ h => h) (fun q h => h) (fun r_25 u t H1 locs ht hvm w_24 hB hz1 hk1 hS => ?_)
          have hI : Iv dC dI g A f_4 t.heap := hB
          rw [ht] at hI
          generalize H1 = H at hI hS ⊢
          refine W.widen (k := 0) (n := 0) (Nat.le_of_ble_eq_true rfl) (Nat.le_of_ble_eq_true rfl) ?_
          refine lv_lmul hx hb dX12_lookAtLags_30 ?_
          refine lv_topl (fun v_26 ev_26 => ?_)
          refine lv_aload_n hx hb dX12_lookAtLags_31 rfl (lv_at hl 1 rfl) ?_
          refine va_calll (va_runV (As := []) (rest := [.long v_26]) ⟨hx, hb, hml, hown, hts⟩ (c_X12_heavy l dC dI g A hG f_4 h0 q i_h0 k_8 hc1_ok) (cwV 0 hts (gi_V (fun w_ h0_ => ⟨List.mem_cons_of_mem _ (List.mem_append_right _ (List.mem_append_right _ (List.mem_append_right _ (List.mem_append_right _ (List.mem_append_left _ h0_))))), (tb_c_X12_heavy w_ h0_).2⟩) (List.mem_cons_of_mem _ (List.mem_append_left _ (List.mem_of_getElem? (i := 9) rfl))) (List.mem_cons_of_mem _ (List.mem_append_left _ (List.mem_of_getElem? (i := 10) rfl))) (List.mem_cons_of_mem _ (List.mem_append_left _ (List.mem_of_getElem? (i := 11) rfl))) (List.mem_cons_of_mem _ (List.mem_append_left _ (List.mem_of_getElem? (i := 4) rfl)))) rfl rfl rfl (by decide +kernel) ⟨Nat.le_of_ble_eq_true rfl, Nat.le_of_ble_eq_true rfl⟩) ⟨fun a U g mk q => ⟨q.1, q.2.calling rfl rfl⟩, k_recv hK hI i_h0.1 k_7 (ci := 12) rfl, fun U hU hW => ⟨rfl, kIn.of hI hK hE hS hU hW⟩⟩ rfl rfl hl.1 rfl (lv_room (Nat.le_of_ble_eq_true rfl)) dX12_lookAtLags_32 ⟨Nat.le_of_ble_eq_true rfl, Nat.le_of_ble_eq_true rfl⟩) hS (fun q _ h => h) (fun q h => h) (fun r_28 u t H1 locs ht hvm w_27 hB hz1 hk1 hS => ?_)
          have hI : Iv dC dI g A f_4 t.heap := hB
          rw [ht] at hI
          generalize H1 = H at hI hS ⊢
          refine W.widen (k := 0) (n := 0) (Nat.le_of_ble_eq_true rfl) (Nat.le_of_ble_eq_true rfl) ?_
          have w_27 : 0 ≤ r_28.toInt ∧ r_28.toInt ≤ 96 ∧ ∀ t : Nat, (t : Int) < (q 0).toInt → (q (6 + 43 * t + 2)).toInt = 1 → 1 ≤ r_28.toInt := w_27
          have d_29 := w_27.2.2 y_3 (by omega) (by omega)
          refine lv_ldc2 hx hb hown (hts (.constantLong RX12 108 (5354228880)) (List.mem_cons_of_mem _ (List.mem_append_left _ (List.mem_of_getElem? (i := 12) rfl)))) dX12_lookAtLags_35 ?_
          refine lv_lmul hx hb dX12_lookAtLags_38 ?_
          have g_30 : Int64.toInt 5354228880 = 5354228880 := by decide
          refine lv_topl (fun v_31 ev_31 => ?_)
          have tv_31 := l_ml1 (x := r_28) (y := 5354228880) (a := 96) (b := 5354228880) (by omega) (by omega) (by omega) (by omega) (by decide)
          rw [← ev_31] at tv_31
          refine va_calll (va_runS (As := [.long v_26, .long v_31]) (rest := []) ⟨hx, hb, hml, hown, hts⟩ (c_X12_down l dC dI g A hG f_4 v_26 v_31 (by first | omega | decide | (simp only [k_c0, k_c1, k_cm1] <;> omega))) (va_cwS 2 hts (gi_S (fun w_ h0_ => ⟨List.mem_cons_of_mem _ (List.mem_append_right _ (List.mem_append_right _ (List.mem_append_right _ (List.mem_append_right _ (List.mem_append_right _ (List.mem_append_left _ h0_)))))), (tb_c_X12_down w_ h0_).2⟩) (List.mem_cons_of_mem _ (List.mem_append_left _ (List.mem_of_getElem? (i := 13) rfl))) (List.mem_cons_of_mem _ (List.mem_append_left _ (List.mem_of_getElem? (i := 14) rfl))) (List.mem_cons_of_mem _ (List.mem_append_left _ (List.mem_of_getElem? (i := 4) rfl)))) rfl rfl rfl (by decide +kernel) ⟨Nat.le_of_ble_eq_true rfl, Nat.le_of_ble_eq_true rfl⟩) ⟨fun a U g mk q => ⟨q.1, q.2.calling rfl rfl⟩, fun U hU hW => ⟨rfl, kIn.of hI hK hE hS hU hW⟩⟩ rfl rfl hl.1 rfl (lv_room (Nat.le_of_ble_eq_true rfl)) dX12_lookAtLags_39 ⟨Nat.le_of_ble_eq_true rfl, Nat.le_of_ble_eq_true rfl⟩) hS (fun q _ h => h) (fun q h => h) (fun r_33 u t H1 locs ht hvm w_32 hB hz1 hk1 hS => ?_)
          have hI : Iv dC dI g A f_4 t.heap := hB
          rw [ht] at hI
          generalize H1 = H at hI hS ⊢
          refine W.widen (k := 0) (n := 0) (Nat.le_of_ble_eq_true rfl) (Nat.le_of_ble_eq_true rfl) ?_
          refine lv_lstore_n (lv' := [(2, .long r_33), (1, .int (nI y_3)), (0, .ref h0)]) hx hb dX12_lookAtLags_42 rfl hl (by decide) rfl (fun ls hl => ?_)
          refine lv_aload_n hx hb dX12_lookAtLags_43 rfl (lv_at hl 2 rfl) ?_
          refine lv_lload_n hx hb dX12_lookAtLags_44 rfl (lv_at hl 0 rfl) ?_
          refine lv_aload_n hx hb dX12_lookAtLags_45 rfl (lv_at hl 2 rfl) ?_
          refine k_get (ci := 12) (v := .long y_5) (C := RX12) (T := TX12) (N := 27) hx hb hts (fun _ h0_ => List.mem_cons_of_mem _ (List.mem_append_right _ (List.mem_append_left _ h0_))) hown hK hI i_h0.1 k_7 rfl 25 (by decide) (hts (.fieldLink RX12 322 "DeadlineShareModel" "most1" "J") (List.mem_cons_of_mem _ (List.mem_append_left _ (List.mem_of_getElem? (i := 15) rfl)))) (fun _ h9 => h9) rfl dX12_lookAtLags_46 ?_
          refine W.lcmp hx hb dX12_lookAtLags_49 ?_
          have J_61 : ∀ (y_34 : Int64) (H : Heap) (locs : List Loc) (ls : Array Slot), Iv dC dI g A f_4 H → va_S A s.heap H locs → lv_has ls 4 [(2, .long r_33), (1, .int (nI y_3)), (0, .ref h0)] → W p l e (headSpec wq_c_X12_lookAtLags ({ frames := 4, cells := 0, slots := 0, locals := 85 } : Room)).room s m ([.ref h0].toArray) below meth c H locs 0 0 (MQ below (va_Qv (fun (_ : Unit) => True) (fun (_ : Unit) t => ∃ f1 : Nat → va_E, Iv dC dI g A f1 t.heap ∧ Kp g [12] f f1 ∧ ∃ (w25 : Int64) (w26 : Int64), (f1 h0 = .inr (12, [.int z0, .int z1, .ref (gr g h0 2), .ref (gr g h0 3), .ref (gr g h0 4), .ref (gr g h0 5), .ref (gr g h0 6), .ref (gr g h0 7), .ref (gr g h0 8), .ref (gr g h0 9), .int z10, .ref (gr g h0 11), .int z12, .int z13, .int z14, .int z15, .long z16, .int z17, .int z18, .ref (gr g h0 19), .ref (gr g h0 20), .ref (gr g h0 21), .ref (gr g h0 22), .int z23, .long z24, .long w25, .long w26]))) A) ([.ref h0].toArray) s 0 0 A) (F0 m 61 ls [.long y_34, .ref h0]) := by
            intro y_34 H locs ls hI hS  hl
            refine k_put (ci := 12) (v := .long y_34) (ty := .long) (C := RX12) (T := TX12) (N := 27) hx hb hts (fun _ h0_ => List.mem_cons_of_mem _ (List.mem_append_right _ (List.mem_append_left _ h0_))) tyX12 tyX12_ok nmX12 hown hK hI hS i_h0.1 k_7 rfl 25 (by decide) (hts (.fieldLink RX12 322 "DeadlineShareModel" "most1" "J") (List.mem_cons_of_mem _ (List.mem_append_left _ (List.mem_of_getElem? (i := 15) rfl)))) (fun _ h9 => h9) rfl (by decide +kernel) rfl rfl (Nat.le_of_ble_eq_true rfl) rfl (cl_12 i_h0 (by omega) (by omega) (by omega)) dX12_lookAtLags_61 (fun f_35 H locs e_36 hI hS => ?_)
            have k_38 : f_35 h0 = .inr (12, [.int z0, .int z1, .ref (gr g h0 2), .ref (gr g h0 3), .ref (gr g h0 4), .ref (gr g h0 5), .ref (gr g h0 6), .ref (gr g h0 7), .ref (gr g h0 8), .ref (gr g h0 9), .int z10, .ref (gr g h0 11), .int z12, .int z13, .int z14, .int z15, .long z16, .int z17, .int z18, .ref (gr g h0 19), .ref (gr g h0 20), .ref (gr g h0 21), .ref (gr g h0 22), .int z23, .long z24, .long y_34, .long y_6]) := by rw [e_36]; exact va_up_self _ _ _
            have k_39 : f_35 (gr g h0 4) = .inl (gc g 1, 906, .inr (.inl q)) := by rw [e_36, va_up_ne _ _ (ik_ne i_1 i_h0 (by decide))]; exact k_8
            have kp_37 := Kp.put kp_9 i_h0 (by decide) e_36
            refine lv_aload_n hx hb dX12_lookAtLags_64 rfl (lv_at hl 2 rfl) ?_
            refine lv_lload_n hx hb dX12_lookAtLags_65 rfl (lv_at hl 0 rfl) ?_
            refine lv_aload_n hx hb dX12_lookAtLags_66 rfl (lv_at hl 2 rfl) ?_
            refine k_get (ci := 12) (v := .long y_6) (C := RX12) (T := TX12) (N := 27) hx hb hts (fun _ h0_ => List.mem_cons_of_mem _ (List.mem_append_right _ (List.mem_append_left _ h0_))) hown hK hI i_h0.1 k_38 rfl 26 (by decide) (hts (.fieldLink RX12 325 "DeadlineShareModel" "least1" "J") (List.mem_cons_of_mem _ (List.mem_append_left _ (List.mem_of_getElem? (i := 16) rfl)))) (fun _ h9 => h9) rfl dX12_lookAtLags_67 ?_
            refine W.lcmp hx hb dX12_lookAtLags_70 ?_
            have J_82 : ∀ (y_40 : Int64) (H : Heap) (locs : List Loc) (ls : Array Slot), Iv dC dI g A f_35 H → va_S A s.heap H locs → lv_has ls 4 [(2, .long r_33), (1, .int (nI y_3)), (0, .ref h0)] → W p l e (headSpec wq_c_X12_lookAtLags ({ frames := 4, cells := 0, slots := 0, locals := 85 } : Room)).room s m ([.ref h0].toArray) below meth c H locs 0 0 (MQ below (va_Qv (fun (_ : Unit) => True) (fun (_ : Unit) t => ∃ f1 : Nat → va_E, Iv dC dI g A f1 t.heap ∧ Kp g [12] f f1 ∧ ∃ (w25 : Int64) (w26 : Int64), (f1 h0 = .inr (12, [.int z0, .int z1, .ref (gr g h0 2), .ref (gr g h0 3), .ref (gr g h0 4), .ref (gr g h0 5), .ref (gr g h0 6), .ref (gr g h0 7), .ref (gr g h0 8), .ref (gr g h0 9), .int z10, .ref (gr g h0 11), .int z12, .int z13, .int z14, .int z15, .long z16, .int z17, .int z18, .ref (gr g h0 19), .ref (gr g h0 20), .ref (gr g h0 21), .ref (gr g h0 22), .int z23, .long z24, .long w25, .long w26]))) A) ([.ref h0].toArray) s 0 0 A) (F0 m 82 ls [.long y_40, .ref h0]) := by
              intro y_40 H locs ls hI hS  hl
              refine k_put (ci := 12) (v := .long y_40) (ty := .long) (C := RX12) (T := TX12) (N := 27) hx hb hts (fun _ h0_ => List.mem_cons_of_mem _ (List.mem_append_right _ (List.mem_append_left _ h0_))) tyX12 tyX12_ok nmX12 hown hK hI hS i_h0.1 k_38 rfl 26 (by decide) (hts (.fieldLink RX12 325 "DeadlineShareModel" "least1" "J") (List.mem_cons_of_mem _ (List.mem_append_left _ (List.mem_of_getElem? (i := 16) rfl)))) (fun _ h9 => h9) rfl (by decide +kernel) rfl rfl (Nat.le_of_ble_eq_true rfl) rfl (cl_12 i_h0 (by omega) (by omega) (by omega)) dX12_lookAtLags_82 (fun f_41 H locs e_42 hI hS => ?_)
              have k_44 : f_41 h0 = .inr (12, [.int z0, .int z1, .ref (gr g h0 2), .ref (gr g h0 3), .ref (gr g h0 4), .ref (gr g h0 5), .ref (gr g h0 6), .ref (gr g h0 7), .ref (gr g h0 8), .ref (gr g h0 9), .int z10, .ref (gr g h0 11), .int z12, .int z13, .int z14, .int z15, .long z16, .int z17, .int z18, .ref (gr g h0 19), .ref (gr g h0 20), .ref (gr g h0 21), .ref (gr g h0 22), .int z23, .long z24, .long y_34, .long y_40]) := by rw [e_42]; exact va_up_self _ _ _
              have k_45 : f_41 (gr g h0 4) = .inl (gc g 1, 906, .inr (.inl q)) := by rw [e_42, va_up_ne _ _ (ik_ne i_1 i_h0 (by decide))]; exact k_39
              have kp_43 := Kp.put kp_37 i_h0 (by decide) e_42
              exact J_85 y_34 y_40 f_41 _ _ _ hI hS k_44 k_45 kp_43 (lv_sub hl [1, 2] rfl)
            refine lv_if_ge (tgt := 78) hx hb dX12_lookAtLags_71 (by decide) (fun c_46 => ?_) (fun c_46 => ?_)
            · have c_46 := lc_le rfl rfl ((lg_cmp_ge _ _).mp c_46)
              refine lv_aload_n hx hb dX12_lookAtLags_78 rfl (lv_at hl 2 rfl) ?_
              refine k_get (ci := 12) (v := .long y_6) (C := RX12) (T := TX12) (N := 27) hx hb hts (fun _ h0_ => List.mem_cons_of_mem _ (List.mem_append_right _ (List.mem_append_left _ h0_))) hown hK hI i_h0.1 k_38 rfl 26 (by decide) (hts (.fieldLink RX12 325 "DeadlineShareModel" "least1" "J") (List.mem_cons_of_mem _ (List.mem_append_left _ (List.mem_of_getElem? (i := 16) rfl)))) (fun _ h9 => h9) rfl dX12_lookAtLags_79 ?_
              exact J_82 y_6 _ _ _ hI hS  (lv_sub hl [0, 1, 2] rfl)
            · have c_46 := ln_le rfl rfl (fun h9 => c_46 ((lg_cmp_ge _ _).mpr h9))
              refine lv_lload_n hx hb dX12_lookAtLags_74 rfl (lv_at hl 0 rfl) ?_
              refine lv_goto (tgt := 82) hx hb dX12_lookAtLags_75 (by decide) ?_
              exact J_82 r_33 _ _ _ hI hS  (lv_sub hl [0, 1, 2] rfl)
          refine lv_if_le (tgt := 57) hx hb dX12_lookAtLags_50 (by decide) (fun c_47 => ?_) (fun c_47 => ?_)
          · have c_47 := lc_le rfl rfl ((lg_cmp_le _ _).mp c_47)
            refine lv_aload_n hx hb dX12_lookAtLags_57 rfl (lv_at hl 2 rfl) ?_
            refine k_get (ci := 12) (v := .long y_5) (C := RX12) (T := TX12) (N := 27) hx hb hts (fun _ h0_ => List.mem_cons_of_mem _ (List.mem_append_right _ (List.mem_append_left _ h0_))) hown hK hI i_h0.1 k_7 rfl 25 (by decide) (hts (.fieldLink RX12 322 "DeadlineShareModel" "most1" "J") (List.mem_cons_of_mem _ (List.mem_append_left _ (List.mem_of_getElem? (i := 15) rfl)))) (fun _ h9 => h9) rfl dX12_lookAtLags_58 ?_
            exact J_61 y_5 _ _ _ hI hS  (lv_sub hl [0, 1, 2] rfl)
          · have c_47 := ln_le rfl rfl (fun h9 => c_47 ((lg_cmp_le _ _).mpr h9))
            refine lv_lload_n hx hb dX12_lookAtLags_53 rfl (lv_at hl 0 rfl) ?_
            refine lv_goto (tgt := 61) hx hb dX12_lookAtLags_54 (by decide) ?_
            exact J_61 r_33 _ _ _ hI hS  (lv_sub hl [0, 1, 2] rfl)
  exact K_2 _ 0 z25 z26 f _ _ _ (Nat.lt_succ_self _) hI hS hc0 hc1 hk0 (by first | omega | decide | exact Or.inl (by decide)) (lv_sub hl [0, 1] rfl)
