theorem tw_750 : q_g (.selects RX12 yX12_heavy yX12_heavy) := ⟨(List.mem_append_left _ (List.mem_of_getElem? (i := 28) (by decide +kernel))), good_of_word (by decide +kernel)⟩
theorem tw_751 : q_g (.instanceMethod yX12_heavy) := ⟨(List.mem_append_right _ (List.mem_of_getElem? (i := 1248) (by decide +kernel))), good_of_word (by decide +kernel)⟩
theorem tw_752 : q_g (.methodLink RX12 105 yX12_heavy) := ⟨(List.mem_append_right _ (List.mem_of_getElem? (i := 1246) (by decide +kernel))), good_of_word (by decide +kernel)⟩
theorem tw_753 : q_g (.selects RX12 yX12_sum yX12_sum) := ⟨(List.mem_append_left _ (List.mem_of_getElem? (i := 32) (by decide +kernel))), good_of_word (by decide +kernel)⟩
theorem tw_754 : q_g (.instanceMethod yX12_sum) := ⟨(List.mem_append_right _ (List.mem_of_getElem? (i := 1265) (by decide +kernel))), good_of_word (by decide +kernel)⟩
theorem tw_755 : q_g (.methodLink RX12 101 yX12_sum) := ⟨(List.mem_append_right _ (List.mem_of_getElem? (i := 1263) (by decide +kernel))), good_of_word (by decide +kernel)⟩
theorem tw_756 : q_g (.code yX12_lag cX12_lag 2 (some .long)) := ⟨(List.mem_append_right _ (List.mem_of_getElem? (i := 1290) (by decide +kernel))), good_of_word (by decide +kernel)⟩
def ow_c_X12_lag : List Cond := [.methodLink RX12 94 yX12_weight, .instanceMethod yX12_weight, .selects RX12 yX12_weight yX12_weight, .initialized RX12, .methodLink RX12 101 yX12_sum, .instanceMethod yX12_sum, .selects RX12 yX12_sum yX12_sum, .methodLink RX12 105 yX12_heavy, .instanceMethod yX12_heavy, .selects RX12 yX12_heavy yX12_heavy, .methodLink RX12 98 yX12_virtual, .instanceMethod yX12_virtual, .selects RX12 yX12_virtual yX12_virtual]
def wq_c_X12_lag : List Cond := .code yX12_lag cX12_lag 2 (some .long) :: (ow_c_X12_lag ++ (wq_c_X12_weight ++ (wq_c_X12_sum ++ (wq_c_X12_heavy ++ (wq_c_X12_virtual ++ ([] : List Cond))))))
theorem tb_c_X12_lag : ∀ w ∈ wq_c_X12_lag, q_g w := by
  unfold wq_c_X12_lag ow_c_X12_lag
  exact q_cons tw_756 (q_app (q_cons tw_741 (q_cons tw_740 (q_cons tw_739 (q_cons tw_728 (q_cons tw_755 (q_cons tw_754 (q_cons tw_753 (q_cons tw_752 (q_cons tw_751 (q_cons tw_750 (q_cons tw_748 (q_cons tw_747 (q_cons tw_746 q_nil))))))))))))) (q_app tb_c_X12_weight (q_app tb_c_X12_sum (q_app tb_c_X12_heavy (q_app tb_c_X12_virtual q_nil)))))
set_option maxHeartbeats 4000000 in
set_option maxRecDepth 100000 in
theorem c_X12_lag (l : Launch) (dC : Nat → ClassId) (dI : Nat → Nat → Nat) (g : kG) (A : Nat → Prop) (hG : kWf g) (f : Nat → va_E) (h0 : Nat) (p1 : Nat) (q : Nat → Int64) (i_h0 : ik g 12 h0) (hc0 : f (gr g h0 4) = .inl (gc g 1, 906, .inr (.inl q))) (hc0_ok : RowOK q) (ht : p1 < 12) : Met l yX12_lag wq_c_X12_lag ({ frames := 3, cells := 0, slots := 0, locals := 64 } : Room) (va_Pc [.ref h0, .int (nI p1)] (fun U => kIn dC dI g A f U)) (va_Ql (fun (r : Int64) (_ : Unit) => True) (fun (_ : Unit) t => Iv dC dI g A f t.heap) A) 0 0 A := by
  refine Met.ofW (cc := cX12_lag) (maxL := 2) (ret := (some .long)) (by decide) rfl ?_
  intro p e s m args below meth c s₁ B hml hv
  obtain ⟨rfl, hI, hK, hE⟩ := hv
  have hx := B.exec
  have hb := B.bytes
  have hr := B.returns
  have hts := atoms_spec (ws := wq_c_X12_lag) B.pre
  have hown : s.vm.findClass RX12 = some m.cls := findClass_of_methodNamed B.named
  have hlocks := B.notSynchronized
  have hS : va_S A s.heap s.heap [] := va_S.rf
  have hl := lv_entry ([.ref h0, .int (nI p1)]) (n := 2) (Nat.le_of_ble_eq_true rfl)
  rw [lg_entry_eq]
  generalize (lg_sl ([.ref h0, .int (nI p1)]) ++ List.replicate (2 - (lg_sl ([.ref h0, .int (nI p1)])).length) Slot.unset).toArray = ls at hl ⊢
  have hl : lv_has ls 2 [(0, .ref h0), (1, .int (nI p1))] := hl
  have i_1 := kw_12_4 hG i_h0
  have d_2 := rk_hd hc0_ok
  refine lv_aload_n hx hb dX12_lag_0 rfl (lv_at hl 0 rfl) ?_
  refine lv_iload_n hx hb dX12_lag_1 rfl (lv_at hl 1 rfl) ?_
  obtain ⟨x_4, x_5, x_6, x_7, x_8, x_9, x_10, x_11, x_12, x_13, x_14, x_15, x_16, x_17, k_3, b_18, b_19, b_20, b_21, b_22, b_23⟩ := op_12 hI i_h0
  refine va_calll (va_runV (As := [.int (nI p1)]) (rest := []) ⟨hx, hb, hml, hown, hts⟩ (c_X12_weight l dC dI g A hG f h0 p1 q i_h0 hc0 hc0_ok (by first | omega | decide | (simp only [k_c0, k_c1, k_cm1]; omega))) (cwV 1 hts (gi_V (fun w_ h0_ => ⟨List.mem_cons_of_mem _ (List.mem_append_right _ (List.mem_append_left _ h0_)), (tb_c_X12_weight w_ h0_).2⟩) (List.mem_cons_of_mem _ (List.mem_append_left _ (List.mem_of_getElem? (i := 0) rfl))) (List.mem_cons_of_mem _ (List.mem_append_left _ (List.mem_of_getElem? (i := 1) rfl))) (List.mem_cons_of_mem _ (List.mem_append_left _ (List.mem_of_getElem? (i := 2) rfl))) (List.mem_cons_of_mem _ (List.mem_append_left _ (List.mem_of_getElem? (i := 3) rfl)))) rfl rfl rfl (by decide +kernel) ⟨Nat.le_of_ble_eq_true rfl, Nat.le_of_ble_eq_true rfl⟩) ⟨fun a U g mk q => ⟨q.1, q.2.calling rfl rfl⟩, k_recv hK hI i_h0.1 k_3 (ci := 12) rfl, fun U hU hW => ⟨rfl, kIn.of hI hK hE hS hU hW⟩⟩ rfl rfl hl.1 rfl (lv_room (Nat.le_of_ble_eq_true rfl)) dX12_lag_2 ⟨Nat.le_of_ble_eq_true rfl, Nat.le_of_ble_eq_true rfl⟩) hS (fun q _ h => h) (fun q h => h) (fun r_25 u t H1 locs ht hvm w_24 hB hz1 hk1 hS => ?_)
  have hI : Iv dC dI g A f t.heap := hB
  rw [ht] at hI
  generalize H1 = H at hI hS ⊢
  refine W.widen (k := 0) (n := 0) (Nat.le_of_ble_eq_true rfl) (Nat.le_of_ble_eq_true rfl) ?_
  have w_24 : r_25 = q (6 + 43 * p1) := w_24
  refine k_topl (y := q (6 + 43 * p1)) w_24 ?_
  have d_26 := rk_0 hc0_ok (t := p1) (by omega)
  refine lv_aload_n hx hb dX12_lag_5 rfl (lv_at hl 0 rfl) ?_
  refine va_calll (va_runV (As := []) (rest := [.long (q (6 + 43 * p1))]) ⟨hx, hb, hml, hown, hts⟩ (c_X12_sum l dC dI g A hG f h0 q i_h0 hc0 hc0_ok) (cwV 0 hts (gi_V (fun w_ h0_ => ⟨List.mem_cons_of_mem _ (List.mem_append_right _ (List.mem_append_right _ (List.mem_append_left _ h0_))), (tb_c_X12_sum w_ h0_).2⟩) (List.mem_cons_of_mem _ (List.mem_append_left _ (List.mem_of_getElem? (i := 4) rfl))) (List.mem_cons_of_mem _ (List.mem_append_left _ (List.mem_of_getElem? (i := 5) rfl))) (List.mem_cons_of_mem _ (List.mem_append_left _ (List.mem_of_getElem? (i := 6) rfl))) (List.mem_cons_of_mem _ (List.mem_append_left _ (List.mem_of_getElem? (i := 3) rfl)))) rfl rfl rfl (by decide +kernel) ⟨Nat.le_of_ble_eq_true rfl, Nat.le_of_ble_eq_true rfl⟩) ⟨fun a U g mk q => ⟨q.1, q.2.calling rfl rfl⟩, k_recv hK hI i_h0.1 k_3 (ci := 12) rfl, fun U hU hW => ⟨rfl, kIn.of hI hK hE hS hU hW⟩⟩ rfl rfl hl.1 rfl (lv_room (Nat.le_of_ble_eq_true rfl)) dX12_lag_6 ⟨Nat.le_of_ble_eq_true rfl, Nat.le_of_ble_eq_true rfl⟩) hS (fun q _ h => h) (fun q h => h) (fun r_28 u t H1 locs ht hvm w_27 hB hz1 hk1 hS => ?_)
  have hI : Iv dC dI g A f t.heap := hB
  rw [ht] at hI
  generalize H1 = H at hI hS ⊢
  refine W.widen (k := 0) (n := 0) (Nat.le_of_ble_eq_true rfl) (Nat.le_of_ble_eq_true rfl) ?_
  refine lv_aload_n hx hb dX12_lag_9 rfl (lv_at hl 0 rfl) ?_
  refine va_calll (va_runV (As := []) (rest := [.long r_28, .long (q (6 + 43 * p1))]) ⟨hx, hb, hml, hown, hts⟩ (c_X12_heavy l dC dI g A hG f h0 q i_h0 hc0 hc0_ok) (cwV 0 hts (gi_V (fun w_ h0_ => ⟨List.mem_cons_of_mem _ (List.mem_append_right _ (List.mem_append_right _ (List.mem_append_right _ (List.mem_append_left _ h0_)))), (tb_c_X12_heavy w_ h0_).2⟩) (List.mem_cons_of_mem _ (List.mem_append_left _ (List.mem_of_getElem? (i := 7) rfl))) (List.mem_cons_of_mem _ (List.mem_append_left _ (List.mem_of_getElem? (i := 8) rfl))) (List.mem_cons_of_mem _ (List.mem_append_left _ (List.mem_of_getElem? (i := 9) rfl))) (List.mem_cons_of_mem _ (List.mem_append_left _ (List.mem_of_getElem? (i := 3) rfl)))) rfl rfl rfl (by decide +kernel) ⟨Nat.le_of_ble_eq_true rfl, Nat.le_of_ble_eq_true rfl⟩) ⟨fun a U g mk q => ⟨q.1, q.2.calling rfl rfl⟩, k_recv hK hI i_h0.1 k_3 (ci := 12) rfl, fun U hU hW => ⟨rfl, kIn.of hI hK hE hS hU hW⟩⟩ rfl rfl hl.1 rfl (lv_room (Nat.le_of_ble_eq_true rfl)) dX12_lag_10 ⟨Nat.le_of_ble_eq_true rfl, Nat.le_of_ble_eq_true rfl⟩) hS (fun q _ h => h) (fun q h => h) (fun r_30 u t H1 locs ht hvm w_29 hB hz1 hk1 hS => ?_)
  have hI : Iv dC dI g A f t.heap := hB
  rw [ht] at hI
  generalize H1 = H at hI hS ⊢
  refine W.widen (k := 0) (n := 0) (Nat.le_of_ble_eq_true rfl) (Nat.le_of_ble_eq_true rfl) ?_
  have w_29 : 0 ≤ r_30.toInt ∧ r_30.toInt ≤ 96 ∧ ∀ t : Nat, (t : Int) < (q 0).toInt → (q (6 + 43 * t + 2)).toInt = 1 → 1 ≤ r_30.toInt := w_29
  refine lv_aload_n hx hb dX12_lag_13 rfl (lv_at hl 0 rfl) ?_
  refine lv_iload_n hx hb dX12_lag_14 rfl (lv_at hl 1 rfl) ?_
  refine va_calll (va_runV (As := [.int (nI p1)]) (rest := [.long r_30, .long r_28, .long (q (6 + 43 * p1))]) ⟨hx, hb, hml, hown, hts⟩ (c_X12_virtual l dC dI g A hG f h0 p1 q i_h0 hc0 hc0_ok (by first | omega | decide | (simp only [k_c0, k_c1, k_cm1]; omega))) (cwV 1 hts (gi_V (fun w_ h0_ => ⟨List.mem_cons_of_mem _ (List.mem_append_right _ (List.mem_append_right _ (List.mem_append_right _ (List.mem_append_right _ (List.mem_append_left _ h0_))))), (tb_c_X12_virtual w_ h0_).2⟩) (List.mem_cons_of_mem _ (List.mem_append_left _ (List.mem_of_getElem? (i := 10) rfl))) (List.mem_cons_of_mem _ (List.mem_append_left _ (List.mem_of_getElem? (i := 11) rfl))) (List.mem_cons_of_mem _ (List.mem_append_left _ (List.mem_of_getElem? (i := 12) rfl))) (List.mem_cons_of_mem _ (List.mem_append_left _ (List.mem_of_getElem? (i := 3) rfl)))) rfl rfl rfl (by decide +kernel) ⟨Nat.le_of_ble_eq_true rfl, Nat.le_of_ble_eq_true rfl⟩) ⟨fun a U g mk q => ⟨q.1, q.2.calling rfl rfl⟩, k_recv hK hI i_h0.1 k_3 (ci := 12) rfl, fun U hU hW => ⟨rfl, kIn.of hI hK hE hS hU hW⟩⟩ rfl rfl hl.1 rfl (lv_room (Nat.le_of_ble_eq_true rfl)) dX12_lag_15 ⟨Nat.le_of_ble_eq_true rfl, Nat.le_of_ble_eq_true rfl⟩) hS (fun q _ h => h) (fun q h => h) (fun r_32 u t H1 locs ht hvm w_31 hB hz1 hk1 hS => ?_)
  have hI : Iv dC dI g A f t.heap := hB
  rw [ht] at hI
  generalize H1 = H at hI hS ⊢
  refine W.widen (k := 0) (n := 0) (Nat.le_of_ble_eq_true rfl) (Nat.le_of_ble_eq_true rfl) ?_
  refine lv_lmul hx hb dX12_lag_18 ?_
  refine lv_topl (fun v_33 ev_33 => ?_)
  refine lv_lsub hx hb dX12_lag_19 ?_
  refine lv_topl (fun v_34 ev_34 => ?_)
  have tv_34 := l_sb r_28 v_33
  rw [← ev_34] at tv_34
  refine lv_lmul hx hb dX12_lag_20 ?_
  refine lv_topl (fun v_35 ev_35 => ?_)
  exact W.lret (v := v_35) hx hb hr (fun t ht hW => ⟨⟨v_35, (), rfl, trivial, k_ret ht hI⟩, hS.F ht⟩) hS.2.2 dX12_lag_21
theorem tw_757 : q_g (.constantLong RX12 108 (5354228880)) := ⟨(List.mem_append_right _ (List.mem_of_getElem? (i := 1275) (by decide +kernel))), good_of_word (by decide +kernel)⟩
theorem tw_758 : q_g (.code yX12_deadline cX12_deadline 2 (some .long)) := ⟨(List.mem_append_right _ (List.mem_of_getElem? (i := 1319) (by decide +kernel))), good_of_word (by decide +kernel)⟩
def ow_c_X12_deadline : List Cond := [.methodLink RX12 98 yX12_virtual, .instanceMethod yX12_virtual, .selects RX12 yX12_virtual yX12_virtual, .initialized RX12, .fieldLink RX12 16 "DeadlineShareModel" "row" "[J", .methodLink RX12 87 yX12_at, .static yX12_at, .constantLong RX12 108 (5354228880), .methodLink RX12 94 yX12_weight, .instanceMethod yX12_weight, .selects RX12 yX12_weight yX12_weight]
def wq_c_X12_deadline : List Cond := .code yX12_deadline cX12_deadline 2 (some .long) :: (ow_c_X12_deadline ++ (wq_c_X12_virtual ++ (u_ws RX12 TX12 27 ++ (wq_c_X12_at ++ (wq_c_X12_weight ++ ([] : List Cond))))))
theorem tb_c_X12_deadline : ∀ w ∈ wq_c_X12_deadline, q_g w := by
  unfold wq_c_X12_deadline ow_c_X12_deadline
  exact q_cons tw_758 (q_app (q_cons tw_748 (q_cons tw_747 (q_cons tw_746 (q_cons tw_728 (q_cons tw_731 (q_cons tw_734 (q_cons tw_733 (q_cons tw_757 (q_cons tw_741 (q_cons tw_740 (q_cons tw_739 q_nil))))))))))) (q_app tb_c_X12_virtual (q_app tu_X12 (q_app tb_c_X12_at (q_app tb_c_X12_weight q_nil)))))
set_option maxHeartbeats 4000000 in
set_option maxRecDepth 100000 in
theorem c_X12_deadline (l : Launch) (dC : Nat → ClassId) (dI : Nat → Nat → Nat) (g : kG) (A : Nat → Prop) (hG : kWf g) (f : Nat → va_E) (h0 : Nat) (p1 : Nat) (q : Nat → Int64) (i_h0 : ik g 12 h0) (hc0 : f (gr g h0 4) = .inl (gc g 1, 906, .inr (.inl q))) (hc0_ok : RowOK q) (ht : (p1 : Int) < (q 0).toInt) : Met l yX12_deadline wq_c_X12_deadline ({ frames := 2, cells := 0, slots := 0, locals := 41 } : Room) (va_Pc [.ref h0, .int (nI p1)] (fun U => kIn dC dI g A f U)) (va_Ql (fun (r : Int64) (_ : Unit) => True) (fun (_ : Unit) t => Iv dC dI g A f t.heap) A) 0 0 A := by
  refine Met.ofW (cc := cX12_deadline) (maxL := 2) (ret := (some .long)) (by decide) rfl ?_
  intro p e s m args below meth c s₁ B hml hv
  obtain ⟨rfl, hI, hK, hE⟩ := hv
  have hx := B.exec
  have hb := B.bytes
  have hr := B.returns
  have hts := atoms_spec (ws := wq_c_X12_deadline) B.pre
  have hown : s.vm.findClass RX12 = some m.cls := findClass_of_methodNamed B.named
  have hlocks := B.notSynchronized
  have hS : va_S A s.heap s.heap [] := va_S.rf
  have hl := lv_entry ([.ref h0, .int (nI p1)]) (n := 2) (Nat.le_of_ble_eq_true rfl)
  rw [lg_entry_eq]
  generalize (lg_sl ([.ref h0, .int (nI p1)]) ++ List.replicate (2 - (lg_sl ([.ref h0, .int (nI p1)])).length) Slot.unset).toArray = ls at hl ⊢
  have hl : lv_has ls 2 [(0, .ref h0), (1, .int (nI p1))] := hl
  have i_1 := kw_12_4 hG i_h0
  have d_2 := rk_hd hc0_ok
  refine lv_aload_n hx hb dX12_deadline_0 rfl (lv_at hl 0 rfl) ?_
  refine lv_iload_n hx hb dX12_deadline_1 rfl (lv_at hl 1 rfl) ?_
  obtain ⟨x_4, x_5, x_6, x_7, x_8, x_9, x_10, x_11, x_12, x_13, x_14, x_15, x_16, x_17, k_3, b_18, b_19, b_20, b_21, b_22, b_23⟩ := op_12 hI i_h0
  refine va_calll (va_runV (As := [.int (nI p1)]) (rest := []) ⟨hx, hb, hml, hown, hts⟩ (c_X12_virtual l dC dI g A hG f h0 p1 q i_h0 hc0 hc0_ok (by first | omega | decide | (simp only [k_c0, k_c1, k_cm1]; omega))) (cwV 1 hts (gi_V (fun w_ h0_ => ⟨List.mem_cons_of_mem _ (List.mem_append_right _ (List.mem_append_left _ h0_)), (tb_c_X12_virtual w_ h0_).2⟩) (List.mem_cons_of_mem _ (List.mem_append_left _ (List.mem_of_getElem? (i := 0) rfl))) (List.mem_cons_of_mem _ (List.mem_append_left _ (List.mem_of_getElem? (i := 1) rfl))) (List.mem_cons_of_mem _ (List.mem_append_left _ (List.mem_of_getElem? (i := 2) rfl))) (List.mem_cons_of_mem _ (List.mem_append_left _ (List.mem_of_getElem? (i := 3) rfl)))) rfl rfl rfl (by decide +kernel) ⟨Nat.le_of_ble_eq_true rfl, Nat.le_of_ble_eq_true rfl⟩) ⟨fun a U g mk q => ⟨q.1, q.2.calling rfl rfl⟩, k_recv hK hI i_h0.1 k_3 (ci := 12) rfl, fun U hU hW => ⟨rfl, kIn.of hI hK hE hS hU hW⟩⟩ rfl rfl hl.1 rfl (lv_room (Nat.le_of_ble_eq_true rfl)) dX12_deadline_2 ⟨Nat.le_of_ble_eq_true rfl, Nat.le_of_ble_eq_true rfl⟩) hS (fun q _ h => h) (fun q h => h) (fun r_25 u t H1 locs ht hvm w_24 hB hz1 hk1 hS => ?_)
  have hI : Iv dC dI g A f t.heap := hB
  rw [ht] at hI
  generalize H1 = H at hI hS ⊢
  refine W.widen (k := 0) (n := 0) (Nat.le_of_ble_eq_true rfl) (Nat.le_of_ble_eq_true rfl) ?_
  refine lv_aload_n hx hb dX12_deadline_5 rfl (lv_at hl 0 rfl) ?_
  refine k_get (ci := 12) (v := .ref (gr g h0 4)) (C := RX12) (T := TX12) (N := 27) hx hb hts (fun _ h0_ => List.mem_cons_of_mem _ (List.mem_append_right _ (List.mem_append_right _ (List.mem_append_left _ h0_)))) hown hK hI i_h0.1 k_3 rfl 4 (by decide) (hts (.fieldLink RX12 16 "DeadlineShareModel" "row" "[J") (List.mem_cons_of_mem _ (List.mem_append_left _ (List.mem_of_getElem? (i := 4) rfl)))) (fun _ h9 => h9) rfl dX12_deadline_6 ?_
  refine lv_iload_n hx hb dX12_deadline_9 rfl (lv_at hl 1 rfl) ?_
  refine va_calli (va_runS (As := [.int (nI p1)]) (rest := [.ref (gr g h0 4), .long r_25]) ⟨hx, hb, hml, hown, hts⟩ (c_X12_at l dC dI g A hG f p1) (va_cwS 1 hts (gi_S (fun w_ h0_ => ⟨List.mem_cons_of_mem _ (List.mem_append_right _ (List.mem_append_right _ (List.mem_append_right _ (List.mem_append_left _ h0_)))), (tb_c_X12_at w_ h0_).2⟩) (List.mem_cons_of_mem _ (List.mem_append_left _ (List.mem_of_getElem? (i := 5) rfl))) (List.mem_cons_of_mem _ (List.mem_append_left _ (List.mem_of_getElem? (i := 6) rfl))) (List.mem_cons_of_mem _ (List.mem_append_left _ (List.mem_of_getElem? (i := 3) rfl)))) rfl rfl rfl (by decide +kernel) ⟨Nat.le_of_ble_eq_true rfl, Nat.le_of_ble_eq_true rfl⟩) ⟨fun a U g mk q => ⟨q.1, q.2.calling rfl rfl⟩, fun U hU hW => ⟨rfl, kIn.of hI hK hE hS hU hW⟩⟩ rfl rfl hl.1 rfl (lv_room (Nat.le_of_ble_eq_true rfl)) dX12_deadline_10 ⟨Nat.le_of_ble_eq_true rfl, Nat.le_of_ble_eq_true rfl⟩) hS (fun q _ h => h) (fun q h => h) (fun r_29 u t H1 locs ht hvm w_28 hB hz1 hk1 hS => ?_)
  have hI : Iv dC dI g A f t.heap := hB
  rw [ht] at hI
  generalize H1 = H at hI hS ⊢
  refine W.widen (k := 0) (n := 0) (Nat.le_of_ble_eq_true rfl) (Nat.le_of_ble_eq_true rfl) ?_
  have w_28 : r_29 = nI (6 + 43 * p1) := w_28
  refine k_topi (y := nI (6 + 43 * p1)) w_28 ?_
  refine lv_iconst (v := 3) hx hb dX12_deadline_13 (by decide) ?_
  refine lv_iadd hx hb dX12_deadline_14 ?_
  refine k_topi (y := nI (6 + 43 * p1 + 3)) ((nI_add (6 + 43 * p1) 3).trans (congrArg nI (by omega))) ?_
  refine k_lald hx hb hK hI i_1.1 1 hc0 rfl (vp_in_nI (by omega) (by omega)) dX12_deadline_15 ?_
  refine k_topl (y := q (6 + 43 * p1 + 3)) (congrArg q (nI_clamp (by omega))) ?_
  refine lv_ldc2 hx hb hown (hts (.constantLong RX12 108 (5354228880)) (List.mem_cons_of_mem _ (List.mem_append_left _ (List.mem_of_getElem? (i := 7) rfl)))) dX12_deadline_16 ?_
  refine lv_aload_n hx hb dX12_deadline_19 rfl (lv_at hl 0 rfl) ?_
  refine lv_iload_n hx hb dX12_deadline_20 rfl (lv_at hl 1 rfl) ?_
  refine va_calll (va_runV (As := [.int (nI p1)]) (rest := [.long 5354228880, .long (q (6 + 43 * p1 + 3)), .long r_25]) ⟨hx, hb, hml, hown, hts⟩ (c_X12_weight l dC dI g A hG f h0 p1 q i_h0 hc0 hc0_ok (by first | omega | decide | (simp only [k_c0, k_c1, k_cm1]; omega))) (cwV 1 hts (gi_V (fun w_ h0_ => ⟨List.mem_cons_of_mem _ (List.mem_append_right _ (List.mem_append_right _ (List.mem_append_right _ (List.mem_append_right _ (List.mem_append_left _ h0_))))), (tb_c_X12_weight w_ h0_).2⟩) (List.mem_cons_of_mem _ (List.mem_append_left _ (List.mem_of_getElem? (i := 8) rfl))) (List.mem_cons_of_mem _ (List.mem_append_left _ (List.mem_of_getElem? (i := 9) rfl))) (List.mem_cons_of_mem _ (List.mem_append_left _ (List.mem_of_getElem? (i := 10) rfl))) (List.mem_cons_of_mem _ (List.mem_append_left _ (List.mem_of_getElem? (i := 3) rfl)))) rfl rfl rfl (by decide +kernel) ⟨Nat.le_of_ble_eq_true rfl, Nat.le_of_ble_eq_true rfl⟩) ⟨fun a U g mk q => ⟨q.1, q.2.calling rfl rfl⟩, k_recv hK hI i_h0.1 k_3 (ci := 12) rfl, fun U hU hW => ⟨rfl, kIn.of hI hK hE hS hU hW⟩⟩ rfl rfl hl.1 rfl (lv_room (Nat.le_of_ble_eq_true rfl)) dX12_deadline_21 ⟨Nat.le_of_ble_eq_true rfl, Nat.le_of_ble_eq_true rfl⟩) hS (fun q _ h => h) (fun q h => h) (fun r_31 u t H1 locs ht hvm w_30 hB hz1 hk1 hS => ?_)
  have hI : Iv dC dI g A f t.heap := hB
  rw [ht] at hI
  generalize H1 = H at hI hS ⊢
  refine W.widen (k := 0) (n := 0) (Nat.le_of_ble_eq_true rfl) (Nat.le_of_ble_eq_true rfl) ?_
  have w_30 : r_31 = q (6 + 43 * p1) := w_30
  refine k_topl (y := q (6 + 43 * p1)) w_30 ?_
  have d_32 := rk_0 hc0_ok (t := p1) (by omega)
  refine lv_ldiv hx hb dX12_deadline_24 (k_ne0L (by omega)) ?_
  refine lv_topl (fun v_33 ev_33 => ?_)
  refine lv_lmul hx hb dX12_deadline_25 ?_
  refine lv_topl (fun v_34 ev_34 => ?_)
  refine lv_ladd hx hb dX12_deadline_26 ?_
  refine lv_topl (fun v_35 ev_35 => ?_)
  have tv_35 := l_ad r_25 v_34
  rw [← ev_35] at tv_35
  exact W.lret (v := v_35) hx hb hr (fun t ht hW => ⟨⟨v_35, (), rfl, trivial, k_ret ht hI⟩, hS.F ht⟩) hS.2.2 dX12_deadline_27
theorem tw_759 : q_g (.code yX12_isEligible cX12_isEligible 2 (some .boolean)) := ⟨(List.mem_append_right _ (List.mem_of_getElem? (i := 1420) (by decide +kernel))), good_of_word (by decide +kernel)⟩
def ow_c_X12_isEligible : List Cond := [.methodLink RX12 90 yX12_isOn, .instanceMethod yX12_isOn, .selects RX12 yX12_isOn yX12_isOn, .initialized RX12, .methodLink RX12 105 yX12_heavy, .instanceMethod yX12_heavy, .selects RX12 yX12_heavy yX12_heavy, .methodLink RX12 98 yX12_virtual, .instanceMethod yX12_virtual, .selects RX12 yX12_virtual yX12_virtual, .methodLink RX12 101 yX12_sum, .instanceMethod yX12_sum, .selects RX12 yX12_sum yX12_sum]
def wq_c_X12_isEligible : List Cond := .code yX12_isEligible cX12_isEligible 2 (some .boolean) :: (ow_c_X12_isEligible ++ (wq_c_X12_isOn ++ (wq_c_X12_heavy ++ (wq_c_X12_virtual ++ (wq_c_X12_sum ++ ([] : List Cond))))))
theorem tb_c_X12_isEligible : ∀ w ∈ wq_c_X12_isEligible, q_g w := by
  unfold wq_c_X12_isEligible ow_c_X12_isEligible
  exact q_cons tw_759 (q_app (q_cons tw_744 (q_cons tw_743 (q_cons tw_742 (q_cons tw_728 (q_cons tw_752 (q_cons tw_751 (q_cons tw_750 (q_cons tw_748 (q_cons tw_747 (q_cons tw_746 (q_cons tw_755 (q_cons tw_754 (q_cons tw_753 q_nil))))))))))))) (q_app tb_c_X12_isOn (q_app tb_c_X12_heavy (q_app tb_c_X12_virtual (q_app tb_c_X12_sum q_nil)))))
set_option maxHeartbeats 4000000 in
set_option maxRecDepth 100000 in
theorem c_X12_isEligible (l : Launch) (dC : Nat → ClassId) (dI : Nat → Nat → Nat) (g : kG) (A : Nat → Prop) (hG : kWf g) (f : Nat → va_E) (h0 : Nat) (p1 : Nat) (q : Nat → Int64) (i_h0 : ik g 12 h0) (hc0 : f (gr g h0 4) = .inl (gc g 1, 906, .inr (.inl q))) (hc0_ok : RowOK q) (ht : p1 < 12) : Met l yX12_isEligible wq_c_X12_isEligible ({ frames := 3, cells := 0, slots := 0, locals := 64 } : Room) (va_Pc [.ref h0, .int (nI p1)] (fun U => kIn dC dI g A f U)) (va_Qi (fun (r : Int32) (_ : Unit) => True) (fun (_ : Unit) t => Iv dC dI g A f t.heap) A) 0 0 A := by
  refine Met.ofW (cc := cX12_isEligible) (maxL := 2) (ret := (some .boolean)) (by decide) rfl ?_
  intro p e s m args below meth c s₁ B hml hv
  obtain ⟨rfl, hI, hK, hE⟩ := hv
  have hx := B.exec
  have hb := B.bytes
  have hr := B.returns
  have hts := atoms_spec (ws := wq_c_X12_isEligible) B.pre
  have hown : s.vm.findClass RX12 = some m.cls := findClass_of_methodNamed B.named
  have hlocks := B.notSynchronized
  have hS : va_S A s.heap s.heap [] := va_S.rf
  have hl := lv_entry ([.ref h0, .int (nI p1)]) (n := 2) (Nat.le_of_ble_eq_true rfl)
  rw [lg_entry_eq]
  generalize (lg_sl ([.ref h0, .int (nI p1)]) ++ List.replicate (2 - (lg_sl ([.ref h0, .int (nI p1)])).length) Slot.unset).toArray = ls at hl ⊢
  have hl : lv_has ls 2 [(0, .ref h0), (1, .int (nI p1))] := hl
  have i_1 := kw_12_4 hG i_h0
  have d_2 := rk_hd hc0_ok
  refine lv_aload_n hx hb dX12_isEligible_0 rfl (lv_at hl 0 rfl) ?_
  refine lv_iload_n hx hb dX12_isEligible_1 rfl (lv_at hl 1 rfl) ?_
  obtain ⟨x_4, x_5, x_6, x_7, x_8, x_9, x_10, x_11, x_12, x_13, x_14, x_15, x_16, x_17, k_3, b_18, b_19, b_20, b_21, b_22, b_23⟩ := op_12 hI i_h0
  refine va_calli (va_runV (As := [.int (nI p1)]) (rest := []) ⟨hx, hb, hml, hown, hts⟩ (c_X12_isOn l dC dI g A hG f h0 p1 q i_h0 hc0 hc0_ok (by first | omega | decide | (simp only [k_c0, k_c1, k_cm1]; omega))) (cwV 1 hts (gi_V (fun w_ h0_ => ⟨List.mem_cons_of_mem _ (List.mem_append_right _ (List.mem_append_left _ h0_)), (tb_c_X12_isOn w_ h0_).2⟩) (List.mem_cons_of_mem _ (List.mem_append_left _ (List.mem_of_getElem? (i := 0) rfl))) (List.mem_cons_of_mem _ (List.mem_append_left _ (List.mem_of_getElem? (i := 1) rfl))) (List.mem_cons_of_mem _ (List.mem_append_left _ (List.mem_of_getElem? (i := 2) rfl))) (List.mem_cons_of_mem _ (List.mem_append_left _ (List.mem_of_getElem? (i := 3) rfl)))) rfl rfl rfl (by decide +kernel) ⟨Nat.le_of_ble_eq_true rfl, Nat.le_of_ble_eq_true rfl⟩) ⟨fun a U g mk q => ⟨q.1, q.2.calling rfl rfl⟩, k_recv hK hI i_h0.1 k_3 (ci := 12) rfl, fun U hU hW => ⟨rfl, kIn.of hI hK hE hS hU hW⟩⟩ rfl rfl hl.1 rfl (lv_room (Nat.le_of_ble_eq_true rfl)) dX12_isEligible_2 ⟨Nat.le_of_ble_eq_true rfl, Nat.le_of_ble_eq_true rfl⟩) hS (fun q _ h => h) (fun q h => h) (fun r_25 u t H1 locs ht hvm w_24 hB hz1 hk1 hS => ?_)
  have hI : Iv dC dI g A f t.heap := hB
  rw [ht] at hI
  generalize H1 = H at hI hS ⊢
  refine W.widen (k := 0) (n := 0) (Nat.le_of_ble_eq_true rfl) (Nat.le_of_ble_eq_true rfl) ?_
  have w_24 : (r_25.toInt = 0 ∧ (q (6 + 43 * p1 + 2)).toInt ≠ 1) ∨ (r_25.toInt = 1 ∧ (q (6 + 43 * p1 + 2)).toInt = 1) := w_24
  refine lv_if_eq (tgt := 30) hx hb dX12_isEligible_5 (by decide) (fun c_26 => ?_) (fun c_26 => ?_)
  · have c_26 := kc_eq rfl (by decide : Int32.toInt 0 = 0) c_26
    refine lv_iconst (v := 0) hx hb dX12_isEligible_30 (by decide) ?_
    exact W.zret (v := 0) hx hb hr rfl (fun t ht hW => ⟨⟨0, (), rfl, trivial, k_ret ht hI⟩, hS.F ht⟩) hS.2.2 dX12_isEligible_31
  · have c_26 := kn_eq rfl (by decide : Int32.toInt 0 = 0) c_26
    refine lv_aload_n hx hb dX12_isEligible_8 rfl (lv_at hl 0 rfl) ?_
    refine va_calll (va_runV (As := []) (rest := []) ⟨hx, hb, hml, hown, hts⟩ (c_X12_heavy l dC dI g A hG f h0 q i_h0 hc0 hc0_ok) (cwV 0 hts (gi_V (fun w_ h0_ => ⟨List.mem_cons_of_mem _ (List.mem_append_right _ (List.mem_append_right _ (List.mem_append_left _ h0_))), (tb_c_X12_heavy w_ h0_).2⟩) (List.mem_cons_of_mem _ (List.mem_append_left _ (List.mem_of_getElem? (i := 4) rfl))) (List.mem_cons_of_mem _ (List.mem_append_left _ (List.mem_of_getElem? (i := 5) rfl))) (List.mem_cons_of_mem _ (List.mem_append_left _ (List.mem_of_getElem? (i := 6) rfl))) (List.mem_cons_of_mem _ (List.mem_append_left _ (List.mem_of_getElem? (i := 3) rfl)))) rfl rfl rfl (by decide +kernel) ⟨Nat.le_of_ble_eq_true rfl, Nat.le_of_ble_eq_true rfl⟩) ⟨fun a U g mk q => ⟨q.1, q.2.calling rfl rfl⟩, k_recv hK hI i_h0.1 k_3 (ci := 12) rfl, fun U hU hW => ⟨rfl, kIn.of hI hK hE hS hU hW⟩⟩ rfl rfl hl.1 rfl (lv_room (Nat.le_of_ble_eq_true rfl)) dX12_isEligible_9 ⟨Nat.le_of_ble_eq_true rfl, Nat.le_of_ble_eq_true rfl⟩) hS (fun q _ h => h) (fun q h => h) (fun r_28 u t H1 locs ht hvm w_27 hB hz1 hk1 hS => ?_)
    have hI : Iv dC dI g A f t.heap := hB
    rw [ht] at hI
    generalize H1 = H at hI hS ⊢
    refine W.widen (k := 0) (n := 0) (Nat.le_of_ble_eq_true rfl) (Nat.le_of_ble_eq_true rfl) ?_
    have w_27 : 0 ≤ r_28.toInt ∧ r_28.toInt ≤ 96 ∧ ∀ t : Nat, (t : Int) < (q 0).toInt → (q (6 + 43 * t + 2)).toInt = 1 → 1 ≤ r_28.toInt := w_27
    refine lv_aload_n hx hb dX12_isEligible_12 rfl (lv_at hl 0 rfl) ?_
    refine lv_iload_n hx hb dX12_isEligible_13 rfl (lv_at hl 1 rfl) ?_
    refine va_calll (va_runV (As := [.int (nI p1)]) (rest := [.long r_28]) ⟨hx, hb, hml, hown, hts⟩ (c_X12_virtual l dC dI g A hG f h0 p1 q i_h0 hc0 hc0_ok (by first | omega | decide | (simp only [k_c0, k_c1, k_cm1]; omega))) (cwV 1 hts (gi_V (fun w_ h0_ => ⟨List.mem_cons_of_mem _ (List.mem_append_right _ (List.mem_append_right _ (List.mem_append_right _ (List.mem_append_left _ h0_)))), (tb_c_X12_virtual w_ h0_).2⟩) (List.mem_cons_of_mem _ (List.mem_append_left _ (List.mem_of_getElem? (i := 7) rfl))) (List.mem_cons_of_mem _ (List.mem_append_left _ (List.mem_of_getElem? (i := 8) rfl))) (List.mem_cons_of_mem _ (List.mem_append_left _ (List.mem_of_getElem? (i := 9) rfl))) (List.mem_cons_of_mem _ (List.mem_append_left _ (List.mem_of_getElem? (i := 3) rfl)))) rfl rfl rfl (by decide +kernel) ⟨Nat.le_of_ble_eq_true rfl, Nat.le_of_ble_eq_true rfl⟩) ⟨fun a U g mk q => ⟨q.1, q.2.calling rfl rfl⟩, k_recv hK hI i_h0.1 k_3 (ci := 12) rfl, fun U hU hW => ⟨rfl, kIn.of hI hK hE hS hU hW⟩⟩ rfl rfl hl.1 rfl (lv_room (Nat.le_of_ble_eq_true rfl)) dX12_isEligible_14 ⟨Nat.le_of_ble_eq_true rfl, Nat.le_of_ble_eq_true rfl⟩) hS (fun q _ h => h) (fun q h => h) (fun r_30 u t H1 locs ht hvm w_29 hB hz1 hk1 hS => ?_)
    have hI : Iv dC dI g A f t.heap := hB
    rw [ht] at hI
    generalize H1 = H at hI hS ⊢
    refine W.widen (k := 0) (n := 0) (Nat.le_of_ble_eq_true rfl) (Nat.le_of_ble_eq_true rfl) ?_
    refine lv_lmul hx hb dX12_isEligible_17 ?_
    refine lv_topl (fun v_31 ev_31 => ?_)
    refine lv_aload_n hx hb dX12_isEligible_18 rfl (lv_at hl 0 rfl) ?_
    refine va_calll (va_runV (As := []) (rest := [.long v_31]) ⟨hx, hb, hml, hown, hts⟩ (c_X12_sum l dC dI g A hG f h0 q i_h0 hc0 hc0_ok) (cwV 0 hts (gi_V (fun w_ h0_ => ⟨List.mem_cons_of_mem _ (List.mem_append_right _ (List.mem_append_right _ (List.mem_append_right _ (List.mem_append_right _ (List.mem_append_left _ h0_))))), (tb_c_X12_sum w_ h0_).2⟩) (List.mem_cons_of_mem _ (List.mem_append_left _ (List.mem_of_getElem? (i := 10) rfl))) (List.mem_cons_of_mem _ (List.mem_append_left _ (List.mem_of_getElem? (i := 11) rfl))) (List.mem_cons_of_mem _ (List.mem_append_left _ (List.mem_of_getElem? (i := 12) rfl))) (List.mem_cons_of_mem _ (List.mem_append_left _ (List.mem_of_getElem? (i := 3) rfl)))) rfl rfl rfl (by decide +kernel) ⟨Nat.le_of_ble_eq_true rfl, Nat.le_of_ble_eq_true rfl⟩) ⟨fun a U g mk q => ⟨q.1, q.2.calling rfl rfl⟩, k_recv hK hI i_h0.1 k_3 (ci := 12) rfl, fun U hU hW => ⟨rfl, kIn.of hI hK hE hS hU hW⟩⟩ rfl rfl hl.1 rfl (lv_room (Nat.le_of_ble_eq_true rfl)) dX12_isEligible_19 ⟨Nat.le_of_ble_eq_true rfl, Nat.le_of_ble_eq_true rfl⟩) hS (fun q _ h => h) (fun q h => h) (fun r_33 u t H1 locs ht hvm w_32 hB hz1 hk1 hS => ?_)
    have hI : Iv dC dI g A f t.heap := hB
    rw [ht] at hI
    generalize H1 = H at hI hS ⊢
    refine W.widen (k := 0) (n := 0) (Nat.le_of_ble_eq_true rfl) (Nat.le_of_ble_eq_true rfl) ?_
    refine W.lcmp hx hb dX12_isEligible_22 ?_
    refine lv_if_gt (tgt := 30) hx hb dX12_isEligible_23 (by decide) (fun c_34 => ?_) (fun c_34 => ?_)
    · have c_34 := lc_lt rfl rfl ((lg_cmp_gt _ _).mp c_34)
      refine lv_iconst (v := 0) hx hb dX12_isEligible_30 (by decide) ?_
      exact W.zret (v := 0) hx hb hr rfl (fun t ht hW => ⟨⟨0, (), rfl, trivial, k_ret ht hI⟩, hS.F ht⟩) hS.2.2 dX12_isEligible_31
    · have c_34 := ln_lt rfl rfl (fun h9 => c_34 ((lg_cmp_gt _ _).mpr h9))
      refine lv_iconst (v := 1) hx hb dX12_isEligible_26 (by decide) ?_
      refine lv_goto (tgt := 31) hx hb dX12_isEligible_27 (by decide) ?_
      exact W.zret (v := 1) hx hb hr rfl (fun t ht hW => ⟨⟨1, (), rfl, trivial, k_ret ht hI⟩, hS.F ht⟩) hS.2.2 dX12_isEligible_31
theorem tw_760 : q_g (.constantLong RX12 110 (24)) := ⟨(List.mem_append_right _ (List.mem_of_getElem? (i := 1258) (by decide +kernel))), good_of_word (by decide +kernel)⟩
theorem tw_761 : q_g (.code yX12_hasRoom cX12_hasRoom 2 (some .boolean)) := ⟨(List.mem_append_right _ (List.mem_of_getElem? (i := 1245) (by decide +kernel))), good_of_word (by decide +kernel)⟩
def ow_c_X12_hasRoom : List Cond := [.methodLink RX12 105 yX12_heavy, .instanceMethod yX12_heavy, .selects RX12 yX12_heavy yX12_heavy, .initialized RX12, .methodLink RX12 94 yX12_weight, .instanceMethod yX12_weight, .selects RX12 yX12_weight yX12_weight, .constantLong RX12 110 (24)]
def wq_c_X12_hasRoom : List Cond := .code yX12_hasRoom cX12_hasRoom 2 (some .boolean) :: (ow_c_X12_hasRoom ++ (wq_c_X12_heavy ++ (wq_c_X12_weight ++ ([] : List Cond))))
theorem tb_c_X12_hasRoom : ∀ w ∈ wq_c_X12_hasRoom, q_g w := by
  unfold wq_c_X12_hasRoom ow_c_X12_hasRoom
  exact q_cons tw_761 (q_app (q_cons tw_752 (q_cons tw_751 (q_cons tw_750 (q_cons tw_728 (q_cons tw_741 (q_cons tw_740 (q_cons tw_739 (q_cons tw_760 q_nil)))))))) (q_app tb_c_X12_heavy (q_app tb_c_X12_weight q_nil)))
set_option maxHeartbeats 4000000 in
set_option maxRecDepth 100000 in
theorem c_X12_hasRoom (l : Launch) (dC : Nat → ClassId) (dI : Nat → Nat → Nat) (g : kG) (A : Nat → Prop) (hG : kWf g) (f : Nat → va_E) (h0 : Nat) (p1 : Nat) (q : Nat → Int64) (i_h0 : ik g 12 h0) (hc0 : f (gr g h0 4) = .inl (gc g 1, 906, .inr (.inl q))) (hc0_ok : RowOK q) (ht : p1 < 12) : Met l yX12_hasRoom wq_c_X12_hasRoom ({ frames := 3, cells := 0, slots := 0, locals := 64 } : Room) (va_Pc [.ref h0, .int (nI p1)] (fun U => kIn dC dI g A f U)) (va_Qi (fun (r : Int32) (_ : Unit) => True) (fun (_ : Unit) t => Iv dC dI g A f t.heap) A) 0 0 A := by
  refine Met.ofW (cc := cX12_hasRoom) (maxL := 2) (ret := (some .boolean)) (by decide) rfl ?_
  intro p e s m args below meth c s₁ B hml hv
  obtain ⟨rfl, hI, hK, hE⟩ := hv
  have hx := B.exec
  have hb := B.bytes
  have hr := B.returns
  have hts := atoms_spec (ws := wq_c_X12_hasRoom) B.pre
  have hown : s.vm.findClass RX12 = some m.cls := findClass_of_methodNamed B.named
  have hlocks := B.notSynchronized
  have hS : va_S A s.heap s.heap [] := va_S.rf
  have hl := lv_entry ([.ref h0, .int (nI p1)]) (n := 2) (Nat.le_of_ble_eq_true rfl)
  rw [lg_entry_eq]
  generalize (lg_sl ([.ref h0, .int (nI p1)]) ++ List.replicate (2 - (lg_sl ([.ref h0, .int (nI p1)])).length) Slot.unset).toArray = ls at hl ⊢
  have hl : lv_has ls 2 [(0, .ref h0), (1, .int (nI p1))] := hl
  have i_1 := kw_12_4 hG i_h0
  have d_2 := rk_hd hc0_ok
  refine lv_aload_n hx hb dX12_hasRoom_0 rfl (lv_at hl 0 rfl) ?_
  obtain ⟨x_4, x_5, x_6, x_7, x_8, x_9, x_10, x_11, x_12, x_13, x_14, x_15, x_16, x_17, k_3, b_18, b_19, b_20, b_21, b_22, b_23⟩ := op_12 hI i_h0
  refine va_calll (va_runV (As := []) (rest := []) ⟨hx, hb, hml, hown, hts⟩ (c_X12_heavy l dC dI g A hG f h0 q i_h0 hc0 hc0_ok) (cwV 0 hts (gi_V (fun w_ h0_ => ⟨List.mem_cons_of_mem _ (List.mem_append_right _ (List.mem_append_left _ h0_)), (tb_c_X12_heavy w_ h0_).2⟩) (List.mem_cons_of_mem _ (List.mem_append_left _ (List.mem_of_getElem? (i := 0) rfl))) (List.mem_cons_of_mem _ (List.mem_append_left _ (List.mem_of_getElem? (i := 1) rfl))) (List.mem_cons_of_mem _ (List.mem_append_left _ (List.mem_of_getElem? (i := 2) rfl))) (List.mem_cons_of_mem _ (List.mem_append_left _ (List.mem_of_getElem? (i := 3) rfl)))) rfl rfl rfl (by decide +kernel) ⟨Nat.le_of_ble_eq_true rfl, Nat.le_of_ble_eq_true rfl⟩) ⟨fun a U g mk q => ⟨q.1, q.2.calling rfl rfl⟩, k_recv hK hI i_h0.1 k_3 (ci := 12) rfl, fun U hU hW => ⟨rfl, kIn.of hI hK hE hS hU hW⟩⟩ rfl rfl hl.1 rfl (lv_room (Nat.le_of_ble_eq_true rfl)) dX12_hasRoom_1 ⟨Nat.le_of_ble_eq_true rfl, Nat.le_of_ble_eq_true rfl⟩) hS (fun q _ h => h) (fun q h => h) (fun r_25 u t H1 locs ht hvm w_24 hB hz1 hk1 hS => ?_)
  have hI : Iv dC dI g A f t.heap := hB
  rw [ht] at hI
  generalize H1 = H at hI hS ⊢
  refine W.widen (k := 0) (n := 0) (Nat.le_of_ble_eq_true rfl) (Nat.le_of_ble_eq_true rfl) ?_
  have w_24 : 0 ≤ r_25.toInt ∧ r_25.toInt ≤ 96 ∧ ∀ t : Nat, (t : Int) < (q 0).toInt → (q (6 + 43 * t + 2)).toInt = 1 → 1 ≤ r_25.toInt := w_24
  refine lv_aload_n hx hb dX12_hasRoom_4 rfl (lv_at hl 0 rfl) ?_
  refine lv_iload_n hx hb dX12_hasRoom_5 rfl (lv_at hl 1 rfl) ?_
  refine va_calll (va_runV (As := [.int (nI p1)]) (rest := [.long r_25]) ⟨hx, hb, hml, hown, hts⟩ (c_X12_weight l dC dI g A hG f h0 p1 q i_h0 hc0 hc0_ok (by first | omega | decide | (simp only [k_c0, k_c1, k_cm1]; omega))) (cwV 1 hts (gi_V (fun w_ h0_ => ⟨List.mem_cons_of_mem _ (List.mem_append_right _ (List.mem_append_right _ (List.mem_append_left _ h0_))), (tb_c_X12_weight w_ h0_).2⟩) (List.mem_cons_of_mem _ (List.mem_append_left _ (List.mem_of_getElem? (i := 4) rfl))) (List.mem_cons_of_mem _ (List.mem_append_left _ (List.mem_of_getElem? (i := 5) rfl))) (List.mem_cons_of_mem _ (List.mem_append_left _ (List.mem_of_getElem? (i := 6) rfl))) (List.mem_cons_of_mem _ (List.mem_append_left _ (List.mem_of_getElem? (i := 3) rfl)))) rfl rfl rfl (by decide +kernel) ⟨Nat.le_of_ble_eq_true rfl, Nat.le_of_ble_eq_true rfl⟩) ⟨fun a U g mk q => ⟨q.1, q.2.calling rfl rfl⟩, k_recv hK hI i_h0.1 k_3 (ci := 12) rfl, fun U hU hW => ⟨rfl, kIn.of hI hK hE hS hU hW⟩⟩ rfl rfl hl.1 rfl (lv_room (Nat.le_of_ble_eq_true rfl)) dX12_hasRoom_6 ⟨Nat.le_of_ble_eq_true rfl, Nat.le_of_ble_eq_true rfl⟩) hS (fun q _ h => h) (fun q h => h) (fun r_27 u t H1 locs ht hvm w_26 hB hz1 hk1 hS => ?_)
  have hI : Iv dC dI g A f t.heap := hB
  rw [ht] at hI
  generalize H1 = H at hI hS ⊢
  refine W.widen (k := 0) (n := 0) (Nat.le_of_ble_eq_true rfl) (Nat.le_of_ble_eq_true rfl) ?_
  have w_26 : r_27 = q (6 + 43 * p1) := w_26
  refine k_topl (y := q (6 + 43 * p1)) w_26 ?_
  have d_28 := rk_0 hc0_ok (t := p1) (by omega)
  refine lv_ladd hx hb dX12_hasRoom_9 ?_
  refine lv_topl (fun v_29 ev_29 => ?_)
  have tv_29 := l_ad r_25 (q (6 + 43 * p1))
  rw [← ev_29] at tv_29
  refine lv_ldc2 hx hb hown (hts (.constantLong RX12 110 (24)) (List.mem_cons_of_mem _ (List.mem_append_left _ (List.mem_of_getElem? (i := 7) rfl)))) dX12_hasRoom_10 ?_
  refine W.lcmp hx hb dX12_hasRoom_13 ?_
  refine lv_if_gt (tgt := 21) hx hb dX12_hasRoom_14 (by decide) (fun c_30 => ?_) (fun c_30 => ?_)
  · have c_30 := lc_lt (by decide : Int64.toInt 24 = 24) rfl ((lg_cmp_gt _ _).mp c_30)
    refine lv_iconst (v := 0) hx hb dX12_hasRoom_21 (by decide) ?_
    exact W.zret (v := 0) hx hb hr rfl (fun t ht hW => ⟨⟨0, (), rfl, trivial, k_ret ht hI⟩, hS.F ht⟩) hS.2.2 dX12_hasRoom_22
  · have c_30 := ln_lt (by decide : Int64.toInt 24 = 24) rfl (fun h9 => c_30 ((lg_cmp_gt _ _).mpr h9))
    refine lv_iconst (v := 1) hx hb dX12_hasRoom_17 (by decide) ?_
    refine lv_goto (tgt := 22) hx hb dX12_hasRoom_18 (by decide) ?_
    exact W.zret (v := 1) hx hb hr rfl (fun t ht hW => ⟨⟨1, (), rfl, trivial, k_ret ht hI⟩, hS.F ht⟩) hS.2.2 dX12_hasRoom_22
theorem tw_762 : q_g (.fieldLink RX12 13 "DeadlineShareModel" "term" "[I") := ⟨(List.mem_append_right _ (List.mem_of_getElem? (i := 1100) (by decide +kernel))), good_of_word (by decide +kernel)⟩
theorem tw_763 : q_g (.code yX12_carried cX12_carried 8 (some .long)) := ⟨(List.mem_append_right _ (List.mem_of_getElem? (i := 1274) (by decide +kernel))), good_of_word (by decide +kernel)⟩
def ow_c_X12_carried : List Cond := [.fieldLink RX12 16 "DeadlineShareModel" "row" "[J", .methodLink RX12 87 yX12_at, .static yX12_at, .initialized RX12, .constantLong RX12 108 (5354228880), .fieldLink RX12 13 "DeadlineShareModel" "term" "[I"]
def wq_c_X12_carried : List Cond := .code yX12_carried cX12_carried 8 (some .long) :: (ow_c_X12_carried ++ (u_ws RX12 TX12 27 ++ (wq_c_X12_at ++ ([] : List Cond))))
theorem tb_c_X12_carried : ∀ w ∈ wq_c_X12_carried, q_g w := by
  unfold wq_c_X12_carried ow_c_X12_carried
  exact q_cons tw_763 (q_app (q_cons tw_731 (q_cons tw_734 (q_cons tw_733 (q_cons tw_728 (q_cons tw_757 (q_cons tw_762 q_nil)))))) (q_app tu_X12 (q_app tb_c_X12_at q_nil)))
set_option maxHeartbeats 4000000 in
set_option maxRecDepth 100000 in
theorem c_X12_carried (l : Launch) (dC : Nat → ClassId) (dI : Nat → Nat → Nat) (g : kG) (A : Nat → Prop) (hG : kWf g) (f : Nat → va_E) (h0 : Nat) (p1 : Nat) (q : Nat → Int64) (i_h0 : ik g 12 h0) (hc0 : f (gr g h0 4) = .inl (gc g 1, 906, .inr (.inl q))) (hc0_ok : RowOK q) (ht : p1 < 12) : Met l yX12_carried wq_c_X12_carried ({ frames := 1, cells := 0, slots := 0, locals := 20 } : Room) (va_Pc [.ref h0, .int (nI p1)] (fun U => kIn dC dI g A f U)) (va_Ql (fun (r : Int64) (_ : Unit) => True) (fun (_ : Unit) t => Iv dC dI g A f t.heap) A) 0 0 A := by
  refine Met.ofW (cc := cX12_carried) (maxL := 8) (ret := (some .long)) (by decide) rfl ?_
  intro p e s m args below meth c s₁ B hml hv
  obtain ⟨rfl, hI, hK, hE⟩ := hv
  have hx := B.exec
  have hb := B.bytes
  have hr := B.returns
  have hts := atoms_spec (ws := wq_c_X12_carried) B.pre
  have hown : s.vm.findClass RX12 = some m.cls := findClass_of_methodNamed B.named
  have hlocks := B.notSynchronized
  have hS : va_S A s.heap s.heap [] := va_S.rf
  have hl := lv_entry ([.ref h0, .int (nI p1)]) (n := 8) (Nat.le_of_ble_eq_true rfl)
  rw [lg_entry_eq]
  generalize (lg_sl ([.ref h0, .int (nI p1)]) ++ List.replicate (8 - (lg_sl ([.ref h0, .int (nI p1)])).length) Slot.unset).toArray = ls at hl ⊢
  have hl : lv_has ls 8 [(0, .ref h0), (1, .int (nI p1))] := hl
  have i_1 := kw_12_4 hG i_h0
  have d_2 := rk_hd hc0_ok
  refine lv_aload_n hx hb dX12_carried_0 rfl (lv_at hl 0 rfl) ?_
  obtain ⟨x_4, x_5, x_6, x_7, x_8, x_9, x_10, x_11, x_12, x_13, x_14, x_15, x_16, x_17, k_3, b_18, b_19, b_20, b_21, b_22, b_23⟩ := op_12 hI i_h0
  refine k_get (ci := 12) (v := .ref (gr g h0 4)) (C := RX12) (T := TX12) (N := 27) hx hb hts (fun _ h0_ => List.mem_cons_of_mem _ (List.mem_append_right _ (List.mem_append_left _ h0_))) hown hK hI i_h0.1 k_3 rfl 4 (by decide) (hts (.fieldLink RX12 16 "DeadlineShareModel" "row" "[J") (List.mem_cons_of_mem _ (List.mem_append_left _ (List.mem_of_getElem? (i := 0) rfl)))) (fun _ h9 => h9) rfl dX12_carried_1 ?_
  refine lv_iload_n hx hb dX12_carried_4 rfl (lv_at hl 1 rfl) ?_
  refine va_calli (va_runS (As := [.int (nI p1)]) (rest := [.ref (gr g h0 4)]) ⟨hx, hb, hml, hown, hts⟩ (c_X12_at l dC dI g A hG f p1) (va_cwS 1 hts (gi_S (fun w_ h0_ => ⟨List.mem_cons_of_mem _ (List.mem_append_right _ (List.mem_append_right _ (List.mem_append_left _ h0_))), (tb_c_X12_at w_ h0_).2⟩) (List.mem_cons_of_mem _ (List.mem_append_left _ (List.mem_of_getElem? (i := 1) rfl))) (List.mem_cons_of_mem _ (List.mem_append_left _ (List.mem_of_getElem? (i := 2) rfl))) (List.mem_cons_of_mem _ (List.mem_append_left _ (List.mem_of_getElem? (i := 3) rfl)))) rfl rfl rfl (by decide +kernel) ⟨Nat.le_of_ble_eq_true rfl, Nat.le_of_ble_eq_true rfl⟩) ⟨fun a U g mk q => ⟨q.1, q.2.calling rfl rfl⟩, fun U hU hW => ⟨rfl, kIn.of hI hK hE hS hU hW⟩⟩ rfl rfl hl.1 rfl (lv_room (Nat.le_of_ble_eq_true rfl)) dX12_carried_5 ⟨Nat.le_of_ble_eq_true rfl, Nat.le_of_ble_eq_true rfl⟩) hS (fun q _ h => h) (fun q h => h) (fun r_27 u t H1 locs ht hvm w_26 hB hz1 hk1 hS => ?_)
  have hI : Iv dC dI g A f t.heap := hB
  rw [ht] at hI
  generalize H1 = H at hI hS ⊢
  refine W.widen (k := 0) (n := 0) (Nat.le_of_ble_eq_true rfl) (Nat.le_of_ble_eq_true rfl) ?_
  have w_26 : r_27 = nI (6 + 43 * p1) := w_26
  refine k_topi (y := nI (6 + 43 * p1)) w_26 ?_
  refine lv_bipush (v := 11) hx hb dX12_carried_8 (by decide) ?_
  refine lv_iadd hx hb dX12_carried_10 ?_
  refine k_topi (y := nI (6 + 43 * p1 + 11)) ((nI_add (6 + 43 * p1) 11).trans (congrArg nI (by omega))) ?_
  refine k_lald hx hb hK hI i_1.1 1 hc0 rfl (vp_in_nI (by omega) (by omega)) dX12_carried_11 ?_
  refine k_topl (y := q (6 + 43 * p1 + 11)) (congrArg q (nI_clamp (by omega))) ?_
  refine lv_lstore_n (lv' := [(2, .long (q (6 + 43 * p1 + 11))), (0, .ref h0), (1, .int (nI p1))]) hx hb dX12_carried_12 rfl hl (by decide) rfl (fun ls hl => ?_)
  refine lv_aload_n hx hb dX12_carried_13 rfl (lv_at hl 1 rfl) ?_
  refine k_get (ci := 12) (v := .ref (gr g h0 4)) (C := RX12) (T := TX12) (N := 27) hx hb hts (fun _ h0_ => List.mem_cons_of_mem _ (List.mem_append_right _ (List.mem_append_left _ h0_))) hown hK hI i_h0.1 k_3 rfl 4 (by decide) (hts (.fieldLink RX12 16 "DeadlineShareModel" "row" "[J") (List.mem_cons_of_mem _ (List.mem_append_left _ (List.mem_of_getElem? (i := 0) rfl)))) (fun _ h9 => h9) rfl dX12_carried_14 ?_
  refine lv_iload_n hx hb dX12_carried_17 rfl (lv_at hl 2 rfl) ?_
  refine va_calli (va_runS (As := [.int (nI p1)]) (rest := [.ref (gr g h0 4)]) ⟨hx, hb, hml, hown, hts⟩ (c_X12_at l dC dI g A hG f p1) (va_cwS 1 hts (gi_S (fun w_ h0_ => ⟨List.mem_cons_of_mem _ (List.mem_append_right _ (List.mem_append_right _ (List.mem_append_left _ h0_))), (tb_c_X12_at w_ h0_).2⟩) (List.mem_cons_of_mem _ (List.mem_append_left _ (List.mem_of_getElem? (i := 1) rfl))) (List.mem_cons_of_mem _ (List.mem_append_left _ (List.mem_of_getElem? (i := 2) rfl))) (List.mem_cons_of_mem _ (List.mem_append_left _ (List.mem_of_getElem? (i := 3) rfl)))) rfl rfl rfl (by decide +kernel) ⟨Nat.le_of_ble_eq_true rfl, Nat.le_of_ble_eq_true rfl⟩) ⟨fun a U g mk q => ⟨q.1, q.2.calling rfl rfl⟩, fun U hU hW => ⟨rfl, kIn.of hI hK hE hS hU hW⟩⟩ rfl rfl hl.1 rfl (lv_room (Nat.le_of_ble_eq_true rfl)) dX12_carried_18 ⟨Nat.le_of_ble_eq_true rfl, Nat.le_of_ble_eq_true rfl⟩) hS (fun q _ h => h) (fun q h => h) (fun r_31 u t H1 locs ht hvm w_30 hB hz1 hk1 hS => ?_)
  have hI : Iv dC dI g A f t.heap := hB
  rw [ht] at hI
  generalize H1 = H at hI hS ⊢
  refine W.widen (k := 0) (n := 0) (Nat.le_of_ble_eq_true rfl) (Nat.le_of_ble_eq_true rfl) ?_
  have w_30 : r_31 = nI (6 + 43 * p1) := w_30
  refine k_topi (y := nI (6 + 43 * p1)) w_30 ?_
  refine lv_bipush (v := 12) hx hb dX12_carried_21 (by decide) ?_
  refine lv_iadd hx hb dX12_carried_23 ?_
  refine k_topi (y := nI (6 + 43 * p1 + 12)) ((nI_add (6 + 43 * p1) 12).trans (congrArg nI (by omega))) ?_
  refine k_lald hx hb hK hI i_1.1 1 hc0 rfl (vp_in_nI (by omega) (by omega)) dX12_carried_24 ?_
  refine k_topl (y := q (6 + 43 * p1 + 12)) (congrArg q (nI_clamp (by omega))) ?_
  have d_32 := rk_12 hc0_ok (t := p1) (by omega)
  refine lv_lstore (lv' := [(4, .long (q (6 + 43 * p1 + 12))), (2, .long (q (6 + 43 * p1 + 11))), (0, .ref h0), (1, .int (nI p1))]) hx hb dX12_carried_25 hl (by decide) rfl (fun ls hl => ?_)
  refine lv_aload_n hx hb dX12_carried_27 rfl (lv_at hl 2 rfl) ?_
  refine k_get (ci := 12) (v := .ref (gr g h0 4)) (C := RX12) (T := TX12) (N := 27) hx hb hts (fun _ h0_ => List.mem_cons_of_mem _ (List.mem_append_right _ (List.mem_append_left _ h0_))) hown hK hI i_h0.1 k_3 rfl 4 (by decide) (hts (.fieldLink RX12 16 "DeadlineShareModel" "row" "[J") (List.mem_cons_of_mem _ (List.mem_append_left _ (List.mem_of_getElem? (i := 0) rfl)))) (fun _ h9 => h9) rfl dX12_carried_28 ?_
  refine lv_iload_n hx hb dX12_carried_31 rfl (lv_at hl 3 rfl) ?_
  refine va_calli (va_runS (As := [.int (nI p1)]) (rest := [.ref (gr g h0 4)]) ⟨hx, hb, hml, hown, hts⟩ (c_X12_at l dC dI g A hG f p1) (va_cwS 1 hts (gi_S (fun w_ h0_ => ⟨List.mem_cons_of_mem _ (List.mem_append_right _ (List.mem_append_right _ (List.mem_append_left _ h0_))), (tb_c_X12_at w_ h0_).2⟩) (List.mem_cons_of_mem _ (List.mem_append_left _ (List.mem_of_getElem? (i := 1) rfl))) (List.mem_cons_of_mem _ (List.mem_append_left _ (List.mem_of_getElem? (i := 2) rfl))) (List.mem_cons_of_mem _ (List.mem_append_left _ (List.mem_of_getElem? (i := 3) rfl)))) rfl rfl rfl (by decide +kernel) ⟨Nat.le_of_ble_eq_true rfl, Nat.le_of_ble_eq_true rfl⟩) ⟨fun a U g mk q => ⟨q.1, q.2.calling rfl rfl⟩, fun U hU hW => ⟨rfl, kIn.of hI hK hE hS hU hW⟩⟩ rfl rfl hl.1 rfl (lv_room (Nat.le_of_ble_eq_true rfl)) dX12_carried_32 ⟨Nat.le_of_ble_eq_true rfl, Nat.le_of_ble_eq_true rfl⟩) hS (fun q _ h => h) (fun q h => h) (fun r_36 u t H1 locs ht hvm w_35 hB hz1 hk1 hS => ?_)
  have hI : Iv dC dI g A f t.heap := hB
  rw [ht] at hI
  generalize H1 = H at hI hS ⊢
  refine W.widen (k := 0) (n := 0) (Nat.le_of_ble_eq_true rfl) (Nat.le_of_ble_eq_true rfl) ?_
  have w_35 : r_36 = nI (6 + 43 * p1) := w_35
  refine k_topi (y := nI (6 + 43 * p1)) w_35 ?_
  refine lv_iconst (v := 1) hx hb dX12_carried_35 (by decide) ?_
  refine lv_iadd hx hb dX12_carried_36 ?_
  refine k_topi (y := nI (6 + 43 * p1 + 1)) ((nI_add (6 + 43 * p1) 1).trans (congrArg nI (by omega))) ?_
  refine k_lald hx hb hK hI i_1.1 1 hc0 rfl (vp_in_nI (by omega) (by omega)) dX12_carried_37 ?_
  refine k_topl (y := q (6 + 43 * p1 + 1)) (congrArg q (nI_clamp (by omega))) ?_
  refine lv_ldc2 hx hb hown (hts (.constantLong RX12 108 (5354228880)) (List.mem_cons_of_mem _ (List.mem_append_left _ (List.mem_of_getElem? (i := 4) rfl)))) dX12_carried_38 ?_
  refine lv_lmul hx hb dX12_carried_41 ?_
  refine lv_topl (fun v_37 ev_37 => ?_)
  refine lv_lload hx hb dX12_carried_42 (lv_at hl 0 rfl) ?_
  refine lv_lmul hx hb dX12_carried_44 ?_
  refine lv_topl (fun v_38 ev_38 => ?_)
  refine lv_lstore (lv' := [(6, .long v_38), (4, .long (q (6 + 43 * p1 + 12))), (2, .long (q (6 + 43 * p1 + 11))), (0, .ref h0), (1, .int (nI p1))]) hx hb dX12_carried_45 hl (by decide) rfl (fun ls hl => ?_)
  refine lv_lload hx hb dX12_carried_47 (lv_at hl 1 rfl) ?_
  refine lv_lconst (v := 0) hx hb dX12_carried_49 (by decide) ?_
  refine W.lcmp hx hb dX12_carried_50 ?_
  refine lv_if_eq (tgt := 63) hx hb dX12_carried_51 (by decide) (fun c_39 => ?_) (fun c_39 => ?_)
  · have c_39 := lc_eq rfl (by decide : Int64.toInt 0 = 0) ((lg_cmp_eq _ _).mp c_39)
    refine lv_lconst (v := 0) hx hb dX12_carried_63 (by decide) ?_
    exact W.lret (v := 0) hx hb hr (fun t ht hW => ⟨⟨0, (), rfl, trivial, k_ret ht hI⟩, hS.F ht⟩) hS.2.2 dX12_carried_64
  · have c_39 := ln_eq rfl (by decide : Int64.toInt 0 = 0) (fun h9 => c_39 ((lg_cmp_eq _ _).mpr h9))
    refine lv_aload_n hx hb dX12_carried_54 rfl (lv_at hl 3 rfl) ?_
    refine k_get (ci := 12) (v := .ref (gr g h0 3)) (C := RX12) (T := TX12) (N := 27) hx hb hts (fun _ h0_ => List.mem_cons_of_mem _ (List.mem_append_right _ (List.mem_append_left _ h0_))) hown hK hI i_h0.1 k_3 rfl 3 (by decide) (hts (.fieldLink RX12 13 "DeadlineShareModel" "term" "[I") (List.mem_cons_of_mem _ (List.mem_append_left _ (List.mem_of_getElem? (i := 5) rfl)))) (fun _ h9 => h9) rfl dX12_carried_55 ?_
    have i_41 := kw_12_3 hG i_h0
    refine lv_iconst (v := 1) hx hb dX12_carried_58 (by decide) ?_
    obtain ⟨q_43, k_42⟩ := op_31 hI i_41
    refine k_iald hx hb hK hI i_41.1 0 k_42 rfl (by unfold vp_in; decide) dX12_carried_59 ?_
    refine k_topi (y := q_43 1) (congrArg q_43 (show Int32.toNatClampNeg 1 = 1 by decide)) ?_
    refine lv_if_ne (tgt := 65) hx hb dX12_carried_60 (by decide) (fun c_44 => ?_) (fun c_44 => ?_)
    · have c_44 := kn_eq rfl (by decide : Int32.toInt 0 = 0) c_44
      refine lv_aload_n hx hb dX12_carried_65 rfl (lv_at hl 3 rfl) ?_
      refine k_get (ci := 12) (v := .ref (gr g h0 3)) (C := RX12) (T := TX12) (N := 27) hx hb hts (fun _ h0_ => List.mem_cons_of_mem _ (List.mem_append_right _ (List.mem_append_left _ h0_))) hown hK hI i_h0.1 k_3 rfl 3 (by decide) (hts (.fieldLink RX12 13 "DeadlineShareModel" "term" "[I") (List.mem_cons_of_mem _ (List.mem_append_left _ (List.mem_of_getElem? (i := 5) rfl)))) (fun _ h9 => h9) rfl dX12_carried_66 ?_
      refine lv_iconst (v := 1) hx hb dX12_carried_69 (by decide) ?_
      refine k_iald hx hb hK hI i_41.1 0 k_42 rfl (by unfold vp_in; decide) dX12_carried_70 ?_
      refine k_topi (y := q_43 1) (congrArg q_43 (show Int32.toNatClampNeg 1 = 1 by decide)) ?_
      refine lv_iconst (v := 1) hx hb dX12_carried_71 (by decide) ?_
      refine lv_icmp_ne (tgt := 77) hx hb dX12_carried_72 (by decide) (fun c_47 => ?_) (fun c_47 => ?_)
      · have c_47 := kn_eq rfl (by decide : Int32.toInt 1 = 1) c_47
        refine lv_aload_n hx hb dX12_carried_77 rfl (lv_at hl 3 rfl) ?_
        refine k_get (ci := 12) (v := .ref (gr g h0 3)) (C := RX12) (T := TX12) (N := 27) hx hb hts (fun _ h0_ => List.mem_cons_of_mem _ (List.mem_append_right _ (List.mem_append_left _ h0_))) hown hK hI i_h0.1 k_3 rfl 3 (by decide) (hts (.fieldLink RX12 13 "DeadlineShareModel" "term" "[I") (List.mem_cons_of_mem _ (List.mem_append_left _ (List.mem_of_getElem? (i := 5) rfl)))) (fun _ h9 => h9) rfl dX12_carried_78 ?_
        refine lv_iconst (v := 1) hx hb dX12_carried_81 (by decide) ?_
        refine k_iald hx hb hK hI i_41.1 0 k_42 rfl (by unfold vp_in; decide) dX12_carried_82 ?_
        refine k_topi (y := q_43 1) (congrArg q_43 (show Int32.toNatClampNeg 1 = 1 by decide)) ?_
        refine lv_iconst (v := 2) hx hb dX12_carried_83 (by decide) ?_
        refine lv_icmp_ne (tgt := 115) hx hb dX12_carried_84 (by decide) (fun c_50 => ?_) (fun c_50 => ?_)
        · have c_50 := kn_eq rfl (by decide : Int32.toInt 2 = 2) c_50
          refine lv_lload_n hx hb dX12_carried_115 rfl (lv_at hl 2 rfl) ?_
          refine lv_lconst (v := 0) hx hb dX12_carried_116 (by decide) ?_
          refine W.lcmp hx hb dX12_carried_117 ?_
          refine lv_if_ge (tgt := 125) hx hb dX12_carried_118 (by decide) (fun c_51 => ?_) (fun c_51 => ?_)
          · have c_51 := lc_le (by decide : Int64.toInt 0 = 0) rfl ((lg_cmp_ge _ _).mp c_51)
            refine lv_lconst (v := 0) hx hb dX12_carried_125 (by decide) ?_
            exact W.lret (v := 0) hx hb hr (fun t ht hW => ⟨⟨0, (), rfl, trivial, k_ret ht hI⟩, hS.F ht⟩) hS.2.2 dX12_carried_126
          · have c_51 := ln_le (by decide : Int64.toInt 0 = 0) rfl (fun h9 => c_51 ((lg_cmp_ge _ _).mpr h9))
            refine lv_lload_n hx hb dX12_carried_121 rfl (lv_at hl 2 rfl) ?_
            refine lv_goto (tgt := 126) hx hb dX12_carried_122 (by decide) ?_
            exact W.lret (v := (q (6 + 43 * p1 + 11))) hx hb hr (fun t ht hW => ⟨⟨q (6 + 43 * p1 + 11), (), rfl, trivial, k_ret ht hI⟩, hS.F ht⟩) hS.2.2 dX12_carried_126
        · have c_50 := kc_eq rfl (by decide : Int32.toInt 2 = 2) c_50
          refine lv_lload_n hx hb dX12_carried_87 rfl (lv_at hl 2 rfl) ?_
          refine lv_lload hx hb dX12_carried_88 (lv_at hl 0 rfl) ?_
          refine W.lcmp hx hb dX12_carried_90 ?_
          refine lv_if_le (tgt := 99) hx hb dX12_carried_91 (by decide) (fun c_52 => ?_) (fun c_52 => ?_)
          · have c_52 := lc_le rfl rfl ((lg_cmp_le _ _).mp c_52)
            refine lv_lload_n hx hb dX12_carried_99 rfl (lv_at hl 2 rfl) ?_
            refine lv_lload hx hb dX12_carried_100 (lv_at hl 0 rfl) ?_
            refine lv_lneg hx hb dX12_carried_102 ?_
            refine lv_topl (fun v_53 ev_53 => ?_)
            refine W.lcmp hx hb dX12_carried_103 ?_
            refine lv_if_ge (tgt := 113) hx hb dX12_carried_104 (by decide) (fun c_54 => ?_) (fun c_54 => ?_)
            · have c_54 := lc_le rfl rfl ((lg_cmp_ge _ _).mp c_54)
              refine lv_lload_n hx hb dX12_carried_113 rfl (lv_at hl 2 rfl) ?_
              exact W.lret (v := (q (6 + 43 * p1 + 11))) hx hb hr (fun t ht hW => ⟨⟨q (6 + 43 * p1 + 11), (), rfl, trivial, k_ret ht hI⟩, hS.F ht⟩) hS.2.2 dX12_carried_114
            · have c_54 := ln_le rfl rfl (fun h9 => c_54 ((lg_cmp_ge _ _).mpr h9))
              refine lv_lload hx hb dX12_carried_107 (lv_at hl 0 rfl) ?_
              refine lv_lneg hx hb dX12_carried_109 ?_
              refine lv_topl (fun v_55 ev_55 => ?_)
              refine lv_goto (tgt := 114) hx hb dX12_carried_110 (by decide) ?_
              exact W.lret (v := v_55) hx hb hr (fun t ht hW => ⟨⟨v_55, (), rfl, trivial, k_ret ht hI⟩, hS.F ht⟩) hS.2.2 dX12_carried_114
          · have c_52 := ln_le rfl rfl (fun h9 => c_52 ((lg_cmp_le _ _).mpr h9))
            refine lv_lload hx hb dX12_carried_94 (lv_at hl 0 rfl) ?_
            refine lv_goto (tgt := 114) hx hb dX12_carried_96 (by decide) ?_
            exact W.lret (v := v_38) hx hb hr (fun t ht hW => ⟨⟨v_38, (), rfl, trivial, k_ret ht hI⟩, hS.F ht⟩) hS.2.2 dX12_carried_114
      · have c_47 := kc_eq rfl (by decide : Int32.toInt 1 = 1) c_47
        refine lv_lload_n hx hb dX12_carried_75 rfl (lv_at hl 2 rfl) ?_
        exact W.lret (v := (q (6 + 43 * p1 + 11))) hx hb hr (fun t ht hW => ⟨⟨q (6 + 43 * p1 + 11), (), rfl, trivial, k_ret ht hI⟩, hS.F ht⟩) hS.2.2 dX12_carried_76
    · have c_44 := kc_eq rfl (by decide : Int32.toInt 0 = 0) c_44
      refine lv_lconst (v := 0) hx hb dX12_carried_63 (by decide) ?_
      exact W.lret (v := 0) hx hb hr (fun t ht hW => ⟨⟨0, (), rfl, trivial, k_ret ht hI⟩, hS.F ht⟩) hS.2.2 dX12_carried_64
theorem tw_764 : q_g (.static yX12_down) := ⟨(List.mem_append_right _ (List.mem_of_getElem? (i := 1277) (by decide +kernel))), good_of_word (by decide +kernel)⟩
theorem tw_765 : q_g (.methodLink RX12 115 yX12_down) := ⟨(List.mem_append_right _ (List.mem_of_getElem? (i := 1276) (by decide +kernel))), good_of_word (by decide +kernel)⟩
theorem tw_766 : q_g (.selects RX12 yX12_carried yX12_carried) := ⟨(List.mem_append_left _ (List.mem_of_getElem? (i := 34) (by decide +kernel))), good_of_word (by decide +kernel)⟩
theorem tw_767 : q_g (.instanceMethod yX12_carried) := ⟨(List.mem_append_right _ (List.mem_of_getElem? (i := 1273) (by decide +kernel))), good_of_word (by decide +kernel)⟩
theorem tw_768 : q_g (.methodLink RX12 112 yX12_carried) := ⟨(List.mem_append_right _ (List.mem_of_getElem? (i := 1271) (by decide +kernel))), good_of_word (by decide +kernel)⟩
theorem tw_769 : q_g (.code yX12_joins cX12_joins 11 none) := ⟨(List.mem_append_right _ (List.mem_of_getElem? (i := 1262) (by decide +kernel))), good_of_word (by decide +kernel)⟩
def ow_c_X12_joins : List Cond := [.methodLink RX12 87 yX12_at, .static yX12_at, .initialized RX12, .methodLink RX12 105 yX12_heavy, .instanceMethod yX12_heavy, .selects RX12 yX12_heavy yX12_heavy, .fieldLink RX12 16 "DeadlineShareModel" "row" "[J", .methodLink RX12 112 yX12_carried, .instanceMethod yX12_carried, .selects RX12 yX12_carried yX12_carried, .methodLink RX12 115 yX12_down, .static yX12_down, .methodLink RX12 101 yX12_sum, .instanceMethod yX12_sum, .selects RX12 yX12_sum yX12_sum]
def wq_c_X12_joins : List Cond := .code yX12_joins cX12_joins 11 none :: (ow_c_X12_joins ++ (wq_c_X12_at ++ (wq_c_X12_heavy ++ (u_ws RX12 TX12 27 ++ (wq_c_X12_carried ++ (wq_c_X12_down ++ (wq_c_X12_sum ++ ([] : List Cond))))))))
theorem tb_c_X12_joins : ∀ w ∈ wq_c_X12_joins, q_g w := by
  unfold wq_c_X12_joins ow_c_X12_joins
  exact q_cons tw_769 (q_app (q_cons tw_734 (q_cons tw_733 (q_cons tw_728 (q_cons tw_752 (q_cons tw_751 (q_cons tw_750 (q_cons tw_731 (q_cons tw_768 (q_cons tw_767 (q_cons tw_766 (q_cons tw_765 (q_cons tw_764 (q_cons tw_755 (q_cons tw_754 (q_cons tw_753 q_nil))))))))))))))) (q_app tb_c_X12_at (q_app tb_c_X12_heavy (q_app tu_X12 (q_app tb_c_X12_carried (q_app tb_c_X12_down (q_app tb_c_X12_sum q_nil)))))))
set_option maxHeartbeats 4000000 in
set_option maxRecDepth 100000 in
theorem c_X12_joins (l : Launch) (dC : Nat → ClassId) (dI : Nat → Nat → Nat) (g : kG) (A : Nat → Prop) (hG : kWf g) (f : Nat → va_E) (h0 : Nat) (p1 : Nat) (q : Nat → Int64) (i_h0 : ik g 12 h0) (hc0 : f (gr g h0 4) = .inl (gc g 1, 906, .inr (.inl q))) (hc0_ok : RowOK q) (ht : (p1 : Int) < (q 0).toInt) : Met l yX12_joins wq_c_X12_joins ({ frames := 3, cells := 0, slots := 0, locals := 64 } : Room) (va_Pc [.ref h0, .int (nI p1)] (fun U => kIn dC dI g A f U)) (va_Qv (fun (_ : Unit) => True) (fun (_ : Unit) t => ∃ f1 : Nat → va_E, Iv dC dI g A f1 t.heap ∧ Kp g [32] f f1 ∧ ∃ (q1 : Nat → Int64), (f1 (gr g h0 4) = .inl (gc g 1, 906, .inr (.inl q1))) ∧ (RowOK q1) ∧ ((q1 0).toInt = (q 0).toInt) ∧ ((q1 1).toInt = (q 1).toInt)) A) 0 0 A := by
  refine Met.ofW (cc := cX12_joins) (maxL := 11) (ret := none) (by decide) rfl ?_
  intro p e s m args below meth c s₁ B hml hv
  obtain ⟨rfl, hI, hK, hE⟩ := hv
  have hx := B.exec
  have hb := B.bytes
  have hr := B.returns
  have hts := atoms_spec (ws := wq_c_X12_joins) B.pre
  have hown : s.vm.findClass RX12 = some m.cls := findClass_of_methodNamed B.named
  have hlocks := B.notSynchronized
  have hS : va_S A s.heap s.heap [] := va_S.rf
  have hk0 : Kp g [32] f f := Kp.rf
  have hl := lv_entry ([.ref h0, .int (nI p1)]) (n := 11) (Nat.le_of_ble_eq_true rfl)
  rw [lg_entry_eq]
  generalize (lg_sl ([.ref h0, .int (nI p1)]) ++ List.replicate (11 - (lg_sl ([.ref h0, .int (nI p1)])).length) Slot.unset).toArray = ls at hl ⊢
  have hl : lv_has ls 11 [(0, .ref h0), (1, .int (nI p1))] := hl
  have i_1 := kw_12_4 hG i_h0
  have d_2 := rk_hd hc0_ok
  refine lv_iload_n hx hb dX12_joins_0 rfl (lv_at hl 1 rfl) ?_
  refine va_calli (va_runS (As := [.int (nI p1)]) (rest := []) ⟨hx, hb, hml, hown, hts⟩ (c_X12_at l dC dI g A hG f p1) (va_cwS 1 hts (gi_S (fun w_ h0_ => ⟨List.mem_cons_of_mem _ (List.mem_append_right _ (List.mem_append_left _ h0_)), (tb_c_X12_at w_ h0_).2⟩) (List.mem_cons_of_mem _ (List.mem_append_left _ (List.mem_of_getElem? (i := 0) rfl))) (List.mem_cons_of_mem _ (List.mem_append_left _ (List.mem_of_getElem? (i := 1) rfl))) (List.mem_cons_of_mem _ (List.mem_append_left _ (List.mem_of_getElem? (i := 2) rfl)))) rfl rfl rfl (by decide +kernel) ⟨Nat.le_of_ble_eq_true rfl, Nat.le_of_ble_eq_true rfl⟩) ⟨fun a U g mk q => ⟨q.1, q.2.calling rfl rfl⟩, fun U hU hW => ⟨rfl, kIn.of hI hK hE hS hU hW⟩⟩ rfl rfl hl.1 rfl (lv_room (Nat.le_of_ble_eq_true rfl)) dX12_joins_1 ⟨Nat.le_of_ble_eq_true rfl, Nat.le_of_ble_eq_true rfl⟩) hS (fun q _ h => h) (fun q h => h) (fun r_4 u t H1 locs ht hvm w_3 hB hz1 hk1 hS => ?_)
  have hI : Iv dC dI g A f t.heap := hB
  rw [ht] at hI
  generalize H1 = H at hI hS ⊢
  refine W.widen (k := 0) (n := 0) (Nat.le_of_ble_eq_true rfl) (Nat.le_of_ble_eq_true rfl) ?_
  have w_3 : r_4 = nI (6 + 43 * p1) := w_3
  refine k_topi (y := nI (6 + 43 * p1)) w_3 ?_
  refine lv_istore_n (lv' := [(2, .int (nI (6 + 43 * p1))), (0, .ref h0), (1, .int (nI p1))]) hx hb dX12_joins_4 rfl hl (by decide) rfl (fun ls hl => ?_)
  refine lv_aload_n hx hb dX12_joins_5 rfl (lv_at hl 1 rfl) ?_
  obtain ⟨x_6, x_7, x_8, x_9, x_10, x_11, x_12, x_13, x_14, x_15, x_16, x_17, x_18, x_19, k_5, b_20, b_21, b_22, b_23, b_24, b_25⟩ := op_12 hI i_h0
  refine va_calll (va_runV (As := []) (rest := []) ⟨hx, hb, hml, hown, hts⟩ (c_X12_heavy l dC dI g A hG f h0 q i_h0 hc0 hc0_ok) (cwV 0 hts (gi_V (fun w_ h0_ => ⟨List.mem_cons_of_mem _ (List.mem_append_right _ (List.mem_append_right _ (List.mem_append_left _ h0_))), (tb_c_X12_heavy w_ h0_).2⟩) (List.mem_cons_of_mem _ (List.mem_append_left _ (List.mem_of_getElem? (i := 3) rfl))) (List.mem_cons_of_mem _ (List.mem_append_left _ (List.mem_of_getElem? (i := 4) rfl))) (List.mem_cons_of_mem _ (List.mem_append_left _ (List.mem_of_getElem? (i := 5) rfl))) (List.mem_cons_of_mem _ (List.mem_append_left _ (List.mem_of_getElem? (i := 2) rfl)))) rfl rfl rfl (by decide +kernel) ⟨Nat.le_of_ble_eq_true rfl, Nat.le_of_ble_eq_true rfl⟩) ⟨fun a U g mk q => ⟨q.1, q.2.calling rfl rfl⟩, k_recv hK hI i_h0.1 k_5 (ci := 12) rfl, fun U hU hW => ⟨rfl, kIn.of hI hK hE hS hU hW⟩⟩ rfl rfl hl.1 rfl (lv_room (Nat.le_of_ble_eq_true rfl)) dX12_joins_6 ⟨Nat.le_of_ble_eq_true rfl, Nat.le_of_ble_eq_true rfl⟩) hS (fun q _ h => h) (fun q h => h) (fun r_27 u t H1 locs ht hvm w_26 hB hz1 hk1 hS => ?_)
  have hI : Iv dC dI g A f t.heap := hB
  rw [ht] at hI
  generalize H1 = H at hI hS ⊢
  refine W.widen (k := 0) (n := 0) (Nat.le_of_ble_eq_true rfl) (Nat.le_of_ble_eq_true rfl) ?_
  have w_26 : 0 ≤ r_27.toInt ∧ r_27.toInt ≤ 96 ∧ ∀ t : Nat, (t : Int) < (q 0).toInt → (q (6 + 43 * t + 2)).toInt = 1 → 1 ≤ r_27.toInt := w_26
  refine lv_lstore_n (lv' := [(3, .long r_27), (2, .int (nI (6 + 43 * p1))), (0, .ref h0), (1, .int (nI p1))]) hx hb dX12_joins_9 rfl hl (by decide) rfl (fun ls hl => ?_)
  refine lv_lload_n hx hb dX12_joins_10 rfl (lv_at hl 0 rfl) ?_
  refine lv_lconst (v := 0) hx hb dX12_joins_11 (by decide) ?_
  refine W.lcmp hx hb dX12_joins_12 ?_
  have J_29 : ∀ (y_28 : Int64) (H : Heap) (locs : List Loc) (ls : Array Slot), Iv dC dI g A f H → va_S A s.heap H locs → lv_has ls 11 [(3, .long r_27), (2, .int (nI (6 + 43 * p1))), (0, .ref h0), (1, .int (nI p1))] → W p l e (headSpec wq_c_X12_joins ({ frames := 3, cells := 0, slots := 0, locals := 64 } : Room)).room s m ([.ref h0, .int (nI p1)].toArray) below meth c H locs 0 0 (MQ below (va_Qv (fun (_ : Unit) => True) (fun (_ : Unit) t => ∃ f1 : Nat → va_E, Iv dC dI g A f1 t.heap ∧ Kp g [32] f f1 ∧ ∃ (q1 : Nat → Int64), (f1 (gr g h0 4) = .inl (gc g 1, 906, .inr (.inl q1))) ∧ (RowOK q1) ∧ ((q1 0).toInt = (q 0).toInt) ∧ ((q1 1).toInt = (q 1).toInt)) A) ([.ref h0, .int (nI p1)].toArray) s 0 0 A) (F0 m 29 ls [.long y_28]) := by
    intro y_28 H locs ls hI hS  hl
    refine lv_lstore (lv' := [(5, .long y_28), (3, .long r_27), (2, .int (nI (6 + 43 * p1))), (0, .ref h0), (1, .int (nI p1))]) hx hb dX12_joins_29 hl (by decide) rfl (fun ls hl => ?_)
    refine lv_lload_n hx hb dX12_joins_31 rfl (lv_at hl 1 rfl) ?_
    refine lv_lconst (v := 0) hx hb dX12_joins_32 (by decide) ?_
    refine W.lcmp hx hb dX12_joins_33 ?_
    have J_42 : ∀ (y_29 : Int64) (H : Heap) (locs : List Loc) (ls : Array Slot), Iv dC dI g A f H → va_S A s.heap H locs → (1 ≤ y_29.toInt ∧ y_29.toInt ≤ 96) → lv_has ls 11 [(5, .long y_28), (3, .long r_27), (2, .int (nI (6 + 43 * p1))), (0, .ref h0), (1, .int (nI p1))] → W p l e (headSpec wq_c_X12_joins ({ frames := 3, cells := 0, slots := 0, locals := 64 } : Room)).room s m ([.ref h0, .int (nI p1)].toArray) below meth c H locs 0 0 (MQ below (va_Qv (fun (_ : Unit) => True) (fun (_ : Unit) t => ∃ f1 : Nat → va_E, Iv dC dI g A f1 t.heap ∧ Kp g [32] f f1 ∧ ∃ (q1 : Nat → Int64), (f1 (gr g h0 4) = .inl (gc g 1, 906, .inr (.inl q1))) ∧ (RowOK q1) ∧ ((q1 0).toInt = (q 0).toInt) ∧ ((q1 1).toInt = (q 1).toInt)) A) ([.ref h0, .int (nI p1)].toArray) s 0 0 A) (F0 m 42 ls [.long y_29]) := by
      intro y_29 H locs ls hI hS t_30 hl
      refine lv_lstore_n (lv' := [(3, .long y_29), (5, .long y_28), (2, .int (nI (6 + 43 * p1))), (0, .ref h0), (1, .int (nI p1))]) hx hb dX12_joins_42 rfl hl (by decide) rfl (fun ls hl => ?_)
      refine lv_aload_n hx hb dX12_joins_43 rfl (lv_at hl 3 rfl) ?_
      refine k_get (ci := 12) (v := .ref (gr g h0 4)) (C := RX12) (T := TX12) (N := 27) hx hb hts (fun _ h0_ => List.mem_cons_of_mem _ (List.mem_append_right _ (List.mem_append_right _ (List.mem_append_right _ (List.mem_append_left _ h0_))))) hown hK hI i_h0.1 k_5 rfl 4 (by decide) (hts (.fieldLink RX12 16 "DeadlineShareModel" "row" "[J") (List.mem_cons_of_mem _ (List.mem_append_left _ (List.mem_of_getElem? (i := 6) rfl)))) (fun _ h9 => h9) rfl dX12_joins_44 ?_
      refine lv_iload_n hx hb dX12_joins_47 rfl (lv_at hl 2 rfl) ?_
      refine lv_bipush (v := 12) hx hb dX12_joins_48 (by decide) ?_
      refine lv_iadd hx hb dX12_joins_50 ?_
      refine k_topi (y := nI (6 + 43 * p1 + 12)) ((nI_add (6 + 43 * p1) 12).trans (congrArg nI (by omega))) ?_
      refine k_lald hx hb hK hI i_1.1 1 hc0 rfl (vp_in_nI (by omega) (by omega)) dX12_joins_51 ?_
      refine k_topl (y := q (6 + 43 * p1 + 12)) (congrArg q (nI_clamp (by omega))) ?_
      have d_33 := rk_12 hc0_ok (t := p1) (by omega)
      refine lv_lconst (v := 0) hx hb dX12_joins_52 (by decide) ?_
      refine W.lcmp hx hb dX12_joins_53 ?_
      have J_70 : ∀ (y_34 : Int64) (H : Heap) (locs : List Loc) (ls : Array Slot), Iv dC dI g A f H → va_S A s.heap H locs → (1 ≤ y_34.toInt ∧ y_34.toInt ≤ 96) → lv_has ls 11 [(3, .long y_29), (5, .long y_28), (2, .int (nI (6 + 43 * p1))), (0, .ref h0), (1, .int (nI p1))] → W p l e (headSpec wq_c_X12_joins ({ frames := 3, cells := 0, slots := 0, locals := 64 } : Room)).room s m ([.ref h0, .int (nI p1)].toArray) below meth c H locs 0 0 (MQ below (va_Qv (fun (_ : Unit) => True) (fun (_ : Unit) t => ∃ f1 : Nat → va_E, Iv dC dI g A f1 t.heap ∧ Kp g [32] f f1 ∧ ∃ (q1 : Nat → Int64), (f1 (gr g h0 4) = .inl (gc g 1, 906, .inr (.inl q1))) ∧ (RowOK q1) ∧ ((q1 0).toInt = (q 0).toInt) ∧ ((q1 1).toInt = (q 1).toInt)) A) ([.ref h0, .int (nI p1)].toArray) s 0 0 A) (F0 m 70 ls [.long y_34]) := by
        intro y_34 H locs ls hI hS t_35 hl
        refine lv_lstore (lv' := [(7, .long y_34), (3, .long y_29), (5, .long y_28), (2, .int (nI (6 + 43 * p1))), (0, .ref h0), (1, .int (nI p1))]) hx hb dX12_joins_70 hl (by decide) rfl (fun ls hl => ?_)
        refine lv_lload hx hb dX12_joins_72 (lv_at hl 0 rfl) ?_
        refine lv_aload_n hx hb dX12_joins_74 rfl (lv_at hl 4 rfl) ?_
        refine k_get (ci := 12) (v := .ref (gr g h0 4)) (C := RX12) (T := TX12) (N := 27) hx hb hts (fun _ h0_ => List.mem_cons_of_mem _ (List.mem_append_right _ (List.mem_append_right _ (List.mem_append_right _ (List.mem_append_left _ h0_))))) hown hK hI i_h0.1 k_5 rfl 4 (by decide) (hts (.fieldLink RX12 16 "DeadlineShareModel" "row" "[J") (List.mem_cons_of_mem _ (List.mem_append_left _ (List.mem_of_getElem? (i := 6) rfl)))) (fun _ h9 => h9) rfl dX12_joins_75 ?_
        refine lv_iload_n hx hb dX12_joins_78 rfl (lv_at hl 3 rfl) ?_
        refine lv_iconst (v := 0) hx hb dX12_joins_79 (by decide) ?_
        refine lv_iadd hx hb dX12_joins_80 ?_
        refine k_topi (y := nI (6 + 43 * p1)) ((nI_add (6 + 43 * p1) 0).trans (congrArg nI (by omega))) ?_
        refine k_lald hx hb hK hI i_1.1 1 hc0 rfl (vp_in_nI (by omega) (by omega)) dX12_joins_81 ?_
        refine k_topl (y := q (6 + 43 * p1)) (congrArg q (nI_clamp (by omega))) ?_
        have d_38 := rk_0 hc0_ok (t := p1) (by omega)
        refine lv_lmul hx hb dX12_joins_82 ?_
        refine lv_topl (fun v_39 ev_39 => ?_)
        have tv_39 := l_ml1 (x := y_34) (y := q (6 + 43 * p1)) (a := 96) (b := 8) (by omega) (by omega) (by omega) (by omega) (by decide)
        rw [← ev_39] at tv_39
        refine lv_lstore (lv' := [(9, .long v_39), (7, .long y_34), (3, .long y_29), (5, .long y_28), (2, .int (nI (6 + 43 * p1))), (0, .ref h0), (1, .int (nI p1))]) hx hb dX12_joins_83 hl (by decide) rfl (fun ls hl => ?_)
        refine lv_aload_n hx hb dX12_joins_85 rfl (lv_at hl 5 rfl) ?_
        refine k_get (ci := 12) (v := .ref (gr g h0 4)) (C := RX12) (T := TX12) (N := 27) hx hb hts (fun _ h0_ => List.mem_cons_of_mem _ (List.mem_append_right _ (List.mem_append_right _ (List.mem_append_right _ (List.mem_append_left _ h0_))))) hown hK hI i_h0.1 k_5 rfl 4 (by decide) (hts (.fieldLink RX12 16 "DeadlineShareModel" "row" "[J") (List.mem_cons_of_mem _ (List.mem_append_left _ (List.mem_of_getElem? (i := 6) rfl)))) (fun _ h9 => h9) rfl dX12_joins_86 ?_
        refine lv_iload_n hx hb dX12_joins_89 rfl (lv_at hl 4 rfl) ?_
        refine lv_bipush (v := 10) hx hb dX12_joins_90 (by decide) ?_
        refine lv_iadd hx hb dX12_joins_92 ?_
        refine k_topi (y := nI (6 + 43 * p1 + 10)) ((nI_add (6 + 43 * p1) 10).trans (congrArg nI (by omega))) ?_
        refine lv_lload hx hb dX12_joins_93 (lv_at hl 3 rfl) ?_
        refine lv_lload hx hb dX12_joins_95 (lv_at hl 0 rfl) ?_
        refine lv_lmul hx hb dX12_joins_97 ?_
        refine lv_topl (fun v_42 ev_42 => ?_)
        refine lv_aload_n hx hb dX12_joins_98 rfl (lv_at hl 5 rfl) ?_
        refine lv_iload_n hx hb dX12_joins_99 rfl (lv_at hl 6 rfl) ?_
        refine va_calll (va_runV (As := [.int (nI p1)]) (rest := [.long v_42, .int (nI (6 + 43 * p1 + 10)), .ref (gr g h0 4)]) ⟨hx, hb, hml, hown, hts⟩ (c_X12_carried l dC dI g A hG f h0 p1 q i_h0 hc0 hc0_ok (by first | omega | decide | (simp only [k_c0, k_c1, k_cm1]; omega))) (cwV 1 hts (gi_V (fun w_ h0_ => ⟨List.mem_cons_of_mem _ (List.mem_append_right _ (List.mem_append_right _ (List.mem_append_right _ (List.mem_append_right _ (List.mem_append_left _ h0_))))), (tb_c_X12_carried w_ h0_).2⟩) (List.mem_cons_of_mem _ (List.mem_append_left _ (List.mem_of_getElem? (i := 7) rfl))) (List.mem_cons_of_mem _ (List.mem_append_left _ (List.mem_of_getElem? (i := 8) rfl))) (List.mem_cons_of_mem _ (List.mem_append_left _ (List.mem_of_getElem? (i := 9) rfl))) (List.mem_cons_of_mem _ (List.mem_append_left _ (List.mem_of_getElem? (i := 2) rfl)))) rfl rfl rfl (by decide +kernel) ⟨Nat.le_of_ble_eq_true rfl, Nat.le_of_ble_eq_true rfl⟩) ⟨fun a U g mk q => ⟨q.1, q.2.calling rfl rfl⟩, k_recv hK hI i_h0.1 k_5 (ci := 12) rfl, fun U hU hW => ⟨rfl, kIn.of hI hK hE hS hU hW⟩⟩ rfl rfl hl.1 rfl (lv_room (Nat.le_of_ble_eq_true rfl)) dX12_joins_100 ⟨Nat.le_of_ble_eq_true rfl, Nat.le_of_ble_eq_true rfl⟩) hS (fun q _ h => h) (fun q h => h) (fun r_44 u t H1 locs ht hvm w_43 hB hz1 hk1 hS => ?_)
        have hI : Iv dC dI g A f t.heap := hB
        rw [ht] at hI
        generalize H1 = H at hI hS ⊢
        refine W.widen (k := 0) (n := 0) (Nat.le_of_ble_eq_true rfl) (Nat.le_of_ble_eq_true rfl) ?_
        refine lv_lload_n hx hb dX12_joins_103 rfl (lv_at hl 2 rfl) ?_
        refine lv_lmul hx hb dX12_joins_104 ?_
        refine lv_topl (fun v_45 ev_45 => ?_)
        refine lv_lsub hx hb dX12_joins_105 ?_
        refine lv_topl (fun v_46 ev_46 => ?_)
        have tv_46 := l_sb v_42 v_45
        rw [← ev_46] at tv_46
        refine lv_lload_n hx hb dX12_joins_106 rfl (lv_at hl 2 rfl) ?_
        refine lv_lload hx hb dX12_joins_107 (lv_at hl 0 rfl) ?_
        refine lv_lmul hx hb dX12_joins_109 ?_
        refine lv_topl (fun v_47 ev_47 => ?_)
        have tv_47 := l_ml1 (x := y_29) (y := v_39) (a := 96) (b := 768) (by omega) (by omega) (by omega) (by omega) (by decide)
        rw [← ev_47] at tv_47
        refine va_calll (va_runS (As := [.long v_46, .long v_47]) (rest := [.int (nI (6 + 43 * p1 + 10)), .ref (gr g h0 4)]) ⟨hx, hb, hml, hown, hts⟩ (c_X12_down l dC dI g A hG f v_46 v_47 (by first | omega | decide | (simp only [k_c0, k_c1, k_cm1]; omega))) (va_cwS 2 hts (gi_S (fun w_ h0_ => ⟨List.mem_cons_of_mem _ (List.mem_append_right _ (List.mem_append_right _ (List.mem_append_right _ (List.mem_append_right _ (List.mem_append_right _ (List.mem_append_left _ h0_)))))), (tb_c_X12_down w_ h0_).2⟩) (List.mem_cons_of_mem _ (List.mem_append_left _ (List.mem_of_getElem? (i := 10) rfl))) (List.mem_cons_of_mem _ (List.mem_append_left _ (List.mem_of_getElem? (i := 11) rfl))) (List.mem_cons_of_mem _ (List.mem_append_left _ (List.mem_of_getElem? (i := 2) rfl)))) rfl rfl rfl (by decide +kernel) ⟨Nat.le_of_ble_eq_true rfl, Nat.le_of_ble_eq_true rfl⟩) ⟨fun a U g mk q => ⟨q.1, q.2.calling rfl rfl⟩, fun U hU hW => ⟨rfl, kIn.of hI hK hE hS hU hW⟩⟩ rfl rfl hl.1 rfl (lv_room (Nat.le_of_ble_eq_true rfl)) dX12_joins_110 ⟨Nat.le_of_ble_eq_true rfl, Nat.le_of_ble_eq_true rfl⟩) hS (fun q _ h => h) (fun q h => h) (fun r_49 u t H1 locs ht hvm w_48 hB hz1 hk1 hS => ?_)
        have hI : Iv dC dI g A f t.heap := hB
        rw [ht] at hI
        generalize H1 = H at hI hS ⊢
        refine W.widen (k := 0) (n := 0) (Nat.le_of_ble_eq_true rfl) (Nat.le_of_ble_eq_true rfl) ?_
        refine k_last hx hb hK hI hS i_1.1 1 hc0 rfl (vp_in_nI (by omega) (by omega)) (cl_32 i_1) dX12_joins_113 (fun f_50 H locs e_51 hI hS => ?_)
        generalize eq_52 : vp_updL q (Int32.toNatClampNeg (nI (6 + 43 * p1 + 10))) r_49 = q_52 at e_51
        have k_54 : f_50 (gr g h0 4) = .inl (gc g 1, 906, .inr (.inl q_52)) := by rw [e_51]; exact va_up_self _ _ _
        have k_55 : f_50 h0 = .inr (12, [.int x_6, .int x_7, .ref (gr g h0 2), .ref (gr g h0 3), .ref (gr g h0 4), .ref (gr g h0 5), .ref (gr g h0 6), .ref (gr g h0 7), .ref (gr g h0 8), .ref (gr g h0 9), .int x_8, .ref (gr g h0 11), .int x_9, .int x_10, .int x_11, .int x_12, .long x_13, .int x_14, .int x_15, .ref (gr g h0 19), .ref (gr g h0 20), .ref (gr g h0 21), .ref (gr g h0 22), .int x_16, .long x_17, .long x_18, .long x_19]) := by rw [e_51, va_up_ne _ _ (ik_ne i_h0 i_1 (by decide))]; exact k_5
        have kp_53 := Kp.put hk0 i_1 (by decide) e_51
        have u_56 : vp_updL q (6 + 43 * p1 + 10) r_49 = q_52 := by rw [← eq_52, show Int32.toNatClampNeg (nI (6 + 43 * p1 + 10)) = 6 + 43 * p1 + 10 from (nI_clamp (by omega))]
        have ok_57 : RowOK q_52 := by rw [← u_56]; exact rk_upd hc0_ok (by refine ⟨⟨by omega, by omega, by omega, by omega, by omega⟩, fun t9 ht9 => ⟨by omega, by omega, by omega, by omega, by omega, by omega⟩, fun t9 k9 ht9 hk9 => ⟨by omega, by omega, by omega⟩, by omega⟩)
        have d_58 := rk_hd ok_57
        have n_59 : (q_52 0).toInt = (q 0).toInt := by rw [← u_56, pk_uLn (by omega)]
        have n_60 : (q_52 1).toInt = (q 1).toInt := by rw [← u_56, pk_uLn (by omega)]
        have n_61 : (q_52 3).toInt = (q 3).toInt := by rw [← u_56, pk_uLn (by omega)]
        have n_62 : (q_52 4).toInt = (q 4).toInt := by rw [← u_56, pk_uLn (by omega)]
        have n_63 : (q_52 5).toInt = (q 5).toInt := by rw [← u_56, pk_uLn (by omega)]
        refine lv_aload_n hx hb dX12_joins_114 rfl (lv_at hl 5 rfl) ?_
        refine k_get (ci := 12) (v := .ref (gr g h0 4)) (C := RX12) (T := TX12) (N := 27) hx hb hts (fun _ h0_ => List.mem_cons_of_mem _ (List.mem_append_right _ (List.mem_append_right _ (List.mem_append_right _ (List.mem_append_left _ h0_))))) hown hK hI i_h0.1 k_55 rfl 4 (by decide) (hts (.fieldLink RX12 16 "DeadlineShareModel" "row" "[J") (List.mem_cons_of_mem _ (List.mem_append_left _ (List.mem_of_getElem? (i := 6) rfl)))) (fun _ h9 => h9) rfl dX12_joins_115 ?_
        refine lv_iload_n hx hb dX12_joins_118 rfl (lv_at hl 4 rfl) ?_
        refine lv_iconst (v := 2) hx hb dX12_joins_119 (by decide) ?_
        refine lv_iadd hx hb dX12_joins_120 ?_
        refine k_topi (y := nI (6 + 43 * p1 + 2)) ((nI_add (6 + 43 * p1) 2).trans (congrArg nI (by omega))) ?_
        refine lv_lconst (v := 1) hx hb dX12_joins_121 (by decide) ?_
        refine k_last hx hb hK hI hS i_1.1 1 k_54 rfl (vp_in_nI (by omega) (by omega)) (cl_32 i_1) dX12_joins_122 (fun f_66 H locs e_67 hI hS => ?_)
        generalize eq_68 : vp_updL q_52 (Int32.toNatClampNeg (nI (6 + 43 * p1 + 2))) 1 = q_68 at e_67
        have k_70 : f_66 (gr g h0 4) = .inl (gc g 1, 906, .inr (.inl q_68)) := by rw [e_67]; exact va_up_self _ _ _
        have k_71 : f_66 h0 = .inr (12, [.int x_6, .int x_7, .ref (gr g h0 2), .ref (gr g h0 3), .ref (gr g h0 4), .ref (gr g h0 5), .ref (gr g h0 6), .ref (gr g h0 7), .ref (gr g h0 8), .ref (gr g h0 9), .int x_8, .ref (gr g h0 11), .int x_9, .int x_10, .int x_11, .int x_12, .long x_13, .int x_14, .int x_15, .ref (gr g h0 19), .ref (gr g h0 20), .ref (gr g h0 21), .ref (gr g h0 22), .int x_16, .long x_17, .long x_18, .long x_19]) := by rw [e_67, va_up_ne _ _ (ik_ne i_h0 i_1 (by decide))]; exact k_55
        have kp_69 := Kp.put kp_53 i_1 (by decide) e_67
        have u_72 : vp_updL q_52 (6 + 43 * p1 + 2) 1 = q_68 := by rw [← eq_68, show Int32.toNatClampNeg (nI (6 + 43 * p1 + 2)) = 6 + 43 * p1 + 2 from (nI_clamp (by omega))]
        have ok_73 : RowOK q_68 := by rw [← u_72]; exact rk_upd ok_57 (by rw [show Int64.toInt 1 = 1 from by decide]; refine ⟨⟨by omega, by omega, by omega, by omega, by omega⟩, fun t9 ht9 => ⟨by omega, by omega, by omega, by omega, by omega, by omega⟩, fun t9 k9 ht9 hk9 => ⟨by omega, by omega, by omega⟩, by omega⟩)
        have d_74 := rk_hd ok_73
        have n_75 : (q_68 0).toInt = (q_52 0).toInt := by rw [← u_72, pk_uLn (by omega)]
        have n_76 : (q_68 1).toInt = (q_52 1).toInt := by rw [← u_72, pk_uLn (by omega)]
        have n_77 : (q_68 3).toInt = (q_52 3).toInt := by rw [← u_72, pk_uLn (by omega)]
        have n_78 : (q_68 4).toInt = (q_52 4).toInt := by rw [← u_72, pk_uLn (by omega)]
        have n_79 : (q_68 5).toInt = (q_52 5).toInt := by rw [← u_72, pk_uLn (by omega)]
        refine lv_aload_n hx hb dX12_joins_123 rfl (lv_at hl 5 rfl) ?_
        refine k_get (ci := 12) (v := .ref (gr g h0 4)) (C := RX12) (T := TX12) (N := 27) hx hb hts (fun _ h0_ => List.mem_cons_of_mem _ (List.mem_append_right _ (List.mem_append_right _ (List.mem_append_right _ (List.mem_append_left _ h0_))))) hown hK hI i_h0.1 k_71 rfl 4 (by decide) (hts (.fieldLink RX12 16 "DeadlineShareModel" "row" "[J") (List.mem_cons_of_mem _ (List.mem_append_left _ (List.mem_of_getElem? (i := 6) rfl)))) (fun _ h9 => h9) rfl dX12_joins_124 ?_
        refine lv_iload_n hx hb dX12_joins_127 rfl (lv_at hl 4 rfl) ?_
        refine lv_iconst (v := 3) hx hb dX12_joins_128 (by decide) ?_
        refine lv_iadd hx hb dX12_joins_129 ?_
        refine k_topi (y := nI (6 + 43 * p1 + 3)) ((nI_add (6 + 43 * p1) 3).trans (congrArg nI (by omega))) ?_
        refine lv_aload_n hx hb dX12_joins_130 rfl (lv_at hl 5 rfl) ?_
        refine k_get (ci := 12) (v := .ref (gr g h0 4)) (C := RX12) (T := TX12) (N := 27) hx hb hts (fun _ h0_ => List.mem_cons_of_mem _ (List.mem_append_right _ (List.mem_append_right _ (List.mem_append_right _ (List.mem_append_left _ h0_))))) hown hK hI i_h0.1 k_71 rfl 4 (by decide) (hts (.fieldLink RX12 16 "DeadlineShareModel" "row" "[J") (List.mem_cons_of_mem _ (List.mem_append_left _ (List.mem_of_getElem? (i := 6) rfl)))) (fun _ h9 => h9) rfl dX12_joins_131 ?_
        refine lv_iload_n hx hb dX12_joins_134 rfl (lv_at hl 4 rfl) ?_
        refine lv_iconst (v := 1) hx hb dX12_joins_135 (by decide) ?_
        refine lv_iadd hx hb dX12_joins_136 ?_
        refine k_topi (y := nI (6 + 43 * p1 + 1)) ((nI_add (6 + 43 * p1) 1).trans (congrArg nI (by omega))) ?_
        refine k_lald hx hb hK hI i_1.1 1 k_70 rfl (vp_in_nI (by omega) (by omega)) dX12_joins_137 ?_
        refine k_topl (y := q_68 (6 + 43 * p1 + 1)) (congrArg q_68 (nI_clamp (by omega))) ?_
        refine k_last hx hb hK hI hS i_1.1 1 k_70 rfl (vp_in_nI (by omega) (by omega)) (cl_32 i_1) dX12_joins_138 (fun f_84 H locs e_85 hI hS => ?_)
        generalize eq_86 : vp_updL q_68 (Int32.toNatClampNeg (nI (6 + 43 * p1 + 3))) (q_68 (6 + 43 * p1 + 1)) = q_86 at e_85
        have k_88 : f_84 (gr g h0 4) = .inl (gc g 1, 906, .inr (.inl q_86)) := by rw [e_85]; exact va_up_self _ _ _
        have k_89 : f_84 h0 = .inr (12, [.int x_6, .int x_7, .ref (gr g h0 2), .ref (gr g h0 3), .ref (gr g h0 4), .ref (gr g h0 5), .ref (gr g h0 6), .ref (gr g h0 7), .ref (gr g h0 8), .ref (gr g h0 9), .int x_8, .ref (gr g h0 11), .int x_9, .int x_10, .int x_11, .int x_12, .long x_13, .int x_14, .int x_15, .ref (gr g h0 19), .ref (gr g h0 20), .ref (gr g h0 21), .ref (gr g h0 22), .int x_16, .long x_17, .long x_18, .long x_19]) := by rw [e_85, va_up_ne _ _ (ik_ne i_h0 i_1 (by decide))]; exact k_71
        have kp_87 := Kp.put kp_69 i_1 (by decide) e_85
        have u_90 : vp_updL q_68 (6 + 43 * p1 + 3) (q_68 (6 + 43 * p1 + 1)) = q_86 := by rw [← eq_86, show Int32.toNatClampNeg (nI (6 + 43 * p1 + 3)) = 6 + 43 * p1 + 3 from (nI_clamp (by omega))]
        have ok_91 : RowOK q_86 := by rw [← u_90]; exact rk_upd ok_73 (by refine ⟨⟨by omega, by omega, by omega, by omega, by omega⟩, fun t9 ht9 => ⟨by omega, by omega, by omega, by omega, by omega, by omega⟩, fun t9 k9 ht9 hk9 => ⟨by omega, by omega, by omega⟩, by omega⟩)
        have d_92 := rk_hd ok_91
        have n_93 : (q_86 0).toInt = (q_68 0).toInt := by rw [← u_90, pk_uLn (by omega)]
        have n_94 : (q_86 1).toInt = (q_68 1).toInt := by rw [← u_90, pk_uLn (by omega)]
        have n_95 : (q_86 3).toInt = (q_68 3).toInt := by rw [← u_90, pk_uLn (by omega)]
        have n_96 : (q_86 4).toInt = (q_68 4).toInt := by rw [← u_90, pk_uLn (by omega)]
        have n_97 : (q_86 5).toInt = (q_68 5).toInt := by rw [← u_90, pk_uLn (by omega)]
        refine lv_aload_n hx hb dX12_joins_139 rfl (lv_at hl 5 rfl) ?_
        refine k_get (ci := 12) (v := .ref (gr g h0 4)) (C := RX12) (T := TX12) (N := 27) hx hb hts (fun _ h0_ => List.mem_cons_of_mem _ (List.mem_append_right _ (List.mem_append_right _ (List.mem_append_right _ (List.mem_append_left _ h0_))))) hown hK hI i_h0.1 k_89 rfl 4 (by decide) (hts (.fieldLink RX12 16 "DeadlineShareModel" "row" "[J") (List.mem_cons_of_mem _ (List.mem_append_left _ (List.mem_of_getElem? (i := 6) rfl)))) (fun _ h9 => h9) rfl dX12_joins_140 ?_
        refine lv_iload_n hx hb dX12_joins_143 rfl (lv_at hl 4 rfl) ?_
        refine lv_bipush (v := 7) hx hb dX12_joins_144 (by decide) ?_
        refine lv_iadd hx hb dX12_joins_146 ?_
        refine k_topi (y := nI (6 + 43 * p1 + 7)) ((nI_add (6 + 43 * p1) 7).trans (congrArg nI (by omega))) ?_
        refine lv_lconst (v := 0) hx hb dX12_joins_147 (by decide) ?_
        refine k_last hx hb hK hI hS i_1.1 1 k_88 rfl (vp_in_nI (by omega) (by omega)) (cl_32 i_1) dX12_joins_148 (fun f_100 H locs e_101 hI hS => ?_)
        generalize eq_102 : vp_updL q_86 (Int32.toNatClampNeg (nI (6 + 43 * p1 + 7))) 0 = q_102 at e_101
        have k_104 : f_100 (gr g h0 4) = .inl (gc g 1, 906, .inr (.inl q_102)) := by rw [e_101]; exact va_up_self _ _ _
        have k_105 : f_100 h0 = .inr (12, [.int x_6, .int x_7, .ref (gr g h0 2), .ref (gr g h0 3), .ref (gr g h0 4), .ref (gr g h0 5), .ref (gr g h0 6), .ref (gr g h0 7), .ref (gr g h0 8), .ref (gr g h0 9), .int x_8, .ref (gr g h0 11), .int x_9, .int x_10, .int x_11, .int x_12, .long x_13, .int x_14, .int x_15, .ref (gr g h0 19), .ref (gr g h0 20), .ref (gr g h0 21), .ref (gr g h0 22), .int x_16, .long x_17, .long x_18, .long x_19]) := by rw [e_101, va_up_ne _ _ (ik_ne i_h0 i_1 (by decide))]; exact k_89
        have kp_103 := Kp.put kp_87 i_1 (by decide) e_101
        have u_106 : vp_updL q_86 (6 + 43 * p1 + 7) 0 = q_102 := by rw [← eq_102, show Int32.toNatClampNeg (nI (6 + 43 * p1 + 7)) = 6 + 43 * p1 + 7 from (nI_clamp (by omega))]
        have ok_107 : RowOK q_102 := by rw [← u_106]; exact rk_upd ok_91 (by rw [show Int64.toInt 0 = 0 from by decide]; refine ⟨⟨by omega, by omega, by omega, by omega, by omega⟩, fun t9 ht9 => ⟨by omega, by omega, by omega, by omega, by omega, by omega⟩, fun t9 k9 ht9 hk9 => ⟨by omega, by omega, by omega⟩, by omega⟩)
        have d_108 := rk_hd ok_107
        have n_109 : (q_102 0).toInt = (q_86 0).toInt := by rw [← u_106, pk_uLn (by omega)]
        have n_110 : (q_102 1).toInt = (q_86 1).toInt := by rw [← u_106, pk_uLn (by omega)]
        have n_111 : (q_102 3).toInt = (q_86 3).toInt := by rw [← u_106, pk_uLn (by omega)]
        have n_112 : (q_102 4).toInt = (q_86 4).toInt := by rw [← u_106, pk_uLn (by omega)]
        have n_113 : (q_102 5).toInt = (q_86 5).toInt := by rw [← u_106, pk_uLn (by omega)]
        exact W.vret hx hb hr (fun t ht hW => ⟨⟨(), rfl, trivial, ⟨f_100, k_ret ht hI, kp_103, q_102, k_104, ok_107, (by first | omega | decide), (by first | omega | decide)⟩⟩, hS.F ht⟩) hS.2.2 dX12_joins_149
      refine lv_if_ne (tgt := 61) hx hb dX12_joins_54 (by decide) (fun c_114 => ?_) (fun c_114 => ?_)
      · have c_114 := ln_eq rfl (by decide : Int64.toInt 0 = 0) (fun h9 => c_114 ((lg_cmp_eq _ _).mpr h9))
        refine lv_aload_n hx hb dX12_joins_61 rfl (lv_at hl 3 rfl) ?_
        refine k_get (ci := 12) (v := .ref (gr g h0 4)) (C := RX12) (T := TX12) (N := 27) hx hb hts (fun _ h0_ => List.mem_cons_of_mem _ (List.mem_append_right _ (List.mem_append_right _ (List.mem_append_right _ (List.mem_append_left _ h0_))))) hown hK hI i_h0.1 k_5 rfl 4 (by decide) (hts (.fieldLink RX12 16 "DeadlineShareModel" "row" "[J") (List.mem_cons_of_mem _ (List.mem_append_left _ (List.mem_of_getElem? (i := 6) rfl)))) (fun _ h9 => h9) rfl dX12_joins_62 ?_
        refine lv_iload_n hx hb dX12_joins_65 rfl (lv_at hl 2 rfl) ?_
        refine lv_bipush (v := 12) hx hb dX12_joins_66 (by decide) ?_
        refine lv_iadd hx hb dX12_joins_68 ?_
        refine k_topi (y := nI (6 + 43 * p1 + 12)) ((nI_add (6 + 43 * p1) 12).trans (congrArg nI (by omega))) ?_
        refine k_lald hx hb hK hI i_1.1 1 hc0 rfl (vp_in_nI (by omega) (by omega)) dX12_joins_69 ?_
        refine k_topl (y := q (6 + 43 * p1 + 12)) (congrArg q (nI_clamp (by omega))) ?_
        have d_117 := rk_12 hc0_ok (t := p1) (by omega)
        exact J_70 (q (6 + 43 * p1 + 12)) _ _ _ hI hS (by first | omega | decide) (lv_sub hl [0, 1, 2, 3, 4] rfl)
      · have c_114 := lc_eq rfl (by decide : Int64.toInt 0 = 0) ((lg_cmp_eq _ _).mp c_114)
        refine lv_lconst (v := 1) hx hb dX12_joins_57 (by decide) ?_
        refine lv_goto (tgt := 70) hx hb dX12_joins_58 (by decide) ?_
        exact J_70 1 _ _ _ hI hS (by first | omega | decide | (simp only [show Int64.toInt 1 = 1 from by decide]; omega)) (lv_sub hl [0, 1, 2, 3, 4] rfl)
    refine lv_if_ne (tgt := 41) hx hb dX12_joins_34 (by decide) (fun c_118 => ?_) (fun c_118 => ?_)
    · have c_118 := ln_eq rfl (by decide : Int64.toInt 0 = 0) (fun h9 => c_118 ((lg_cmp_eq _ _).mpr h9))
      refine lv_lload_n hx hb dX12_joins_41 rfl (lv_at hl 1 rfl) ?_
      exact J_42 r_27 _ _ _ hI hS (by first | omega | decide) (lv_sub hl [0, 1, 2, 3, 4] rfl)
    · have c_118 := lc_eq rfl (by decide : Int64.toInt 0 = 0) ((lg_cmp_eq _ _).mp c_118)
      refine lv_lconst (v := 1) hx hb dX12_joins_37 (by decide) ?_
      refine lv_goto (tgt := 42) hx hb dX12_joins_38 (by decide) ?_
      exact J_42 1 _ _ _ hI hS (by first | omega | decide | (simp only [show Int64.toInt 1 = 1 from by decide]; omega)) (lv_sub hl [0, 1, 2, 3, 4] rfl)
  refine lv_if_ne (tgt := 25) hx hb dX12_joins_13 (by decide) (fun c_119 => ?_) (fun c_119 => ?_)
  · have c_119 := ln_eq rfl (by decide : Int64.toInt 0 = 0) (fun h9 => c_119 ((lg_cmp_eq _ _).mpr h9))
    refine lv_aload_n hx hb dX12_joins_25 rfl (lv_at hl 2 rfl) ?_
    refine va_calll (va_runV (As := []) (rest := []) ⟨hx, hb, hml, hown, hts⟩ (c_X12_sum l dC dI g A hG f h0 q i_h0 hc0 hc0_ok) (cwV 0 hts (gi_V (fun w_ h0_ => ⟨List.mem_cons_of_mem _ (List.mem_append_right _ (List.mem_append_right _ (List.mem_append_right _ (List.mem_append_right _ (List.mem_append_right _ (List.mem_append_right _ (List.mem_append_left _ h0_))))))), (tb_c_X12_sum w_ h0_).2⟩) (List.mem_cons_of_mem _ (List.mem_append_left _ (List.mem_of_getElem? (i := 12) rfl))) (List.mem_cons_of_mem _ (List.mem_append_left _ (List.mem_of_getElem? (i := 13) rfl))) (List.mem_cons_of_mem _ (List.mem_append_left _ (List.mem_of_getElem? (i := 14) rfl))) (List.mem_cons_of_mem _ (List.mem_append_left _ (List.mem_of_getElem? (i := 2) rfl)))) rfl rfl rfl (by decide +kernel) ⟨Nat.le_of_ble_eq_true rfl, Nat.le_of_ble_eq_true rfl⟩) ⟨fun a U g mk q => ⟨q.1, q.2.calling rfl rfl⟩, k_recv hK hI i_h0.1 k_5 (ci := 12) rfl, fun U hU hW => ⟨rfl, kIn.of hI hK hE hS hU hW⟩⟩ rfl rfl hl.1 rfl (lv_room (Nat.le_of_ble_eq_true rfl)) dX12_joins_26 ⟨Nat.le_of_ble_eq_true rfl, Nat.le_of_ble_eq_true rfl⟩) hS (fun q _ h => h) (fun q h => h) (fun r_121 u t H1 locs ht hvm w_120 hB hz1 hk1 hS => ?_)
    have hI : Iv dC dI g A f t.heap := hB
    rw [ht] at hI
    generalize H1 = H at hI hS ⊢
    refine W.widen (k := 0) (n := 0) (Nat.le_of_ble_eq_true rfl) (Nat.le_of_ble_eq_true rfl) ?_
    exact J_29 r_121 _ _ _ hI hS  (lv_sub hl [0, 1, 2, 3] rfl)
  · have c_119 := lc_eq rfl (by decide : Int64.toInt 0 = 0) ((lg_cmp_eq _ _).mp c_119)
    refine lv_aload_n hx hb dX12_joins_16 rfl (lv_at hl 2 rfl) ?_
    refine k_get (ci := 12) (v := .ref (gr g h0 4)) (C := RX12) (T := TX12) (N := 27) hx hb hts (fun _ h0_ => List.mem_cons_of_mem _ (List.mem_append_right _ (List.mem_append_right _ (List.mem_append_right _ (List.mem_append_left _ h0_))))) hown hK hI i_h0.1 k_5 rfl 4 (by decide) (hts (.fieldLink RX12 16 "DeadlineShareModel" "row" "[J") (List.mem_cons_of_mem _ (List.mem_append_left _ (List.mem_of_getElem? (i := 6) rfl)))) (fun _ h9 => h9) rfl dX12_joins_17 ?_
    refine lv_iconst (v := 2) hx hb dX12_joins_20 (by decide) ?_
    refine k_lald hx hb hK hI i_1.1 1 hc0 rfl (by unfold vp_in; decide) dX12_joins_21 ?_
    refine k_topl (y := q 2) (congrArg q (show Int32.toNatClampNeg 2 = 2 by decide)) ?_
    refine lv_goto (tgt := 29) hx hb dX12_joins_22 (by decide) ?_
    exact J_29 (q 2) _ _ _ hI hS  (lv_sub hl [0, 1, 2, 3] rfl)
theorem tw_770 : q_g (.selects RX12 yX12_lag yX12_lag) := ⟨(List.mem_append_left _ (List.mem_of_getElem? (i := 36) (by decide +kernel))), good_of_word (by decide +kernel)⟩
theorem tw_771 : q_g (.instanceMethod yX12_lag) := ⟨(List.mem_append_right _ (List.mem_of_getElem? (i := 1289) (by decide +kernel))), good_of_word (by decide +kernel)⟩
theorem tw_772 : q_g (.methodLink RX12 119 yX12_lag) := ⟨(List.mem_append_right _ (List.mem_of_getElem? (i := 1287) (by decide +kernel))), good_of_word (by decide +kernel)⟩
theorem tw_773 : q_g (.constantLong RX12 65 (-1)) := ⟨(List.mem_append_right _ (List.mem_of_getElem? (i := 1096) (by decide +kernel))), good_of_word (by decide +kernel)⟩
theorem tw_774 : q_g (.code yX12_leaves cX12_leaves 3 none) := ⟨(List.mem_append_right _ (List.mem_of_getElem? (i := 1286) (by decide +kernel))), good_of_word (by decide +kernel)⟩
def ow_c_X12_leaves : List Cond := [.methodLink RX12 87 yX12_at, .static yX12_at, .initialized RX12, .methodLink RX12 90 yX12_isOn, .instanceMethod yX12_isOn, .selects RX12 yX12_isOn yX12_isOn, .fieldLink RX12 16 "DeadlineShareModel" "row" "[J", .constantLong RX12 65 (-1), .methodLink RX12 119 yX12_lag, .instanceMethod yX12_lag, .selects RX12 yX12_lag yX12_lag, .methodLink RX12 105 yX12_heavy, .instanceMethod yX12_heavy, .selects RX12 yX12_heavy yX12_heavy, .methodLink RX12 98 yX12_virtual, .instanceMethod yX12_virtual, .selects RX12 yX12_virtual yX12_virtual]
def wq_c_X12_leaves : List Cond := .code yX12_leaves cX12_leaves 3 none :: (ow_c_X12_leaves ++ (wq_c_X12_at ++ (wq_c_X12_isOn ++ (u_ws RX12 TX12 27 ++ (wq_c_X12_lag ++ (wq_c_X12_heavy ++ (wq_c_X12_virtual ++ ([] : List Cond))))))))
theorem tb_c_X12_leaves : ∀ w ∈ wq_c_X12_leaves, q_g w := by
  unfold wq_c_X12_leaves ow_c_X12_leaves
  exact q_cons tw_774 (q_app (q_cons tw_734 (q_cons tw_733 (q_cons tw_728 (q_cons tw_744 (q_cons tw_743 (q_cons tw_742 (q_cons tw_731 (q_cons tw_773 (q_cons tw_772 (q_cons tw_771 (q_cons tw_770 (q_cons tw_752 (q_cons tw_751 (q_cons tw_750 (q_cons tw_748 (q_cons tw_747 (q_cons tw_746 q_nil))))))))))))))))) (q_app tb_c_X12_at (q_app tb_c_X12_isOn (q_app tu_X12 (q_app tb_c_X12_lag (q_app tb_c_X12_heavy (q_app tb_c_X12_virtual q_nil)))))))
set_option maxHeartbeats 4000000 in
set_option maxRecDepth 100000 in
theorem c_X12_leaves (l : Launch) (dC : Nat → ClassId) (dI : Nat → Nat → Nat) (g : kG) (A : Nat → Prop) (hG : kWf g) (f : Nat → va_E) (h0 : Nat) (p1 : Nat) (q : Nat → Int64) (i_h0 : ik g 12 h0) (hc0 : f (gr g h0 4) = .inl (gc g 1, 906, .inr (.inl q))) (hc0_ok : RowOK q) (ht : p1 < 12) : Met l yX12_leaves wq_c_X12_leaves ({ frames := 4, cells := 0, slots := 0, locals := 85 } : Room) (va_Pc [.ref h0, .int (nI p1)] (fun U => kIn dC dI g A f U)) (va_Qv (fun (_ : Unit) => True) (fun (_ : Unit) t => ∃ f1 : Nat → va_E, Iv dC dI g A f1 t.heap ∧ Kp g [32] f f1 ∧ ∃ (q1 : Nat → Int64), (f1 (gr g h0 4) = .inl (gc g 1, 906, .inr (.inl q1))) ∧ (RowOK q1) ∧ ((q1 0).toInt = (q 0).toInt) ∧ ((q1 1).toInt = (q 1).toInt)) A) 0 0 A := by
  refine Met.ofW (cc := cX12_leaves) (maxL := 3) (ret := none) (by decide) rfl ?_
  intro p e s m args below meth c s₁ B hml hv
  obtain ⟨rfl, hI, hK, hE⟩ := hv
  have hx := B.exec
  have hb := B.bytes
  have hr := B.returns
  have hts := atoms_spec (ws := wq_c_X12_leaves) B.pre
  have hown : s.vm.findClass RX12 = some m.cls := findClass_of_methodNamed B.named
  have hlocks := B.notSynchronized
  have hS : va_S A s.heap s.heap [] := va_S.rf
  have hk0 : Kp g [32] f f := Kp.rf
  have hl := lv_entry ([.ref h0, .int (nI p1)]) (n := 3) (Nat.le_of_ble_eq_true rfl)
  rw [lg_entry_eq]
  generalize (lg_sl ([.ref h0, .int (nI p1)]) ++ List.replicate (3 - (lg_sl ([.ref h0, .int (nI p1)])).length) Slot.unset).toArray = ls at hl ⊢
  have hl : lv_has ls 3 [(0, .ref h0), (1, .int (nI p1))] := hl
  have i_1 := kw_12_4 hG i_h0
  have d_2 := rk_hd hc0_ok
  refine lv_iload_n hx hb dX12_leaves_0 rfl (lv_at hl 1 rfl) ?_
  refine va_calli (va_runS (As := [.int (nI p1)]) (rest := []) ⟨hx, hb, hml, hown, hts⟩ (c_X12_at l dC dI g A hG f p1) (va_cwS 1 hts (gi_S (fun w_ h0_ => ⟨List.mem_cons_of_mem _ (List.mem_append_right _ (List.mem_append_left _ h0_)), (tb_c_X12_at w_ h0_).2⟩) (List.mem_cons_of_mem _ (List.mem_append_left _ (List.mem_of_getElem? (i := 0) rfl))) (List.mem_cons_of_mem _ (List.mem_append_left _ (List.mem_of_getElem? (i := 1) rfl))) (List.mem_cons_of_mem _ (List.mem_append_left _ (List.mem_of_getElem? (i := 2) rfl)))) rfl rfl rfl (by decide +kernel) ⟨Nat.le_of_ble_eq_true rfl, Nat.le_of_ble_eq_true rfl⟩) ⟨fun a U g mk q => ⟨q.1, q.2.calling rfl rfl⟩, fun U hU hW => ⟨rfl, kIn.of hI hK hE hS hU hW⟩⟩ rfl rfl hl.1 rfl (lv_room (Nat.le_of_ble_eq_true rfl)) dX12_leaves_1 ⟨Nat.le_of_ble_eq_true rfl, Nat.le_of_ble_eq_true rfl⟩) hS (fun q _ h => h) (fun q h => h) (fun r_4 u t H1 locs ht hvm w_3 hB hz1 hk1 hS => ?_)
  have hI : Iv dC dI g A f t.heap := hB
  rw [ht] at hI
  generalize H1 = H at hI hS ⊢
  refine W.widen (k := 0) (n := 0) (Nat.le_of_ble_eq_true rfl) (Nat.le_of_ble_eq_true rfl) ?_
  have w_3 : r_4 = nI (6 + 43 * p1) := w_3
  refine k_topi (y := nI (6 + 43 * p1)) w_3 ?_
  refine lv_istore_n (lv' := [(2, .int (nI (6 + 43 * p1))), (0, .ref h0), (1, .int (nI p1))]) hx hb dX12_leaves_4 rfl hl (by decide) rfl (fun ls hl => ?_)
  refine lv_aload_n hx hb dX12_leaves_5 rfl (lv_at hl 1 rfl) ?_
  refine lv_iload_n hx hb dX12_leaves_6 rfl (lv_at hl 2 rfl) ?_
  obtain ⟨x_6, x_7, x_8, x_9, x_10, x_11, x_12, x_13, x_14, x_15, x_16, x_17, x_18, x_19, k_5, b_20, b_21, b_22, b_23, b_24, b_25⟩ := op_12 hI i_h0
  refine va_calli (va_runV (As := [.int (nI p1)]) (rest := []) ⟨hx, hb, hml, hown, hts⟩ (c_X12_isOn l dC dI g A hG f h0 p1 q i_h0 hc0 hc0_ok (by first | omega | decide | (simp only [k_c0, k_c1, k_cm1]; omega))) (cwV 1 hts (gi_V (fun w_ h0_ => ⟨List.mem_cons_of_mem _ (List.mem_append_right _ (List.mem_append_right _ (List.mem_append_left _ h0_))), (tb_c_X12_isOn w_ h0_).2⟩) (List.mem_cons_of_mem _ (List.mem_append_left _ (List.mem_of_getElem? (i := 3) rfl))) (List.mem_cons_of_mem _ (List.mem_append_left _ (List.mem_of_getElem? (i := 4) rfl))) (List.mem_cons_of_mem _ (List.mem_append_left _ (List.mem_of_getElem? (i := 5) rfl))) (List.mem_cons_of_mem _ (List.mem_append_left _ (List.mem_of_getElem? (i := 2) rfl)))) rfl rfl rfl (by decide +kernel) ⟨Nat.le_of_ble_eq_true rfl, Nat.le_of_ble_eq_true rfl⟩) ⟨fun a U g mk q => ⟨q.1, q.2.calling rfl rfl⟩, k_recv hK hI i_h0.1 k_5 (ci := 12) rfl, fun U hU hW => ⟨rfl, kIn.of hI hK hE hS hU hW⟩⟩ rfl rfl hl.1 rfl (lv_room (Nat.le_of_ble_eq_true rfl)) dX12_leaves_7 ⟨Nat.le_of_ble_eq_true rfl, Nat.le_of_ble_eq_true rfl⟩) hS (fun q _ h => h) (fun q h => h) (fun r_27 u t H1 locs ht hvm w_26 hB hz1 hk1 hS => ?_)
  have hI : Iv dC dI g A f t.heap := hB
  rw [ht] at hI
  generalize H1 = H at hI hS ⊢
  refine W.widen (k := 0) (n := 0) (Nat.le_of_ble_eq_true rfl) (Nat.le_of_ble_eq_true rfl) ?_
  have w_26 : (r_27.toInt = 0 ∧ (q (6 + 43 * p1 + 2)).toInt ≠ 1) ∨ (r_27.toInt = 1 ∧ (q (6 + 43 * p1 + 2)).toInt = 1) := w_26
  have J_76 : ∀ (q_29 : Nat → Int64) (f_28 : Nat → va_E) (H : Heap) (locs : List Loc) (ls : Array Slot), Iv dC dI g A f_28 H → va_S A s.heap H locs → f_28 (gr g h0 4) = .inl (gc g 1, 906, .inr (.inl q_29)) → RowOK q_29 → f_28 h0 = .inr (12, [.int x_6, .int x_7, .ref (gr g h0 2), .ref (gr g h0 3), .ref (gr g h0 4), .ref (gr g h0 5), .ref (gr g h0 6), .ref (gr g h0 7), .ref (gr g h0 8), .ref (gr g h0 9), .int x_8, .ref (gr g h0 11), .int x_9, .int x_10, .int x_11, .int x_12, .long x_13, .int x_14, .int x_15, .ref (gr g h0 19), .ref (gr g h0 20), .ref (gr g h0 21), .ref (gr g h0 22), .int x_16, .long x_17, .long x_18, .long x_19]) → Kp g [32] f f_28 → ((q_29 0).toInt = (q 0).toInt) → ((q_29 1).toInt = (q 1).toInt) → lv_has ls 3 [(2, .int (nI (6 + 43 * p1))), (0, .ref h0), (1, .int (nI p1))] → W p l e (headSpec wq_c_X12_leaves ({ frames := 4, cells := 0, slots := 0, locals := 85 } : Room)).room s m ([.ref h0, .int (nI p1)].toArray) below meth c H locs 0 0 (MQ below (va_Qv (fun (_ : Unit) => True) (fun (_ : Unit) t => ∃ f1 : Nat → va_E, Iv dC dI g A f1 t.heap ∧ Kp g [32] f f1 ∧ ∃ (q1 : Nat → Int64), (f1 (gr g h0 4) = .inl (gc g 1, 906, .inr (.inl q1))) ∧ (RowOK q1) ∧ ((q1 0).toInt = (q 0).toInt) ∧ ((q1 1).toInt = (q 1).toInt)) A) ([.ref h0, .int (nI p1)].toArray) s 0 0 A) (F0 m 76 ls []) := by
    intro q_29 f_28 H locs ls hI hS k_30 ok_31 k_32 kp_33 t_34 t_35 hl
    have d_36 := rk_hd ok_31
    refine lv_aload_n hx hb dX12_leaves_76 rfl (lv_at hl 1 rfl) ?_
    refine k_get (ci := 12) (v := .ref (gr g h0 4)) (C := RX12) (T := TX12) (N := 27) hx hb hts (fun _ h0_ => List.mem_cons_of_mem _ (List.mem_append_right _ (List.mem_append_right _ (List.mem_append_right _ (List.mem_append_left _ h0_))))) hown hK hI i_h0.1 k_32 rfl 4 (by decide) (hts (.fieldLink RX12 16 "DeadlineShareModel" "row" "[J") (List.mem_cons_of_mem _ (List.mem_append_left _ (List.mem_of_getElem? (i := 6) rfl)))) (fun _ h9 => h9) rfl dX12_leaves_77 ?_
    refine lv_iload_n hx hb dX12_leaves_80 rfl (lv_at hl 0 rfl) ?_
    refine lv_iconst (v := 2) hx hb dX12_leaves_81 (by decide) ?_
    refine lv_iadd hx hb dX12_leaves_82 ?_
    refine k_topi (y := nI (6 + 43 * p1 + 2)) ((nI_add (6 + 43 * p1) 2).trans (congrArg nI (by omega))) ?_
    refine lv_lconst (v := 0) hx hb dX12_leaves_83 (by decide) ?_
    refine k_last hx hb hK hI hS i_1.1 1 k_30 rfl (vp_in_nI (by omega) (by omega)) (cl_32 i_1) dX12_leaves_84 (fun f_39 H locs e_40 hI hS => ?_)
    generalize eq_41 : vp_updL q_29 (Int32.toNatClampNeg (nI (6 + 43 * p1 + 2))) 0 = q_41 at e_40
    have k_43 : f_39 (gr g h0 4) = .inl (gc g 1, 906, .inr (.inl q_41)) := by rw [e_40]; exact va_up_self _ _ _
    have k_44 : f_39 h0 = .inr (12, [.int x_6, .int x_7, .ref (gr g h0 2), .ref (gr g h0 3), .ref (gr g h0 4), .ref (gr g h0 5), .ref (gr g h0 6), .ref (gr g h0 7), .ref (gr g h0 8), .ref (gr g h0 9), .int x_8, .ref (gr g h0 11), .int x_9, .int x_10, .int x_11, .int x_12, .long x_13, .int x_14, .int x_15, .ref (gr g h0 19), .ref (gr g h0 20), .ref (gr g h0 21), .ref (gr g h0 22), .int x_16, .long x_17, .long x_18, .long x_19]) := by rw [e_40, va_up_ne _ _ (ik_ne i_h0 i_1 (by decide))]; exact k_32
    have kp_42 := Kp.put kp_33 i_1 (by decide) e_40
    have u_45 : vp_updL q_29 (6 + 43 * p1 + 2) 0 = q_41 := by rw [← eq_41, show Int32.toNatClampNeg (nI (6 + 43 * p1 + 2)) = 6 + 43 * p1 + 2 from (nI_clamp (by omega))]
    have ok_46 : RowOK q_41 := by rw [← u_45]; exact rk_upd ok_31 (by rw [show Int64.toInt 0 = 0 from by decide]; refine ⟨⟨by omega, by omega, by omega, by omega, by omega⟩, fun t9 ht9 => ⟨by omega, by omega, by omega, by omega, by omega, by omega⟩, fun t9 k9 ht9 hk9 => ⟨by omega, by omega, by omega⟩, by omega⟩)
    have d_47 := rk_hd ok_46
    have n_48 : (q_41 0).toInt = (q_29 0).toInt := by rw [← u_45, pk_uLn (by omega)]
    have n_49 : (q_41 1).toInt = (q_29 1).toInt := by rw [← u_45, pk_uLn (by omega)]
    have n_50 : (q_41 3).toInt = (q_29 3).toInt := by rw [← u_45, pk_uLn (by omega)]
    have n_51 : (q_41 4).toInt = (q_29 4).toInt := by rw [← u_45, pk_uLn (by omega)]
    have n_52 : (q_41 5).toInt = (q_29 5).toInt := by rw [← u_45, pk_uLn (by omega)]
    refine lv_aload_n hx hb dX12_leaves_85 rfl (lv_at hl 1 rfl) ?_
    refine k_get (ci := 12) (v := .ref (gr g h0 4)) (C := RX12) (T := TX12) (N := 27) hx hb hts (fun _ h0_ => List.mem_cons_of_mem _ (List.mem_append_right _ (List.mem_append_right _ (List.mem_append_right _ (List.mem_append_left _ h0_))))) hown hK hI i_h0.1 k_44 rfl 4 (by decide) (hts (.fieldLink RX12 16 "DeadlineShareModel" "row" "[J") (List.mem_cons_of_mem _ (List.mem_append_left _ (List.mem_of_getElem? (i := 6) rfl)))) (fun _ h9 => h9) rfl dX12_leaves_86 ?_
    refine lv_iconst (v := 4) hx hb dX12_leaves_89 (by decide) ?_
    refine lv_aload_n hx hb dX12_leaves_90 rfl (lv_at hl 1 rfl) ?_
    refine k_get (ci := 12) (v := .ref (gr g h0 4)) (C := RX12) (T := TX12) (N := 27) hx hb hts (fun _ h0_ => List.mem_cons_of_mem _ (List.mem_append_right _ (List.mem_append_right _ (List.mem_append_right _ (List.mem_append_left _ h0_))))) hown hK hI i_h0.1 k_44 rfl 4 (by decide) (hts (.fieldLink RX12 16 "DeadlineShareModel" "row" "[J") (List.mem_cons_of_mem _ (List.mem_append_left _ (List.mem_of_getElem? (i := 6) rfl)))) (fun _ h9 => h9) rfl dX12_leaves_91 ?_
    refine lv_iconst (v := 4) hx hb dX12_leaves_94 (by decide) ?_
    refine k_lald hx hb hK hI i_1.1 1 k_43 rfl (by unfold vp_in; decide) dX12_leaves_95 ?_
    refine k_topl (y := q_41 4) (congrArg q_41 (show Int32.toNatClampNeg 4 = 4 by decide)) ?_
    refine lv_iload_n hx hb dX12_leaves_96 rfl (lv_at hl 2 rfl) ?_
    refine lv_i2l (v := lN (p1)) hx hb dX12_leaves_97 (nI_l (by omega)) ?_
    refine W.lcmp hx hb dX12_leaves_98 ?_
    refine lv_if_ne (tgt := 108) hx hb dX12_leaves_99 (by decide) (fun c_57 => ?_) (fun c_57 => ?_)
    · have c_57 := ln_eq rfl (lN_toInt (n := p1) (by omega)) (fun h9 => c_57 ((lg_cmp_eq _ _).mpr h9))
      refine lv_aload_n hx hb dX12_leaves_108 rfl (lv_at hl 1 rfl) ?_
      refine k_get (ci := 12) (v := .ref (gr g h0 4)) (C := RX12) (T := TX12) (N := 27) hx hb hts (fun _ h0_ => List.mem_cons_of_mem _ (List.mem_append_right _ (List.mem_append_right _ (List.mem_append_right _ (List.mem_append_left _ h0_))))) hown hK hI i_h0.1 k_44 rfl 4 (by decide) (hts (.fieldLink RX12 16 "DeadlineShareModel" "row" "[J") (List.mem_cons_of_mem _ (List.mem_append_left _ (List.mem_of_getElem? (i := 6) rfl)))) (fun _ h9 => h9) rfl dX12_leaves_109 ?_
      refine lv_iconst (v := 4) hx hb dX12_leaves_112 (by decide) ?_
      refine k_lald hx hb hK hI i_1.1 1 k_43 rfl (by unfold vp_in; decide) dX12_leaves_113 ?_
      refine k_topl (y := q_41 4) (congrArg q_41 (show Int32.toNatClampNeg 4 = 4 by decide)) ?_
      refine k_last hx hb hK hI hS i_1.1 1 k_43 rfl (by unfold vp_in; decide) (cl_32 i_1) dX12_leaves_114 (fun f_60 H locs e_61 hI hS => ?_)
      generalize eq_62 : vp_updL q_41 (Int32.toNatClampNeg 4) (q_41 4) = q_62 at e_61
      have k_64 : f_60 (gr g h0 4) = .inl (gc g 1, 906, .inr (.inl q_62)) := by rw [e_61]; exact va_up_self _ _ _
      have k_65 : f_60 h0 = .inr (12, [.int x_6, .int x_7, .ref (gr g h0 2), .ref (gr g h0 3), .ref (gr g h0 4), .ref (gr g h0 5), .ref (gr g h0 6), .ref (gr g h0 7), .ref (gr g h0 8), .ref (gr g h0 9), .int x_8, .ref (gr g h0 11), .int x_9, .int x_10, .int x_11, .int x_12, .long x_13, .int x_14, .int x_15, .ref (gr g h0 19), .ref (gr g h0 20), .ref (gr g h0 21), .ref (gr g h0 22), .int x_16, .long x_17, .long x_18, .long x_19]) := by rw [e_61, va_up_ne _ _ (ik_ne i_h0 i_1 (by decide))]; exact k_44
      have kp_63 := Kp.put kp_42 i_1 (by decide) e_61
      have u_66 : vp_updL q_41 4 (q_41 4) = q_62 := by rw [← eq_62, show Int32.toNatClampNeg 4 = 4 from (show Int32.toNatClampNeg 4 = 4 by decide)]
      have ok_67 : RowOK q_62 := by rw [← u_66]; exact rk_upd ok_46 (by refine ⟨⟨by omega, by omega, by omega, by omega, by omega⟩, fun t9 ht9 => ⟨by omega, by omega, by omega, by omega, by omega, by omega⟩, fun t9 k9 ht9 hk9 => ⟨by omega, by omega, by omega⟩, by omega⟩)
      have d_68 := rk_hd ok_67
      have n_69 : (q_62 0).toInt = (q_41 0).toInt := by rw [← u_66, pk_uLn (by omega)]
      have n_70 : (q_62 1).toInt = (q_41 1).toInt := by rw [← u_66, pk_uLn (by omega)]
      have n_71 : (q_62 3).toInt = (q_41 3).toInt := by rw [← u_66, pk_uLn (by omega)]
      have n_72 : (q_62 4).toInt = Int64.toInt (q_41 4) := by rw [← u_66, pk_uLs]
      have n_73 : (q_62 5).toInt = (q_41 5).toInt := by rw [← u_66, pk_uLn (by omega)]
      exact W.vret hx hb hr (fun t ht hW => ⟨⟨(), rfl, trivial, ⟨f_60, k_ret ht hI, kp_63, q_62, k_64, ok_67, (by first | omega | decide), (by first | omega | decide)⟩⟩, hS.F ht⟩) hS.2.2 dX12_leaves_115
    · have c_57 := lc_eq rfl (lN_toInt (n := p1) (by omega)) ((lg_cmp_eq _ _).mp c_57)
      refine lv_ldc2 hx hb hown (hts (.constantLong RX12 65 (-1)) (List.mem_cons_of_mem _ (List.mem_append_left _ (List.mem_of_getElem? (i := 7) rfl)))) dX12_leaves_102 ?_
      refine lv_goto (tgt := 114) hx hb dX12_leaves_105 (by decide) ?_
      refine k_last hx hb hK hI hS i_1.1 1 k_43 rfl (by unfold vp_in; decide) (cl_32 i_1) dX12_leaves_114 (fun f_74 H locs e_75 hI hS => ?_)
      generalize eq_76 : vp_updL q_41 (Int32.toNatClampNeg 4) (-1) = q_76 at e_75
      have k_78 : f_74 (gr g h0 4) = .inl (gc g 1, 906, .inr (.inl q_76)) := by rw [e_75]; exact va_up_self _ _ _
      have k_79 : f_74 h0 = .inr (12, [.int x_6, .int x_7, .ref (gr g h0 2), .ref (gr g h0 3), .ref (gr g h0 4), .ref (gr g h0 5), .ref (gr g h0 6), .ref (gr g h0 7), .ref (gr g h0 8), .ref (gr g h0 9), .int x_8, .ref (gr g h0 11), .int x_9, .int x_10, .int x_11, .int x_12, .long x_13, .int x_14, .int x_15, .ref (gr g h0 19), .ref (gr g h0 20), .ref (gr g h0 21), .ref (gr g h0 22), .int x_16, .long x_17, .long x_18, .long x_19]) := by rw [e_75, va_up_ne _ _ (ik_ne i_h0 i_1 (by decide))]; exact k_44
      have kp_77 := Kp.put kp_42 i_1 (by decide) e_75
      have u_80 : vp_updL q_41 4 (-1) = q_76 := by rw [← eq_76, show Int32.toNatClampNeg 4 = 4 from (show Int32.toNatClampNeg 4 = 4 by decide)]
      have ok_81 : RowOK q_76 := by rw [← u_80]; exact rk_upd ok_46 (by rw [show Int64.toInt (-1) = (-1) from by decide]; refine ⟨⟨by omega, by omega, by omega, by omega, by omega⟩, fun t9 ht9 => ⟨by omega, by omega, by omega, by omega, by omega, by omega⟩, fun t9 k9 ht9 hk9 => ⟨by omega, by omega, by omega⟩, by omega⟩)
      have d_82 := rk_hd ok_81
      have n_83 : (q_76 0).toInt = (q_41 0).toInt := by rw [← u_80, pk_uLn (by omega)]
      have n_84 : (q_76 1).toInt = (q_41 1).toInt := by rw [← u_80, pk_uLn (by omega)]
      have n_85 : (q_76 3).toInt = (q_41 3).toInt := by rw [← u_80, pk_uLn (by omega)]
      have n_86 : (q_76 4).toInt = Int64.toInt (-1) := by rw [← u_80, pk_uLs]
      have n_87 : (q_76 5).toInt = (q_41 5).toInt := by rw [← u_80, pk_uLn (by omega)]
      exact W.vret hx hb hr (fun t ht hW => ⟨⟨(), rfl, trivial, ⟨f_74, k_ret ht hI, kp_77, q_76, k_78, ok_81, (by first | omega | decide), (by first | omega | decide)⟩⟩, hS.F ht⟩) hS.2.2 dX12_leaves_115
  refine lv_if_eq (tgt := 76) hx hb dX12_leaves_10 (by decide) (fun c_88 => ?_) (fun c_88 => ?_)
  · have c_88 := kc_eq rfl (by decide : Int32.toInt 0 = 0) c_88
    exact J_76 q f _ _ _ hI hS hc0 hc0_ok k_5 hk0 (by first | omega | decide) (by first | omega | decide) (lv_sub hl [0, 1, 2] rfl)
  · have c_88 := kn_eq rfl (by decide : Int32.toInt 0 = 0) c_88
    refine lv_aload_n hx hb dX12_leaves_13 rfl (lv_at hl 1 rfl) ?_
    refine k_get (ci := 12) (v := .ref (gr g h0 4)) (C := RX12) (T := TX12) (N := 27) hx hb hts (fun _ h0_ => List.mem_cons_of_mem _ (List.mem_append_right _ (List.mem_append_right _ (List.mem_append_right _ (List.mem_append_left _ h0_))))) hown hK hI i_h0.1 k_5 rfl 4 (by decide) (hts (.fieldLink RX12 16 "DeadlineShareModel" "row" "[J") (List.mem_cons_of_mem _ (List.mem_append_left _ (List.mem_of_getElem? (i := 6) rfl)))) (fun _ h9 => h9) rfl dX12_leaves_14 ?_
    refine lv_iload_n hx hb dX12_leaves_17 rfl (lv_at hl 0 rfl) ?_
    refine lv_bipush (v := 11) hx hb dX12_leaves_18 (by decide) ?_
    refine lv_iadd hx hb dX12_leaves_20 ?_
    refine k_topi (y := nI (6 + 43 * p1 + 11)) ((nI_add (6 + 43 * p1) 11).trans (congrArg nI (by omega))) ?_
    refine lv_aload_n hx hb dX12_leaves_21 rfl (lv_at hl 1 rfl) ?_
    refine lv_iload_n hx hb dX12_leaves_22 rfl (lv_at hl 2 rfl) ?_
    refine va_calll (va_runV (As := [.int (nI p1)]) (rest := [.int (nI (6 + 43 * p1 + 11)), .ref (gr g h0 4)]) ⟨hx, hb, hml, hown, hts⟩ (c_X12_lag l dC dI g A hG f h0 p1 q i_h0 hc0 hc0_ok (by first | omega | decide | (simp only [k_c0, k_c1, k_cm1]; omega))) (cwV 1 hts (gi_V (fun w_ h0_ => ⟨List.mem_cons_of_mem _ (List.mem_append_right _ (List.mem_append_right _ (List.mem_append_right _ (List.mem_append_right _ (List.mem_append_left _ h0_))))), (tb_c_X12_lag w_ h0_).2⟩) (List.mem_cons_of_mem _ (List.mem_append_left _ (List.mem_of_getElem? (i := 8) rfl))) (List.mem_cons_of_mem _ (List.mem_append_left _ (List.mem_of_getElem? (i := 9) rfl))) (List.mem_cons_of_mem _ (List.mem_append_left _ (List.mem_of_getElem? (i := 10) rfl))) (List.mem_cons_of_mem _ (List.mem_append_left _ (List.mem_of_getElem? (i := 2) rfl)))) rfl rfl rfl (by decide +kernel) ⟨Nat.le_of_ble_eq_true rfl, Nat.le_of_ble_eq_true rfl⟩) ⟨fun a U g mk q => ⟨q.1, q.2.calling rfl rfl⟩, k_recv hK hI i_h0.1 k_5 (ci := 12) rfl, fun U hU hW => ⟨rfl, kIn.of hI hK hE hS hU hW⟩⟩ rfl rfl hl.1 rfl (lv_room (Nat.le_of_ble_eq_true rfl)) dX12_leaves_23 ⟨Nat.le_of_ble_eq_true rfl, Nat.le_of_ble_eq_true rfl⟩) hS (fun q _ h => h) (fun q h => h) (fun r_92 u t H1 locs ht hvm w_91 hB hz1 hk1 hS => ?_)
    have hI : Iv dC dI g A f t.heap := hB
    rw [ht] at hI
    generalize H1 = H at hI hS ⊢
    refine W.widen (k := 0) (n := 0) (Nat.le_of_ble_eq_true rfl) (Nat.le_of_ble_eq_true rfl) ?_
    refine k_last hx hb hK hI hS i_1.1 1 hc0 rfl (vp_in_nI (by omega) (by omega)) (cl_32 i_1) dX12_leaves_26 (fun f_93 H locs e_94 hI hS => ?_)
    generalize eq_95 : vp_updL q (Int32.toNatClampNeg (nI (6 + 43 * p1 + 11))) r_92 = q_95 at e_94
    have k_97 : f_93 (gr g h0 4) = .inl (gc g 1, 906, .inr (.inl q_95)) := by rw [e_94]; exact va_up_self _ _ _
    have k_98 : f_93 h0 = .inr (12, [.int x_6, .int x_7, .ref (gr g h0 2), .ref (gr g h0 3), .ref (gr g h0 4), .ref (gr g h0 5), .ref (gr g h0 6), .ref (gr g h0 7), .ref (gr g h0 8), .ref (gr g h0 9), .int x_8, .ref (gr g h0 11), .int x_9, .int x_10, .int x_11, .int x_12, .long x_13, .int x_14, .int x_15, .ref (gr g h0 19), .ref (gr g h0 20), .ref (gr g h0 21), .ref (gr g h0 22), .int x_16, .long x_17, .long x_18, .long x_19]) := by rw [e_94, va_up_ne _ _ (ik_ne i_h0 i_1 (by decide))]; exact k_5
    have kp_96 := Kp.put hk0 i_1 (by decide) e_94
    have u_99 : vp_updL q (6 + 43 * p1 + 11) r_92 = q_95 := by rw [← eq_95, show Int32.toNatClampNeg (nI (6 + 43 * p1 + 11)) = 6 + 43 * p1 + 11 from (nI_clamp (by omega))]
    have ok_100 : RowOK q_95 := by rw [← u_99]; exact rk_upd hc0_ok (by refine ⟨⟨by omega, by omega, by omega, by omega, by omega⟩, fun t9 ht9 => ⟨by omega, by omega, by omega, by omega, by omega, by omega⟩, fun t9 k9 ht9 hk9 => ⟨by omega, by omega, by omega⟩, by omega⟩)
    have d_101 := rk_hd ok_100
    have n_102 : (q_95 0).toInt = (q 0).toInt := by rw [← u_99, pk_uLn (by omega)]
    have n_103 : (q_95 1).toInt = (q 1).toInt := by rw [← u_99, pk_uLn (by omega)]
    have n_104 : (q_95 3).toInt = (q 3).toInt := by rw [← u_99, pk_uLn (by omega)]
    have n_105 : (q_95 4).toInt = (q 4).toInt := by rw [← u_99, pk_uLn (by omega)]
    have n_106 : (q_95 5).toInt = (q 5).toInt := by rw [← u_99, pk_uLn (by omega)]
    refine lv_aload_n hx hb dX12_leaves_27 rfl (lv_at hl 1 rfl) ?_
    refine k_get (ci := 12) (v := .ref (gr g h0 4)) (C := RX12) (T := TX12) (N := 27) hx hb hts (fun _ h0_ => List.mem_cons_of_mem _ (List.mem_append_right _ (List.mem_append_right _ (List.mem_append_right _ (List.mem_append_left _ h0_))))) hown hK hI i_h0.1 k_98 rfl 4 (by decide) (hts (.fieldLink RX12 16 "DeadlineShareModel" "row" "[J") (List.mem_cons_of_mem _ (List.mem_append_left _ (List.mem_of_getElem? (i := 6) rfl)))) (fun _ h9 => h9) rfl dX12_leaves_28 ?_
    refine lv_iload_n hx hb dX12_leaves_31 rfl (lv_at hl 0 rfl) ?_
    refine lv_bipush (v := 12) hx hb dX12_leaves_32 (by decide) ?_
    refine lv_iadd hx hb dX12_leaves_34 ?_
    refine k_topi (y := nI (6 + 43 * p1 + 12)) ((nI_add (6 + 43 * p1) 12).trans (congrArg nI (by omega))) ?_
    refine lv_aload_n hx hb dX12_leaves_35 rfl (lv_at hl 1 rfl) ?_
    refine va_calll (va_runV (As := []) (rest := [.int (nI (6 + 43 * p1 + 12)), .ref (gr g h0 4)]) ⟨hx, hb, hml, hown, hts⟩ (c_X12_heavy l dC dI g A hG f_93 h0 q_95 i_h0 k_97 ok_100) (cwV 0 hts (gi_V (fun w_ h0_ => ⟨List.mem_cons_of_mem _ (List.mem_append_right _ (List.mem_append_right _ (List.mem_append_right _ (List.mem_append_right _ (List.mem_append_right _ (List.mem_append_left _ h0_)))))), (tb_c_X12_heavy w_ h0_).2⟩) (List.mem_cons_of_mem _ (List.mem_append_left _ (List.mem_of_getElem? (i := 11) rfl))) (List.mem_cons_of_mem _ (List.mem_append_left _ (List.mem_of_getElem? (i := 12) rfl))) (List.mem_cons_of_mem _ (List.mem_append_left _ (List.mem_of_getElem? (i := 13) rfl))) (List.mem_cons_of_mem _ (List.mem_append_left _ (List.mem_of_getElem? (i := 2) rfl)))) rfl rfl rfl (by decide +kernel) ⟨Nat.le_of_ble_eq_true rfl, Nat.le_of_ble_eq_true rfl⟩) ⟨fun a U g mk q => ⟨q.1, q.2.calling rfl rfl⟩, k_recv hK hI i_h0.1 k_98 (ci := 12) rfl, fun U hU hW => ⟨rfl, kIn.of hI hK hE hS hU hW⟩⟩ rfl rfl hl.1 rfl (lv_room (Nat.le_of_ble_eq_true rfl)) dX12_leaves_36 ⟨Nat.le_of_ble_eq_true rfl, Nat.le_of_ble_eq_true rfl⟩) hS (fun q _ h => h) (fun q h => h) (fun r_110 u t H1 locs ht hvm w_109 hB hz1 hk1 hS => ?_)
    have hI : Iv dC dI g A f_93 t.heap := hB
    rw [ht] at hI
    generalize H1 = H at hI hS ⊢
    refine W.widen (k := 0) (n := 0) (Nat.le_of_ble_eq_true rfl) (Nat.le_of_ble_eq_true rfl) ?_
    have w_109 : 0 ≤ r_110.toInt ∧ r_110.toInt ≤ 96 ∧ ∀ t : Nat, (t : Int) < (q_95 0).toInt → (q_95 (6 + 43 * t + 2)).toInt = 1 → 1 ≤ r_110.toInt := w_109
    refine k_last hx hb hK hI hS i_1.1 1 k_97 rfl (vp_in_nI (by omega) (by omega)) (cl_32 i_1) dX12_leaves_39 (fun f_111 H locs e_112 hI hS => ?_)
    generalize eq_113 : vp_updL q_95 (Int32.toNatClampNeg (nI (6 + 43 * p1 + 12))) r_110 = q_113 at e_112
    have k_115 : f_111 (gr g h0 4) = .inl (gc g 1, 906, .inr (.inl q_113)) := by rw [e_112]; exact va_up_self _ _ _
    have k_116 : f_111 h0 = .inr (12, [.int x_6, .int x_7, .ref (gr g h0 2), .ref (gr g h0 3), .ref (gr g h0 4), .ref (gr g h0 5), .ref (gr g h0 6), .ref (gr g h0 7), .ref (gr g h0 8), .ref (gr g h0 9), .int x_8, .ref (gr g h0 11), .int x_9, .int x_10, .int x_11, .int x_12, .long x_13, .int x_14, .int x_15, .ref (gr g h0 19), .ref (gr g h0 20), .ref (gr g h0 21), .ref (gr g h0 22), .int x_16, .long x_17, .long x_18, .long x_19]) := by rw [e_112, va_up_ne _ _ (ik_ne i_h0 i_1 (by decide))]; exact k_98
    have kp_114 := Kp.put kp_96 i_1 (by decide) e_112
    have u_117 : vp_updL q_95 (6 + 43 * p1 + 12) r_110 = q_113 := by rw [← eq_113, show Int32.toNatClampNeg (nI (6 + 43 * p1 + 12)) = 6 + 43 * p1 + 12 from (nI_clamp (by omega))]
    have ok_118 : RowOK q_113 := by rw [← u_117]; exact rk_upd ok_100 (by refine ⟨⟨by omega, by omega, by omega, by omega, by omega⟩, fun t9 ht9 => ⟨by omega, by omega, by omega, by omega, by omega, by omega⟩, fun t9 k9 ht9 hk9 => ⟨by omega, by omega, by omega⟩, by omega⟩)
    have d_119 := rk_hd ok_118
    have n_120 : (q_113 0).toInt = (q_95 0).toInt := by rw [← u_117, pk_uLn (by omega)]
    have n_121 : (q_113 1).toInt = (q_95 1).toInt := by rw [← u_117, pk_uLn (by omega)]
    have n_122 : (q_113 3).toInt = (q_95 3).toInt := by rw [← u_117, pk_uLn (by omega)]
    have n_123 : (q_113 4).toInt = (q_95 4).toInt := by rw [← u_117, pk_uLn (by omega)]
    have n_124 : (q_113 5).toInt = (q_95 5).toInt := by rw [← u_117, pk_uLn (by omega)]
    refine lv_aload_n hx hb dX12_leaves_40 rfl (lv_at hl 1 rfl) ?_
    refine k_get (ci := 12) (v := .ref (gr g h0 4)) (C := RX12) (T := TX12) (N := 27) hx hb hts (fun _ h0_ => List.mem_cons_of_mem _ (List.mem_append_right _ (List.mem_append_right _ (List.mem_append_right _ (List.mem_append_left _ h0_))))) hown hK hI i_h0.1 k_116 rfl 4 (by decide) (hts (.fieldLink RX12 16 "DeadlineShareModel" "row" "[J") (List.mem_cons_of_mem _ (List.mem_append_left _ (List.mem_of_getElem? (i := 6) rfl)))) (fun _ h9 => h9) rfl dX12_leaves_41 ?_
    refine lv_iconst (v := 2) hx hb dX12_leaves_44 (by decide) ?_
    refine lv_aload_n hx hb dX12_leaves_45 rfl (lv_at hl 1 rfl) ?_
    refine va_calll (va_runV (As := []) (rest := [.int 2, .ref (gr g h0 4)]) ⟨hx, hb, hml, hown, hts⟩ (c_X12_heavy l dC dI g A hG f_111 h0 q_113 i_h0 k_115 ok_118) (cwV 0 hts (gi_V (fun w_ h0_ => ⟨List.mem_cons_of_mem _ (List.mem_append_right _ (List.mem_append_right _ (List.mem_append_right _ (List.mem_append_right _ (List.mem_append_right _ (List.mem_append_left _ h0_)))))), (tb_c_X12_heavy w_ h0_).2⟩) (List.mem_cons_of_mem _ (List.mem_append_left _ (List.mem_of_getElem? (i := 11) rfl))) (List.mem_cons_of_mem _ (List.mem_append_left _ (List.mem_of_getElem? (i := 12) rfl))) (List.mem_cons_of_mem _ (List.mem_append_left _ (List.mem_of_getElem? (i := 13) rfl))) (List.mem_cons_of_mem _ (List.mem_append_left _ (List.mem_of_getElem? (i := 2) rfl)))) rfl rfl rfl (by decide +kernel) ⟨Nat.le_of_ble_eq_true rfl, Nat.le_of_ble_eq_true rfl⟩) ⟨fun a U g mk q => ⟨q.1, q.2.calling rfl rfl⟩, k_recv hK hI i_h0.1 k_116 (ci := 12) rfl, fun U hU hW => ⟨rfl, kIn.of hI hK hE hS hU hW⟩⟩ rfl rfl hl.1 rfl (lv_room (Nat.le_of_ble_eq_true rfl)) dX12_leaves_46 ⟨Nat.le_of_ble_eq_true rfl, Nat.le_of_ble_eq_true rfl⟩) hS (fun q _ h => h) (fun q h => h) (fun r_128 u t H1 locs ht hvm w_127 hB hz1 hk1 hS => ?_)
    have hI : Iv dC dI g A f_111 t.heap := hB
    rw [ht] at hI
    generalize H1 = H at hI hS ⊢
    refine W.widen (k := 0) (n := 0) (Nat.le_of_ble_eq_true rfl) (Nat.le_of_ble_eq_true rfl) ?_
    have w_127 : 0 ≤ r_128.toInt ∧ r_128.toInt ≤ 96 ∧ ∀ t : Nat, (t : Int) < (q_113 0).toInt → (q_113 (6 + 43 * t + 2)).toInt = 1 → 1 ≤ r_128.toInt := w_127
    refine lv_aload_n hx hb dX12_leaves_49 rfl (lv_at hl 1 rfl) ?_
    refine k_get (ci := 12) (v := .ref (gr g h0 4)) (C := RX12) (T := TX12) (N := 27) hx hb hts (fun _ h0_ => List.mem_cons_of_mem _ (List.mem_append_right _ (List.mem_append_right _ (List.mem_append_right _ (List.mem_append_left _ h0_))))) hown hK hI i_h0.1 k_116 rfl 4 (by decide) (hts (.fieldLink RX12 16 "DeadlineShareModel" "row" "[J") (List.mem_cons_of_mem _ (List.mem_append_left _ (List.mem_of_getElem? (i := 6) rfl)))) (fun _ h9 => h9) rfl dX12_leaves_50 ?_
    refine lv_iload_n hx hb dX12_leaves_53 rfl (lv_at hl 0 rfl) ?_
    refine lv_iconst (v := 0) hx hb dX12_leaves_54 (by decide) ?_
    refine lv_iadd hx hb dX12_leaves_55 ?_
    refine k_topi (y := nI (6 + 43 * p1)) ((nI_add (6 + 43 * p1) 0).trans (congrArg nI (by omega))) ?_
    refine k_lald hx hb hK hI i_1.1 1 k_115 rfl (vp_in_nI (by omega) (by omega)) dX12_leaves_56 ?_
    refine k_topl (y := q_113 (6 + 43 * p1)) (congrArg q_113 (nI_clamp (by omega))) ?_
    have d_131 := rk_0 ok_118 (t := p1) (by omega)
    refine W.lcmp hx hb dX12_leaves_57 ?_
    have J_75 : ∀ (y_132 : Int64) (H : Heap) (locs : List Loc) (ls : Array Slot), Iv dC dI g A f_111 H → va_S A s.heap H locs → lv_has ls 3 [(2, .int (nI (6 + 43 * p1))), (0, .ref h0), (1, .int (nI p1))] → W p l e (headSpec wq_c_X12_leaves ({ frames := 4, cells := 0, slots := 0, locals := 85 } : Room)).room s m ([.ref h0, .int (nI p1)].toArray) below meth c H locs 0 0 (MQ below (va_Qv (fun (_ : Unit) => True) (fun (_ : Unit) t => ∃ f1 : Nat → va_E, Iv dC dI g A f1 t.heap ∧ Kp g [32] f f1 ∧ ∃ (q1 : Nat → Int64), (f1 (gr g h0 4) = .inl (gc g 1, 906, .inr (.inl q1))) ∧ (RowOK q1) ∧ ((q1 0).toInt = (q 0).toInt) ∧ ((q1 1).toInt = (q 1).toInt)) A) ([.ref h0, .int (nI p1)].toArray) s 0 0 A) (F0 m 75 ls [.long y_132, .int 2, .ref (gr g h0 4)]) := by
      intro y_132 H locs ls hI hS  hl
      refine k_last hx hb hK hI hS i_1.1 1 k_115 rfl (by unfold vp_in; decide) (cl_32 i_1) dX12_leaves_75 (fun f_133 H locs e_134 hI hS => ?_)
      generalize eq_135 : vp_updL q_113 (Int32.toNatClampNeg 2) y_132 = q_135 at e_134
      have k_137 : f_133 (gr g h0 4) = .inl (gc g 1, 906, .inr (.inl q_135)) := by rw [e_134]; exact va_up_self _ _ _
      have k_138 : f_133 h0 = .inr (12, [.int x_6, .int x_7, .ref (gr g h0 2), .ref (gr g h0 3), .ref (gr g h0 4), .ref (gr g h0 5), .ref (gr g h0 6), .ref (gr g h0 7), .ref (gr g h0 8), .ref (gr g h0 9), .int x_8, .ref (gr g h0 11), .int x_9, .int x_10, .int x_11, .int x_12, .long x_13, .int x_14, .int x_15, .ref (gr g h0 19), .ref (gr g h0 20), .ref (gr g h0 21), .ref (gr g h0 22), .int x_16, .long x_17, .long x_18, .long x_19]) := by rw [e_134, va_up_ne _ _ (ik_ne i_h0 i_1 (by decide))]; exact k_116
      have kp_136 := Kp.put kp_114 i_1 (by decide) e_134
      have u_139 : vp_updL q_113 2 y_132 = q_135 := by rw [← eq_135, show Int32.toNatClampNeg 2 = 2 from (show Int32.toNatClampNeg 2 = 2 by decide)]
      have ok_140 : RowOK q_135 := by rw [← u_139]; exact rk_upd ok_118 (by refine ⟨⟨by omega, by omega, by omega, by omega, by omega⟩, fun t9 ht9 => ⟨by omega, by omega, by omega, by omega, by omega, by omega⟩, fun t9 k9 ht9 hk9 => ⟨by omega, by omega, by omega⟩, by omega⟩)
      have d_141 := rk_hd ok_140
      have n_142 : (q_135 0).toInt = (q_113 0).toInt := by rw [← u_139, pk_uLn (by omega)]
      have n_143 : (q_135 1).toInt = (q_113 1).toInt := by rw [← u_139, pk_uLn (by omega)]
      have n_144 : (q_135 3).toInt = (q_113 3).toInt := by rw [← u_139, pk_uLn (by omega)]
      have n_145 : (q_135 4).toInt = (q_113 4).toInt := by rw [← u_139, pk_uLn (by omega)]
      have n_146 : (q_135 5).toInt = (q_113 5).toInt := by rw [← u_139, pk_uLn (by omega)]
      exact J_76 q_135 f_133 _ _ _ hI hS k_137 ok_140 k_138 kp_136 (by first | omega | decide) (by first | omega | decide) (lv_sub hl [0, 1, 2] rfl)
    refine lv_if_ne (tgt := 69) hx hb dX12_leaves_58 (by decide) (fun c_147 => ?_) (fun c_147 => ?_)
    · have c_147 := ln_eq rfl rfl (fun h9 => c_147 ((lg_cmp_eq _ _).mpr h9))
      refine lv_aload_n hx hb dX12_leaves_69 rfl (lv_at hl 1 rfl) ?_
      refine k_get (ci := 12) (v := .ref (gr g h0 4)) (C := RX12) (T := TX12) (N := 27) hx hb hts (fun _ h0_ => List.mem_cons_of_mem _ (List.mem_append_right _ (List.mem_append_right _ (List.mem_append_right _ (List.mem_append_left _ h0_))))) hown hK hI i_h0.1 k_116 rfl 4 (by decide) (hts (.fieldLink RX12 16 "DeadlineShareModel" "row" "[J") (List.mem_cons_of_mem _ (List.mem_append_left _ (List.mem_of_getElem? (i := 6) rfl)))) (fun _ h9 => h9) rfl dX12_leaves_70 ?_
      refine lv_iconst (v := 2) hx hb dX12_leaves_73 (by decide) ?_
      refine k_lald hx hb hK hI i_1.1 1 k_115 rfl (by unfold vp_in; decide) dX12_leaves_74 ?_
      refine k_topl (y := q_113 2) (congrArg q_113 (show Int32.toNatClampNeg 2 = 2 by decide)) ?_
      exact J_75 (q_113 2) _ _ _ hI hS  (lv_sub hl [0, 1, 2] rfl)
    · have c_147 := lc_eq rfl rfl ((lg_cmp_eq _ _).mp c_147)
      refine lv_aload_n hx hb dX12_leaves_61 rfl (lv_at hl 1 rfl) ?_
      refine lv_iload_n hx hb dX12_leaves_62 rfl (lv_at hl 2 rfl) ?_
      refine va_calll (va_runV (As := [.int (nI p1)]) (rest := [.int 2, .ref (gr g h0 4)]) ⟨hx, hb, hml, hown, hts⟩ (c_X12_virtual l dC dI g A hG f_111 h0 p1 q_113 i_h0 k_115 ok_118 (by first | omega | decide | (simp only [k_c0, k_c1, k_cm1]; omega))) (cwV 1 hts (gi_V (fun w_ h0_ => ⟨List.mem_cons_of_mem _ (List.mem_append_right _ (List.mem_append_right _ (List.mem_append_right _ (List.mem_append_right _ (List.mem_append_right _ (List.mem_append_right _ (List.mem_append_left _ h0_))))))), (tb_c_X12_virtual w_ h0_).2⟩) (List.mem_cons_of_mem _ (List.mem_append_left _ (List.mem_of_getElem? (i := 14) rfl))) (List.mem_cons_of_mem _ (List.mem_append_left _ (List.mem_of_getElem? (i := 15) rfl))) (List.mem_cons_of_mem _ (List.mem_append_left _ (List.mem_of_getElem? (i := 16) rfl))) (List.mem_cons_of_mem _ (List.mem_append_left _ (List.mem_of_getElem? (i := 2) rfl)))) rfl rfl rfl (by decide +kernel) ⟨Nat.le_of_ble_eq_true rfl, Nat.le_of_ble_eq_true rfl⟩) ⟨fun a U g mk q => ⟨q.1, q.2.calling rfl rfl⟩, k_recv hK hI i_h0.1 k_116 (ci := 12) rfl, fun U hU hW => ⟨rfl, kIn.of hI hK hE hS hU hW⟩⟩ rfl rfl hl.1 rfl (lv_room (Nat.le_of_ble_eq_true rfl)) dX12_leaves_63 ⟨Nat.le_of_ble_eq_true rfl, Nat.le_of_ble_eq_true rfl⟩) hS (fun q _ h => h) (fun q h => h) (fun r_151 u t H1 locs ht hvm w_150 hB hz1 hk1 hS => ?_)
      have hI : Iv dC dI g A f_111 t.heap := hB
      rw [ht] at hI
      generalize H1 = H at hI hS ⊢
      refine W.widen (k := 0) (n := 0) (Nat.le_of_ble_eq_true rfl) (Nat.le_of_ble_eq_true rfl) ?_
      refine lv_goto (tgt := 75) hx hb dX12_leaves_66 (by decide) ?_
      exact J_75 r_151 _ _ _ hI hS  (lv_sub hl [0, 1, 2] rfl)
theorem tw_775 : q_g (.code yX12_weighs cX12_weighs 7 (some .boolean)) := ⟨(List.mem_append_right _ (List.mem_of_getElem? (i := 1298) (by decide +kernel))), good_of_word (by decide +kernel)⟩
def ow_c_X12_weighs : List Cond := [.methodLink RX12 87 yX12_at, .static yX12_at, .initialized RX12, .methodLink RX12 90 yX12_isOn, .instanceMethod yX12_isOn, .selects RX12 yX12_isOn yX12_isOn, .fieldLink RX12 16 "DeadlineShareModel" "row" "[J", .methodLink RX12 105 yX12_heavy, .instanceMethod yX12_heavy, .selects RX12 yX12_heavy yX12_heavy, .constantLong RX12 110 (24), .methodLink RX12 101 yX12_sum, .instanceMethod yX12_sum, .selects RX12 yX12_sum yX12_sum, .methodLink RX12 119 yX12_lag, .instanceMethod yX12_lag, .selects RX12 yX12_lag yX12_lag, .methodLink RX12 115 yX12_down, .static yX12_down]
def wq_c_X12_weighs : List Cond := .code yX12_weighs cX12_weighs 7 (some .boolean) :: (ow_c_X12_weighs ++ (wq_c_X12_at ++ (wq_c_X12_isOn ++ (u_ws RX12 TX12 27 ++ (wq_c_X12_heavy ++ (wq_c_X12_sum ++ (wq_c_X12_lag ++ (wq_c_X12_down ++ ([] : List Cond)))))))))
theorem tb_c_X12_weighs : ∀ w ∈ wq_c_X12_weighs, q_g w := by
  unfold wq_c_X12_weighs ow_c_X12_weighs
  exact q_cons tw_775 (q_app (q_cons tw_734 (q_cons tw_733 (q_cons tw_728 (q_cons tw_744 (q_cons tw_743 (q_cons tw_742 (q_cons tw_731 (q_cons tw_752 (q_cons tw_751 (q_cons tw_750 (q_cons tw_760 (q_cons tw_755 (q_cons tw_754 (q_cons tw_753 (q_cons tw_772 (q_cons tw_771 (q_cons tw_770 (q_cons tw_765 (q_cons tw_764 q_nil))))))))))))))))))) (q_app tb_c_X12_at (q_app tb_c_X12_isOn (q_app tu_X12 (q_app tb_c_X12_heavy (q_app tb_c_X12_sum (q_app tb_c_X12_lag (q_app tb_c_X12_down q_nil))))))))
set_option maxHeartbeats 4000000 in
set_option maxRecDepth 100000 in
theorem c_X12_weighs (l : Launch) (dC : Nat → ClassId) (dI : Nat → Nat → Nat) (g : kG) (A : Nat → Prop) (hG : kWf g) (f : Nat → va_E) (h0 : Nat) (p1 : Nat) (p2 : Int64) (q : Nat → Int64) (i_h0 : ik g 12 h0) (hc0 : f (gr g h0 4) = .inl (gc g 1, 906, .inr (.inl q))) (hc0_ok : RowOK q) (ht : (p1 : Int) < (q 0).toInt) (hn : 1 ≤ p2.toInt ∧ p2.toInt ≤ 8) : Met l yX12_weighs wq_c_X12_weighs ({ frames := 4, cells := 0, slots := 0, locals := 85 } : Room) (va_Pc [.ref h0, .int (nI p1), .long p2] (fun U => kIn dC dI g A f U)) (va_Qi (fun (r : Int32) (_ : Unit) => True) (fun (_ : Unit) t => ∃ f1 : Nat → va_E, Iv dC dI g A f1 t.heap ∧ Kp g [32] f f1 ∧ ∃ (q1 : Nat → Int64), (f1 (gr g h0 4) = .inl (gc g 1, 906, .inr (.inl q1))) ∧ (RowOK q1) ∧ ((q1 0).toInt = (q 0).toInt) ∧ ((q1 1).toInt = (q 1).toInt) ∧ (∀ j : Nat, 11 ≤ j → j < 43 → q1 (6 + 43 * p1 + j) = q (6 + 43 * p1 + j))) A) 0 0 A := by
  refine Met.ofW (cc := cX12_weighs) (maxL := 7) (ret := (some .boolean)) (by decide) rfl ?_
  intro p e s m args below meth c s₁ B hml hv
  obtain ⟨rfl, hI, hK, hE⟩ := hv
  have hx := B.exec
  have hb := B.bytes
  have hr := B.returns
  have hts := atoms_spec (ws := wq_c_X12_weighs) B.pre
  have hown : s.vm.findClass RX12 = some m.cls := findClass_of_methodNamed B.named
  have hlocks := B.notSynchronized
  have hS : va_S A s.heap s.heap [] := va_S.rf
  have hk0 : Kp g [32] f f := Kp.rf
  have hl := lv_entry ([.ref h0, .int (nI p1), .long p2]) (n := 7) (Nat.le_of_ble_eq_true rfl)
  rw [lg_entry_eq]
  generalize (lg_sl ([.ref h0, .int (nI p1), .long p2]) ++ List.replicate (7 - (lg_sl ([.ref h0, .int (nI p1), .long p2])).length) Slot.unset).toArray = ls at hl ⊢
  have hl : lv_has ls 7 [(0, .ref h0), (1, .int (nI p1)), (2, .long p2)] := hl
  have i_1 := kw_12_4 hG i_h0
  have d_2 := rk_hd hc0_ok
  refine lv_iload_n hx hb dX12_weighs_0 rfl (lv_at hl 1 rfl) ?_
  refine va_calli (va_runS (As := [.int (nI p1)]) (rest := []) ⟨hx, hb, hml, hown, hts⟩ (c_X12_at l dC dI g A hG f p1) (va_cwS 1 hts (gi_S (fun w_ h0_ => ⟨List.mem_cons_of_mem _ (List.mem_append_right _ (List.mem_append_left _ h0_)), (tb_c_X12_at w_ h0_).2⟩) (List.mem_cons_of_mem _ (List.mem_append_left _ (List.mem_of_getElem? (i := 0) rfl))) (List.mem_cons_of_mem _ (List.mem_append_left _ (List.mem_of_getElem? (i := 1) rfl))) (List.mem_cons_of_mem _ (List.mem_append_left _ (List.mem_of_getElem? (i := 2) rfl)))) rfl rfl rfl (by decide +kernel) ⟨Nat.le_of_ble_eq_true rfl, Nat.le_of_ble_eq_true rfl⟩) ⟨fun a U g mk q => ⟨q.1, q.2.calling rfl rfl⟩, fun U hU hW => ⟨rfl, kIn.of hI hK hE hS hU hW⟩⟩ rfl rfl hl.1 rfl (lv_room (Nat.le_of_ble_eq_true rfl)) dX12_weighs_1 ⟨Nat.le_of_ble_eq_true rfl, Nat.le_of_ble_eq_true rfl⟩) hS (fun q _ h => h) (fun q h => h) (fun r_4 u t H1 locs ht hvm w_3 hB hz1 hk1 hS => ?_)
  have hI : Iv dC dI g A f t.heap := hB
  rw [ht] at hI
  generalize H1 = H at hI hS ⊢
  refine W.widen (k := 0) (n := 0) (Nat.le_of_ble_eq_true rfl) (Nat.le_of_ble_eq_true rfl) ?_
  have w_3 : r_4 = nI (6 + 43 * p1) := w_3
  refine k_topi (y := nI (6 + 43 * p1)) w_3 ?_
  refine lv_istore (lv' := [(4, .int (nI (6 + 43 * p1))), (0, .ref h0), (1, .int (nI p1)), (2, .long p2)]) hx hb dX12_weighs_4 hl (by decide) rfl (fun ls hl => ?_)
  refine lv_aload_n hx hb dX12_weighs_6 rfl (lv_at hl 1 rfl) ?_
  refine lv_iload_n hx hb dX12_weighs_7 rfl (lv_at hl 2 rfl) ?_
  obtain ⟨x_6, x_7, x_8, x_9, x_10, x_11, x_12, x_13, x_14, x_15, x_16, x_17, x_18, x_19, k_5, b_20, b_21, b_22, b_23, b_24, b_25⟩ := op_12 hI i_h0
  refine va_calli (va_runV (As := [.int (nI p1)]) (rest := []) ⟨hx, hb, hml, hown, hts⟩ (c_X12_isOn l dC dI g A hG f h0 p1 q i_h0 hc0 hc0_ok (by first | omega | decide | (simp only [k_c0, k_c1, k_cm1]; omega))) (cwV 1 hts (gi_V (fun w_ h0_ => ⟨List.mem_cons_of_mem _ (List.mem_append_right _ (List.mem_append_right _ (List.mem_append_left _ h0_))), (tb_c_X12_isOn w_ h0_).2⟩) (List.mem_cons_of_mem _ (List.mem_append_left _ (List.mem_of_getElem? (i := 3) rfl))) (List.mem_cons_of_mem _ (List.mem_append_left _ (List.mem_of_getElem? (i := 4) rfl))) (List.mem_cons_of_mem _ (List.mem_append_left _ (List.mem_of_getElem? (i := 5) rfl))) (List.mem_cons_of_mem _ (List.mem_append_left _ (List.mem_of_getElem? (i := 2) rfl)))) rfl rfl rfl (by decide +kernel) ⟨Nat.le_of_ble_eq_true rfl, Nat.le_of_ble_eq_true rfl⟩) ⟨fun a U g mk q => ⟨q.1, q.2.calling rfl rfl⟩, k_recv hK hI i_h0.1 k_5 (ci := 12) rfl, fun U hU hW => ⟨rfl, kIn.of hI hK hE hS hU hW⟩⟩ rfl rfl hl.1 rfl (lv_room (Nat.le_of_ble_eq_true rfl)) dX12_weighs_8 ⟨Nat.le_of_ble_eq_true rfl, Nat.le_of_ble_eq_true rfl⟩) hS (fun q _ h => h) (fun q h => h) (fun r_27 u t H1 locs ht hvm w_26 hB hz1 hk1 hS => ?_)
  have hI : Iv dC dI g A f t.heap := hB
  rw [ht] at hI
  generalize H1 = H at hI hS ⊢
  refine W.widen (k := 0) (n := 0) (Nat.le_of_ble_eq_true rfl) (Nat.le_of_ble_eq_true rfl) ?_
  have w_26 : (r_27.toInt = 0 ∧ (q (6 + 43 * p1 + 2)).toInt ≠ 1) ∨ (r_27.toInt = 1 ∧ (q (6 + 43 * p1 + 2)).toInt = 1) := w_26
  refine lv_if_eq (tgt := 72) hx hb dX12_weighs_11 (by decide) (fun c_28 => ?_) (fun c_28 => ?_)
  · have c_28 := kc_eq rfl (by decide : Int32.toInt 0 = 0) c_28
    refine lv_aload_n hx hb dX12_weighs_72 rfl (lv_at hl 1 rfl) ?_
    refine k_get (ci := 12) (v := .ref (gr g h0 4)) (C := RX12) (T := TX12) (N := 27) hx hb hts (fun _ h0_ => List.mem_cons_of_mem _ (List.mem_append_right _ (List.mem_append_right _ (List.mem_append_right _ (List.mem_append_left _ h0_))))) hown hK hI i_h0.1 k_5 rfl 4 (by decide) (hts (.fieldLink RX12 16 "DeadlineShareModel" "row" "[J") (List.mem_cons_of_mem _ (List.mem_append_left _ (List.mem_of_getElem? (i := 6) rfl)))) (fun _ h9 => h9) rfl dX12_weighs_73 ?_
    refine lv_iload hx hb dX12_weighs_76 (lv_at hl 0 rfl) ?_
    refine lv_iconst (v := 0) hx hb dX12_weighs_78 (by decide) ?_
    refine lv_iadd hx hb dX12_weighs_79 ?_
    refine k_topi (y := nI (6 + 43 * p1)) ((nI_add (6 + 43 * p1) 0).trans (congrArg nI (by omega))) ?_
    refine lv_lload_n hx hb dX12_weighs_80 rfl (lv_at hl 3 rfl) ?_
    refine k_last hx hb hK hI hS i_1.1 1 hc0 rfl (vp_in_nI (by omega) (by omega)) (cl_32 i_1) dX12_weighs_81 (fun f_31 H locs e_32 hI hS => ?_)
    generalize eq_33 : vp_updL q (Int32.toNatClampNeg (nI (6 + 43 * p1))) p2 = q_33 at e_32
    have k_35 : f_31 (gr g h0 4) = .inl (gc g 1, 906, .inr (.inl q_33)) := by rw [e_32]; exact va_up_self _ _ _
    have k_36 : f_31 h0 = .inr (12, [.int x_6, .int x_7, .ref (gr g h0 2), .ref (gr g h0 3), .ref (gr g h0 4), .ref (gr g h0 5), .ref (gr g h0 6), .ref (gr g h0 7), .ref (gr g h0 8), .ref (gr g h0 9), .int x_8, .ref (gr g h0 11), .int x_9, .int x_10, .int x_11, .int x_12, .long x_13, .int x_14, .int x_15, .ref (gr g h0 19), .ref (gr g h0 20), .ref (gr g h0 21), .ref (gr g h0 22), .int x_16, .long x_17, .long x_18, .long x_19]) := by rw [e_32, va_up_ne _ _ (ik_ne i_h0 i_1 (by decide))]; exact k_5
    have kp_34 := Kp.put hk0 i_1 (by decide) e_32
    have u_37 : vp_updL q (6 + 43 * p1) p2 = q_33 := by rw [← eq_33, show Int32.toNatClampNeg (nI (6 + 43 * p1)) = 6 + 43 * p1 from (nI_clamp (by omega))]
    have ok_38 : RowOK q_33 := by rw [← u_37]; exact rk_upd hc0_ok (by refine ⟨⟨by omega, by omega, by omega, by omega, by omega⟩, fun t9 ht9 => ⟨by omega, by omega, by omega, by omega, by omega, by omega⟩, fun t9 k9 ht9 hk9 => ⟨by omega, by omega, by omega⟩, by omega⟩)
    have d_39 := rk_hd ok_38
    have n_40 : (q_33 0).toInt = (q 0).toInt := by rw [← u_37, pk_uLn (by omega)]
    have n_41 : (q_33 1).toInt = (q 1).toInt := by rw [← u_37, pk_uLn (by omega)]
    have n_42 : (q_33 3).toInt = (q 3).toInt := by rw [← u_37, pk_uLn (by omega)]
    have n_43 : (q_33 4).toInt = (q 4).toInt := by rw [← u_37, pk_uLn (by omega)]
    have n_44 : (q_33 5).toInt = (q 5).toInt := by rw [← u_37, pk_uLn (by omega)]
    refine lv_iconst (v := 1) hx hb dX12_weighs_82 (by decide) ?_
    exact W.zret (v := 1) hx hb hr rfl (fun t ht hW => ⟨⟨1, (), rfl, trivial, ⟨f_31, k_ret ht hI, kp_34, q_33, k_35, ok_38, (by first | omega | decide), (by first | omega | decide), (fun j9 h9 h8 => by rw [← u_37, pk_uLn (by omega)])⟩⟩, hS.F ht⟩) hS.2.2 dX12_weighs_83
  · have c_28 := kn_eq rfl (by decide : Int32.toInt 0 = 0) c_28
    refine lv_aload_n hx hb dX12_weighs_14 rfl (lv_at hl 1 rfl) ?_
    refine va_calll (va_runV (As := []) (rest := []) ⟨hx, hb, hml, hown, hts⟩ (c_X12_heavy l dC dI g A hG f h0 q i_h0 hc0 hc0_ok) (cwV 0 hts (gi_V (fun w_ h0_ => ⟨List.mem_cons_of_mem _ (List.mem_append_right _ (List.mem_append_right _ (List.mem_append_right _ (List.mem_append_right _ (List.mem_append_left _ h0_))))), (tb_c_X12_heavy w_ h0_).2⟩) (List.mem_cons_of_mem _ (List.mem_append_left _ (List.mem_of_getElem? (i := 7) rfl))) (List.mem_cons_of_mem _ (List.mem_append_left _ (List.mem_of_getElem? (i := 8) rfl))) (List.mem_cons_of_mem _ (List.mem_append_left _ (List.mem_of_getElem? (i := 9) rfl))) (List.mem_cons_of_mem _ (List.mem_append_left _ (List.mem_of_getElem? (i := 2) rfl)))) rfl rfl rfl (by decide +kernel) ⟨Nat.le_of_ble_eq_true rfl, Nat.le_of_ble_eq_true rfl⟩) ⟨fun a U g mk q => ⟨q.1, q.2.calling rfl rfl⟩, k_recv hK hI i_h0.1 k_5 (ci := 12) rfl, fun U hU hW => ⟨rfl, kIn.of hI hK hE hS hU hW⟩⟩ rfl rfl hl.1 rfl (lv_room (Nat.le_of_ble_eq_true rfl)) dX12_weighs_15 ⟨Nat.le_of_ble_eq_true rfl, Nat.le_of_ble_eq_true rfl⟩) hS (fun q _ h => h) (fun q h => h) (fun r_46 u t H1 locs ht hvm w_45 hB hz1 hk1 hS => ?_)
    have hI : Iv dC dI g A f t.heap := hB
    rw [ht] at hI
    generalize H1 = H at hI hS ⊢
    refine W.widen (k := 0) (n := 0) (Nat.le_of_ble_eq_true rfl) (Nat.le_of_ble_eq_true rfl) ?_
    have w_45 : 0 ≤ r_46.toInt ∧ r_46.toInt ≤ 96 ∧ ∀ t : Nat, (t : Int) < (q 0).toInt → (q (6 + 43 * t + 2)).toInt = 1 → 1 ≤ r_46.toInt := w_45
    have d_47 := w_45.2.2 p1 (by omega) (by omega)
    refine lv_lstore (lv' := [(5, .long r_46), (4, .int (nI (6 + 43 * p1))), (0, .ref h0), (1, .int (nI p1)), (2, .long p2)]) hx hb dX12_weighs_18 hl (by decide) rfl (fun ls hl => ?_)
    refine lv_lload hx hb dX12_weighs_20 (lv_at hl 0 rfl) ?_
    refine lv_aload_n hx hb dX12_weighs_22 rfl (lv_at hl 2 rfl) ?_
    refine k_get (ci := 12) (v := .ref (gr g h0 4)) (C := RX12) (T := TX12) (N := 27) hx hb hts (fun _ h0_ => List.mem_cons_of_mem _ (List.mem_append_right _ (List.mem_append_right _ (List.mem_append_right _ (List.mem_append_left _ h0_))))) hown hK hI i_h0.1 k_5 rfl 4 (by decide) (hts (.fieldLink RX12 16 "DeadlineShareModel" "row" "[J") (List.mem_cons_of_mem _ (List.mem_append_left _ (List.mem_of_getElem? (i := 6) rfl)))) (fun _ h9 => h9) rfl dX12_weighs_23 ?_
    refine lv_iload hx hb dX12_weighs_26 (lv_at hl 1 rfl) ?_
    refine lv_iconst (v := 0) hx hb dX12_weighs_28 (by decide) ?_
    refine lv_iadd hx hb dX12_weighs_29 ?_
    refine k_topi (y := nI (6 + 43 * p1)) ((nI_add (6 + 43 * p1) 0).trans (congrArg nI (by omega))) ?_
    refine k_lald hx hb hK hI i_1.1 1 hc0 rfl (vp_in_nI (by omega) (by omega)) dX12_weighs_30 ?_
    refine k_topl (y := q (6 + 43 * p1)) (congrArg q (nI_clamp (by omega))) ?_
    have d_50 := rk_0 hc0_ok (t := p1) (by omega)
    refine lv_lsub hx hb dX12_weighs_31 ?_
    refine lv_topl (fun v_51 ev_51 => ?_)
    have tv_51 := l_sb r_46 (q (6 + 43 * p1))
    rw [← ev_51] at tv_51
    refine lv_lload_n hx hb dX12_weighs_32 rfl (lv_at hl 4 rfl) ?_
    refine lv_ladd hx hb dX12_weighs_33 ?_
    refine lv_topl (fun v_52 ev_52 => ?_)
    have tv_52 := l_ad v_51 p2
    rw [← ev_52] at tv_52
    refine lv_ldc2 hx hb hown (hts (.constantLong RX12 110 (24)) (List.mem_cons_of_mem _ (List.mem_append_left _ (List.mem_of_getElem? (i := 10) rfl)))) dX12_weighs_34 ?_
    refine W.lcmp hx hb dX12_weighs_37 ?_
    refine lv_if_le (tgt := 43) hx hb dX12_weighs_38 (by decide) (fun c_53 => ?_) (fun c_53 => ?_)
    · have c_53 := lc_le rfl (by decide : Int64.toInt 24 = 24) ((lg_cmp_le _ _).mp c_53)
      refine lv_aload_n hx hb dX12_weighs_43 rfl (lv_at hl 2 rfl) ?_
      refine k_get (ci := 12) (v := .ref (gr g h0 4)) (C := RX12) (T := TX12) (N := 27) hx hb hts (fun _ h0_ => List.mem_cons_of_mem _ (List.mem_append_right _ (List.mem_append_right _ (List.mem_append_right _ (List.mem_append_left _ h0_))))) hown hK hI i_h0.1 k_5 rfl 4 (by decide) (hts (.fieldLink RX12 16 "DeadlineShareModel" "row" "[J") (List.mem_cons_of_mem _ (List.mem_append_left _ (List.mem_of_getElem? (i := 6) rfl)))) (fun _ h9 => h9) rfl dX12_weighs_44 ?_
      refine lv_iload hx hb dX12_weighs_47 (lv_at hl 1 rfl) ?_
      refine lv_bipush (v := 10) hx hb dX12_weighs_49 (by decide) ?_
      refine lv_iadd hx hb dX12_weighs_51 ?_
      refine k_topi (y := nI (6 + 43 * p1 + 10)) ((nI_add (6 + 43 * p1) 10).trans (congrArg nI (by omega))) ?_
      refine lv_aload_n hx hb dX12_weighs_52 rfl (lv_at hl 2 rfl) ?_
      refine va_calll (va_runV (As := []) (rest := [.int (nI (6 + 43 * p1 + 10)), .ref (gr g h0 4)]) ⟨hx, hb, hml, hown, hts⟩ (c_X12_sum l dC dI g A hG f h0 q i_h0 hc0 hc0_ok) (cwV 0 hts (gi_V (fun w_ h0_ => ⟨List.mem_cons_of_mem _ (List.mem_append_right _ (List.mem_append_right _ (List.mem_append_right _ (List.mem_append_right _ (List.mem_append_right _ (List.mem_append_left _ h0_)))))), (tb_c_X12_sum w_ h0_).2⟩) (List.mem_cons_of_mem _ (List.mem_append_left _ (List.mem_of_getElem? (i := 11) rfl))) (List.mem_cons_of_mem _ (List.mem_append_left _ (List.mem_of_getElem? (i := 12) rfl))) (List.mem_cons_of_mem _ (List.mem_append_left _ (List.mem_of_getElem? (i := 13) rfl))) (List.mem_cons_of_mem _ (List.mem_append_left _ (List.mem_of_getElem? (i := 2) rfl)))) rfl rfl rfl (by decide +kernel) ⟨Nat.le_of_ble_eq_true rfl, Nat.le_of_ble_eq_true rfl⟩) ⟨fun a U g mk q => ⟨q.1, q.2.calling rfl rfl⟩, k_recv hK hI i_h0.1 k_5 (ci := 12) rfl, fun U hU hW => ⟨rfl, kIn.of hI hK hE hS hU hW⟩⟩ rfl rfl hl.1 rfl (lv_room (Nat.le_of_ble_eq_true rfl)) dX12_weighs_53 ⟨Nat.le_of_ble_eq_true rfl, Nat.le_of_ble_eq_true rfl⟩) hS (fun q _ h => h) (fun q h => h) (fun r_57 u t H1 locs ht hvm w_56 hB hz1 hk1 hS => ?_)
      have hI : Iv dC dI g A f t.heap := hB
      rw [ht] at hI
      generalize H1 = H at hI hS ⊢
      refine W.widen (k := 0) (n := 0) (Nat.le_of_ble_eq_true rfl) (Nat.le_of_ble_eq_true rfl) ?_
      refine lv_lload_n hx hb dX12_weighs_56 rfl (lv_at hl 4 rfl) ?_
      refine lv_lmul hx hb dX12_weighs_57 ?_
      refine lv_topl (fun v_58 ev_58 => ?_)
      refine lv_aload_n hx hb dX12_weighs_58 rfl (lv_at hl 2 rfl) ?_
      refine lv_iload_n hx hb dX12_weighs_59 rfl (lv_at hl 3 rfl) ?_
      refine va_calll (va_runV (As := [.int (nI p1)]) (rest := [.long v_58, .int (nI (6 + 43 * p1 + 10)), .ref (gr g h0 4)]) ⟨hx, hb, hml, hown, hts⟩ (c_X12_lag l dC dI g A hG f h0 p1 q i_h0 hc0 hc0_ok (by first | omega | decide | (simp only [k_c0, k_c1, k_cm1]; omega))) (cwV 1 hts (gi_V (fun w_ h0_ => ⟨List.mem_cons_of_mem _ (List.mem_append_right _ (List.mem_append_right _ (List.mem_append_right _ (List.mem_append_right _ (List.mem_append_right _ (List.mem_append_right _ (List.mem_append_left _ h0_))))))), (tb_c_X12_lag w_ h0_).2⟩) (List.mem_cons_of_mem _ (List.mem_append_left _ (List.mem_of_getElem? (i := 14) rfl))) (List.mem_cons_of_mem _ (List.mem_append_left _ (List.mem_of_getElem? (i := 15) rfl))) (List.mem_cons_of_mem _ (List.mem_append_left _ (List.mem_of_getElem? (i := 16) rfl))) (List.mem_cons_of_mem _ (List.mem_append_left _ (List.mem_of_getElem? (i := 2) rfl)))) rfl rfl rfl (by decide +kernel) ⟨Nat.le_of_ble_eq_true rfl, Nat.le_of_ble_eq_true rfl⟩) ⟨fun a U g mk q => ⟨q.1, q.2.calling rfl rfl⟩, k_recv hK hI i_h0.1 k_5 (ci := 12) rfl, fun U hU hW => ⟨rfl, kIn.of hI hK hE hS hU hW⟩⟩ rfl rfl hl.1 rfl (lv_room (Nat.le_of_ble_eq_true rfl)) dX12_weighs_60 ⟨Nat.le_of_ble_eq_true rfl, Nat.le_of_ble_eq_true rfl⟩) hS (fun q _ h => h) (fun q h => h) (fun r_60 u t H1 locs ht hvm w_59 hB hz1 hk1 hS => ?_)
      have hI : Iv dC dI g A f t.heap := hB
      rw [ht] at hI
      generalize H1 = H at hI hS ⊢
      refine W.widen (k := 0) (n := 0) (Nat.le_of_ble_eq_true rfl) (Nat.le_of_ble_eq_true rfl) ?_
      refine lv_lsub hx hb dX12_weighs_63 ?_
      refine lv_topl (fun v_61 ev_61 => ?_)
      have tv_61 := l_sb v_58 r_60
      rw [← ev_61] at tv_61
      refine lv_lload hx hb dX12_weighs_64 (lv_at hl 0 rfl) ?_
      refine lv_lload_n hx hb dX12_weighs_66 rfl (lv_at hl 4 rfl) ?_
      refine lv_lmul hx hb dX12_weighs_67 ?_
      refine lv_topl (fun v_62 ev_62 => ?_)
      have tv_62 := l_ml1 (x := r_46) (y := p2) (a := 96) (b := 8) (by omega) (by omega) (by omega) (by omega) (by decide)
      rw [← ev_62] at tv_62
      refine va_calll (va_runS (As := [.long v_61, .long v_62]) (rest := [.int (nI (6 + 43 * p1 + 10)), .ref (gr g h0 4)]) ⟨hx, hb, hml, hown, hts⟩ (c_X12_down l dC dI g A hG f v_61 v_62 (by first | omega | decide | (simp only [k_c0, k_c1, k_cm1]; omega))) (va_cwS 2 hts (gi_S (fun w_ h0_ => ⟨List.mem_cons_of_mem _ (List.mem_append_right _ (List.mem_append_right _ (List.mem_append_right _ (List.mem_append_right _ (List.mem_append_right _ (List.mem_append_right _ (List.mem_append_right _ (List.mem_append_left _ h0_)))))))), (tb_c_X12_down w_ h0_).2⟩) (List.mem_cons_of_mem _ (List.mem_append_left _ (List.mem_of_getElem? (i := 17) rfl))) (List.mem_cons_of_mem _ (List.mem_append_left _ (List.mem_of_getElem? (i := 18) rfl))) (List.mem_cons_of_mem _ (List.mem_append_left _ (List.mem_of_getElem? (i := 2) rfl)))) rfl rfl rfl (by decide +kernel) ⟨Nat.le_of_ble_eq_true rfl, Nat.le_of_ble_eq_true rfl⟩) ⟨fun a U g mk q => ⟨q.1, q.2.calling rfl rfl⟩, fun U hU hW => ⟨rfl, kIn.of hI hK hE hS hU hW⟩⟩ rfl rfl hl.1 rfl (lv_room (Nat.le_of_ble_eq_true rfl)) dX12_weighs_68 ⟨Nat.le_of_ble_eq_true rfl, Nat.le_of_ble_eq_true rfl⟩) hS (fun q _ h => h) (fun q h => h) (fun r_64 u t H1 locs ht hvm w_63 hB hz1 hk1 hS => ?_)
      have hI : Iv dC dI g A f t.heap := hB
      rw [ht] at hI
      generalize H1 = H at hI hS ⊢
      refine W.widen (k := 0) (n := 0) (Nat.le_of_ble_eq_true rfl) (Nat.le_of_ble_eq_true rfl) ?_
      refine k_last hx hb hK hI hS i_1.1 1 hc0 rfl (vp_in_nI (by omega) (by omega)) (cl_32 i_1) dX12_weighs_71 (fun f_65 H locs e_66 hI hS => ?_)
      generalize eq_67 : vp_updL q (Int32.toNatClampNeg (nI (6 + 43 * p1 + 10))) r_64 = q_67 at e_66
      have k_69 : f_65 (gr g h0 4) = .inl (gc g 1, 906, .inr (.inl q_67)) := by rw [e_66]; exact va_up_self _ _ _
      have k_70 : f_65 h0 = .inr (12, [.int x_6, .int x_7, .ref (gr g h0 2), .ref (gr g h0 3), .ref (gr g h0 4), .ref (gr g h0 5), .ref (gr g h0 6), .ref (gr g h0 7), .ref (gr g h0 8), .ref (gr g h0 9), .int x_8, .ref (gr g h0 11), .int x_9, .int x_10, .int x_11, .int x_12, .long x_13, .int x_14, .int x_15, .ref (gr g h0 19), .ref (gr g h0 20), .ref (gr g h0 21), .ref (gr g h0 22), .int x_16, .long x_17, .long x_18, .long x_19]) := by rw [e_66, va_up_ne _ _ (ik_ne i_h0 i_1 (by decide))]; exact k_5
      have kp_68 := Kp.put hk0 i_1 (by decide) e_66
      have u_71 : vp_updL q (6 + 43 * p1 + 10) r_64 = q_67 := by rw [← eq_67, show Int32.toNatClampNeg (nI (6 + 43 * p1 + 10)) = 6 + 43 * p1 + 10 from (nI_clamp (by omega))]
      have ok_72 : RowOK q_67 := by rw [← u_71]; exact rk_upd hc0_ok (by refine ⟨⟨by omega, by omega, by omega, by omega, by omega⟩, fun t9 ht9 => ⟨by omega, by omega, by omega, by omega, by omega, by omega⟩, fun t9 k9 ht9 hk9 => ⟨by omega, by omega, by omega⟩, by omega⟩)
      have d_73 := rk_hd ok_72
      have n_74 : (q_67 0).toInt = (q 0).toInt := by rw [← u_71, pk_uLn (by omega)]
      have n_75 : (q_67 1).toInt = (q 1).toInt := by rw [← u_71, pk_uLn (by omega)]
      have n_76 : (q_67 3).toInt = (q 3).toInt := by rw [← u_71, pk_uLn (by omega)]
      have n_77 : (q_67 4).toInt = (q 4).toInt := by rw [← u_71, pk_uLn (by omega)]
      have n_78 : (q_67 5).toInt = (q 5).toInt := by rw [← u_71, pk_uLn (by omega)]
      refine lv_aload_n hx hb dX12_weighs_72 rfl (lv_at hl 2 rfl) ?_
      refine k_get (ci := 12) (v := .ref (gr g h0 4)) (C := RX12) (T := TX12) (N := 27) hx hb hts (fun _ h0_ => List.mem_cons_of_mem _ (List.mem_append_right _ (List.mem_append_right _ (List.mem_append_right _ (List.mem_append_left _ h0_))))) hown hK hI i_h0.1 k_70 rfl 4 (by decide) (hts (.fieldLink RX12 16 "DeadlineShareModel" "row" "[J") (List.mem_cons_of_mem _ (List.mem_append_left _ (List.mem_of_getElem? (i := 6) rfl)))) (fun _ h9 => h9) rfl dX12_weighs_73 ?_
      refine lv_iload hx hb dX12_weighs_76 (lv_at hl 1 rfl) ?_
      refine lv_iconst (v := 0) hx hb dX12_weighs_78 (by decide) ?_
      refine lv_iadd hx hb dX12_weighs_79 ?_
      refine k_topi (y := nI (6 + 43 * p1)) ((nI_add (6 + 43 * p1) 0).trans (congrArg nI (by omega))) ?_
      refine lv_lload_n hx hb dX12_weighs_80 rfl (lv_at hl 4 rfl) ?_
      refine k_last hx hb hK hI hS i_1.1 1 k_69 rfl (vp_in_nI (by omega) (by omega)) (cl_32 i_1) dX12_weighs_81 (fun f_81 H locs e_82 hI hS => ?_)
      generalize eq_83 : vp_updL q_67 (Int32.toNatClampNeg (nI (6 + 43 * p1))) p2 = q_83 at e_82
      have k_85 : f_81 (gr g h0 4) = .inl (gc g 1, 906, .inr (.inl q_83)) := by rw [e_82]; exact va_up_self _ _ _
      have k_86 : f_81 h0 = .inr (12, [.int x_6, .int x_7, .ref (gr g h0 2), .ref (gr g h0 3), .ref (gr g h0 4), .ref (gr g h0 5), .ref (gr g h0 6), .ref (gr g h0 7), .ref (gr g h0 8), .ref (gr g h0 9), .int x_8, .ref (gr g h0 11), .int x_9, .int x_10, .int x_11, .int x_12, .long x_13, .int x_14, .int x_15, .ref (gr g h0 19), .ref (gr g h0 20), .ref (gr g h0 21), .ref (gr g h0 22), .int x_16, .long x_17, .long x_18, .long x_19]) := by rw [e_82, va_up_ne _ _ (ik_ne i_h0 i_1 (by decide))]; exact k_70
      have kp_84 := Kp.put kp_68 i_1 (by decide) e_82
      have u_87 : vp_updL q_67 (6 + 43 * p1) p2 = q_83 := by rw [← eq_83, show Int32.toNatClampNeg (nI (6 + 43 * p1)) = 6 + 43 * p1 from (nI_clamp (by omega))]
      have ok_88 : RowOK q_83 := by rw [← u_87]; exact rk_upd ok_72 (by refine ⟨⟨by omega, by omega, by omega, by omega, by omega⟩, fun t9 ht9 => ⟨by omega, by omega, by omega, by omega, by omega, by omega⟩, fun t9 k9 ht9 hk9 => ⟨by omega, by omega, by omega⟩, by omega⟩)
      have d_89 := rk_hd ok_88
      have n_90 : (q_83 0).toInt = (q_67 0).toInt := by rw [← u_87, pk_uLn (by omega)]
      have n_91 : (q_83 1).toInt = (q_67 1).toInt := by rw [← u_87, pk_uLn (by omega)]
      have n_92 : (q_83 3).toInt = (q_67 3).toInt := by rw [← u_87, pk_uLn (by omega)]
      have n_93 : (q_83 4).toInt = (q_67 4).toInt := by rw [← u_87, pk_uLn (by omega)]
      have n_94 : (q_83 5).toInt = (q_67 5).toInt := by rw [← u_87, pk_uLn (by omega)]
      refine lv_iconst (v := 1) hx hb dX12_weighs_82 (by decide) ?_
      exact W.zret (v := 1) hx hb hr rfl (fun t ht hW => ⟨⟨1, (), rfl, trivial, ⟨f_81, k_ret ht hI, kp_84, q_83, k_85, ok_88, (by first | omega | decide), (by first | omega | decide), (fun j9 h9 h8 => by rw [← u_87, pk_uLn (by omega), ← u_71, pk_uLn (by omega)])⟩⟩, hS.F ht⟩) hS.2.2 dX12_weighs_83
    · have c_53 := ln_le rfl (by decide : Int64.toInt 24 = 24) (fun h9 => c_53 ((lg_cmp_le _ _).mpr h9))
      refine lv_iconst (v := 0) hx hb dX12_weighs_41 (by decide) ?_
      exact W.zret (v := 0) hx hb hr rfl (fun t ht hW => ⟨⟨0, (), rfl, trivial, ⟨f, k_ret ht hI, hk0, q, hc0, hc0_ok, (by first | omega | decide), (by first | omega | decide), (fun _ _ _ => rfl)⟩⟩, hS.F ht⟩) hS.2.2 dX12_weighs_42
theorem tw_776 : q_g (.code yX12_slices cX12_slices 5 none) := ⟨(List.mem_append_right _ (List.mem_of_getElem? (i := 1306) (by decide +kernel))), good_of_word (by decide +kernel)⟩
def ow_c_X12_slices : List Cond := [.methodLink RX12 87 yX12_at, .static yX12_at, .initialized RX12, .fieldLink RX12 16 "DeadlineShareModel" "row" "[J"]
def wq_c_X12_slices : List Cond := .code yX12_slices cX12_slices 5 none :: (ow_c_X12_slices ++ (wq_c_X12_at ++ (u_ws RX12 TX12 27 ++ ([] : List Cond))))
theorem tb_c_X12_slices : ∀ w ∈ wq_c_X12_slices, q_g w := by
  unfold wq_c_X12_slices ow_c_X12_slices
  exact q_cons tw_776 (q_app (q_cons tw_734 (q_cons tw_733 (q_cons tw_728 (q_cons tw_731 q_nil)))) (q_app tb_c_X12_at (q_app tu_X12 q_nil)))
set_option maxHeartbeats 4000000 in
set_option maxRecDepth 100000 in
theorem c_X12_slices (l : Launch) (dC : Nat → ClassId) (dI : Nat → Nat → Nat) (g : kG) (A : Nat → Prop) (hG : kWf g) (f : Nat → va_E) (h0 : Nat) (p1 : Nat) (p2 : Int64) (q : Nat → Int64) (i_h0 : ik g 12 h0) (hc0 : f (gr g h0 4) = .inl (gc g 1, 906, .inr (.inl q))) (hc0_ok : RowOK q) (ht : p1 < 12) : Met l yX12_slices wq_c_X12_slices ({ frames := 1, cells := 0, slots := 0, locals := 20 } : Room) (va_Pc [.ref h0, .int (nI p1), .long p2] (fun U => kIn dC dI g A f U)) (va_Qv (fun (_ : Unit) => True) (fun (_ : Unit) t => ∃ f1 : Nat → va_E, Iv dC dI g A f1 t.heap ∧ Kp g [32] f f1 ∧ ∃ (q1 : Nat → Int64), (f1 (gr g h0 4) = .inl (gc g 1, 906, .inr (.inl q1))) ∧ (RowOK q1) ∧ ((q1 0).toInt = (q 0).toInt) ∧ ((q1 1).toInt = (q 1).toInt) ∧ (∀ j : Nat, 11 ≤ j → j < 43 → q1 (6 + 43 * p1 + j) = q (6 + 43 * p1 + j))) A) 0 0 A := by
  refine Met.ofW (cc := cX12_slices) (maxL := 5) (ret := none) (by decide) rfl ?_
  intro p e s m args below meth c s₁ B hml hv
  obtain ⟨rfl, hI, hK, hE⟩ := hv
  have hx := B.exec
  have hb := B.bytes
  have hr := B.returns
  have hts := atoms_spec (ws := wq_c_X12_slices) B.pre
  have hown : s.vm.findClass RX12 = some m.cls := findClass_of_methodNamed B.named
  have hlocks := B.notSynchronized
  have hS : va_S A s.heap s.heap [] := va_S.rf
  have hk0 : Kp g [32] f f := Kp.rf
  have hl := lv_entry ([.ref h0, .int (nI p1), .long p2]) (n := 5) (Nat.le_of_ble_eq_true rfl)
  rw [lg_entry_eq]
  generalize (lg_sl ([.ref h0, .int (nI p1), .long p2]) ++ List.replicate (5 - (lg_sl ([.ref h0, .int (nI p1), .long p2])).length) Slot.unset).toArray = ls at hl ⊢
  have hl : lv_has ls 5 [(0, .ref h0), (1, .int (nI p1)), (2, .long p2)] := hl
  have i_1 := kw_12_4 hG i_h0
  have d_2 := rk_hd hc0_ok
  refine lv_iload_n hx hb dX12_slices_0 rfl (lv_at hl 1 rfl) ?_
  refine va_calli (va_runS (As := [.int (nI p1)]) (rest := []) ⟨hx, hb, hml, hown, hts⟩ (c_X12_at l dC dI g A hG f p1) (va_cwS 1 hts (gi_S (fun w_ h0_ => ⟨List.mem_cons_of_mem _ (List.mem_append_right _ (List.mem_append_left _ h0_)), (tb_c_X12_at w_ h0_).2⟩) (List.mem_cons_of_mem _ (List.mem_append_left _ (List.mem_of_getElem? (i := 0) rfl))) (List.mem_cons_of_mem _ (List.mem_append_left _ (List.mem_of_getElem? (i := 1) rfl))) (List.mem_cons_of_mem _ (List.mem_append_left _ (List.mem_of_getElem? (i := 2) rfl)))) rfl rfl rfl (by decide +kernel) ⟨Nat.le_of_ble_eq_true rfl, Nat.le_of_ble_eq_true rfl⟩) ⟨fun a U g mk q => ⟨q.1, q.2.calling rfl rfl⟩, fun U hU hW => ⟨rfl, kIn.of hI hK hE hS hU hW⟩⟩ rfl rfl hl.1 rfl (lv_room (Nat.le_of_ble_eq_true rfl)) dX12_slices_1 ⟨Nat.le_of_ble_eq_true rfl, Nat.le_of_ble_eq_true rfl⟩) hS (fun q _ h => h) (fun q h => h) (fun r_4 u t H1 locs ht hvm w_3 hB hz1 hk1 hS => ?_)
  have hI : Iv dC dI g A f t.heap := hB
  rw [ht] at hI
  generalize H1 = H at hI hS ⊢
  refine W.widen (k := 0) (n := 0) (Nat.le_of_ble_eq_true rfl) (Nat.le_of_ble_eq_true rfl) ?_
  have w_3 : r_4 = nI (6 + 43 * p1) := w_3
  refine k_topi (y := nI (6 + 43 * p1)) w_3 ?_
  refine lv_istore (lv' := [(4, .int (nI (6 + 43 * p1))), (0, .ref h0), (1, .int (nI p1)), (2, .long p2)]) hx hb dX12_slices_4 hl (by decide) rfl (fun ls hl => ?_)
  refine lv_aload_n hx hb dX12_slices_6 rfl (lv_at hl 1 rfl) ?_
  obtain ⟨x_6, x_7, x_8, x_9, x_10, x_11, x_12, x_13, x_14, x_15, x_16, x_17, x_18, x_19, k_5, b_20, b_21, b_22, b_23, b_24, b_25⟩ := op_12 hI i_h0
  refine k_get (ci := 12) (v := .ref (gr g h0 4)) (C := RX12) (T := TX12) (N := 27) hx hb hts (fun _ h0_ => List.mem_cons_of_mem _ (List.mem_append_right _ (List.mem_append_right _ (List.mem_append_left _ h0_)))) hown hK hI i_h0.1 k_5 rfl 4 (by decide) (hts (.fieldLink RX12 16 "DeadlineShareModel" "row" "[J") (List.mem_cons_of_mem _ (List.mem_append_left _ (List.mem_of_getElem? (i := 3) rfl)))) (fun _ h9 => h9) rfl dX12_slices_7 ?_
  refine lv_iload hx hb dX12_slices_10 (lv_at hl 0 rfl) ?_
  refine lv_iconst (v := 1) hx hb dX12_slices_12 (by decide) ?_
  refine lv_iadd hx hb dX12_slices_13 ?_
  refine k_topi (y := nI (6 + 43 * p1 + 1)) ((nI_add (6 + 43 * p1) 1).trans (congrArg nI (by omega))) ?_
  refine lv_lload_n hx hb dX12_slices_14 rfl (lv_at hl 3 rfl) ?_
  refine k_last hx hb hK hI hS i_1.1 1 hc0 rfl (vp_in_nI (by omega) (by omega)) (cl_32 i_1) dX12_slices_15 (fun f_28 H locs e_29 hI hS => ?_)
  generalize eq_30 : vp_updL q (Int32.toNatClampNeg (nI (6 + 43 * p1 + 1))) p2 = q_30 at e_29
  have k_32 : f_28 (gr g h0 4) = .inl (gc g 1, 906, .inr (.inl q_30)) := by rw [e_29]; exact va_up_self _ _ _
  have k_33 : f_28 h0 = .inr (12, [.int x_6, .int x_7, .ref (gr g h0 2), .ref (gr g h0 3), .ref (gr g h0 4), .ref (gr g h0 5), .ref (gr g h0 6), .ref (gr g h0 7), .ref (gr g h0 8), .ref (gr g h0 9), .int x_8, .ref (gr g h0 11), .int x_9, .int x_10, .int x_11, .int x_12, .long x_13, .int x_14, .int x_15, .ref (gr g h0 19), .ref (gr g h0 20), .ref (gr g h0 21), .ref (gr g h0 22), .int x_16, .long x_17, .long x_18, .long x_19]) := by rw [e_29, va_up_ne _ _ (ik_ne i_h0 i_1 (by decide))]; exact k_5
  have kp_31 := Kp.put hk0 i_1 (by decide) e_29
  have u_34 : vp_updL q (6 + 43 * p1 + 1) p2 = q_30 := by rw [← eq_30, show Int32.toNatClampNeg (nI (6 + 43 * p1 + 1)) = 6 + 43 * p1 + 1 from (nI_clamp (by omega))]
  have ok_35 : RowOK q_30 := by rw [← u_34]; exact rk_upd hc0_ok (by refine ⟨⟨by omega, by omega, by omega, by omega, by omega⟩, fun t9 ht9 => ⟨by omega, by omega, by omega, by omega, by omega, by omega⟩, fun t9 k9 ht9 hk9 => ⟨by omega, by omega, by omega⟩, by omega⟩)
  have d_36 := rk_hd ok_35
  have n_37 : (q_30 0).toInt = (q 0).toInt := by rw [← u_34, pk_uLn (by omega)]
  have n_38 : (q_30 1).toInt = (q 1).toInt := by rw [← u_34, pk_uLn (by omega)]
  have n_39 : (q_30 3).toInt = (q 3).toInt := by rw [← u_34, pk_uLn (by omega)]
  have n_40 : (q_30 4).toInt = (q 4).toInt := by rw [← u_34, pk_uLn (by omega)]
  have n_41 : (q_30 5).toInt = (q 5).toInt := by rw [← u_34, pk_uLn (by omega)]
  refine lv_aload_n hx hb dX12_slices_16 rfl (lv_at hl 1 rfl) ?_
  refine k_get (ci := 12) (v := .ref (gr g h0 4)) (C := RX12) (T := TX12) (N := 27) hx hb hts (fun _ h0_ => List.mem_cons_of_mem _ (List.mem_append_right _ (List.mem_append_right _ (List.mem_append_left _ h0_)))) hown hK hI i_h0.1 k_33 rfl 4 (by decide) (hts (.fieldLink RX12 16 "DeadlineShareModel" "row" "[J") (List.mem_cons_of_mem _ (List.mem_append_left _ (List.mem_of_getElem? (i := 3) rfl)))) (fun _ h9 => h9) rfl dX12_slices_17 ?_
  refine lv_iload hx hb dX12_slices_20 (lv_at hl 0 rfl) ?_
  refine lv_iconst (v := 3) hx hb dX12_slices_22 (by decide) ?_
  refine lv_iadd hx hb dX12_slices_23 ?_
  refine k_topi (y := nI (6 + 43 * p1 + 3)) ((nI_add (6 + 43 * p1) 3).trans (congrArg nI (by omega))) ?_
  refine lv_aload_n hx hb dX12_slices_24 rfl (lv_at hl 1 rfl) ?_
  refine k_get (ci := 12) (v := .ref (gr g h0 4)) (C := RX12) (T := TX12) (N := 27) hx hb hts (fun _ h0_ => List.mem_cons_of_mem _ (List.mem_append_right _ (List.mem_append_right _ (List.mem_append_left _ h0_)))) hown hK hI i_h0.1 k_33 rfl 4 (by decide) (hts (.fieldLink RX12 16 "DeadlineShareModel" "row" "[J") (List.mem_cons_of_mem _ (List.mem_append_left _ (List.mem_of_getElem? (i := 3) rfl)))) (fun _ h9 => h9) rfl dX12_slices_25 ?_
  refine lv_iload hx hb dX12_slices_28 (lv_at hl 0 rfl) ?_
  refine lv_iconst (v := 3) hx hb dX12_slices_30 (by decide) ?_
  refine lv_iadd hx hb dX12_slices_31 ?_
  refine k_topi (y := nI (6 + 43 * p1 + 3)) ((nI_add (6 + 43 * p1) 3).trans (congrArg nI (by omega))) ?_
  refine k_lald hx hb hK hI i_1.1 1 k_32 rfl (vp_in_nI (by omega) (by omega)) dX12_slices_32 ?_
  refine k_topl (y := q_30 (6 + 43 * p1 + 3)) (congrArg q_30 (nI_clamp (by omega))) ?_
  refine lv_lload_n hx hb dX12_slices_33 rfl (lv_at hl 3 rfl) ?_
  refine W.lcmp hx hb dX12_slices_34 ?_
  refine lv_if_le (tgt := 42) hx hb dX12_slices_35 (by decide) (fun c_46 => ?_) (fun c_46 => ?_)
  · have c_46 := lc_le rfl rfl ((lg_cmp_le _ _).mp c_46)
    refine lv_aload_n hx hb dX12_slices_42 rfl (lv_at hl 1 rfl) ?_
    refine k_get (ci := 12) (v := .ref (gr g h0 4)) (C := RX12) (T := TX12) (N := 27) hx hb hts (fun _ h0_ => List.mem_cons_of_mem _ (List.mem_append_right _ (List.mem_append_right _ (List.mem_append_left _ h0_)))) hown hK hI i_h0.1 k_33 rfl 4 (by decide) (hts (.fieldLink RX12 16 "DeadlineShareModel" "row" "[J") (List.mem_cons_of_mem _ (List.mem_append_left _ (List.mem_of_getElem? (i := 3) rfl)))) (fun _ h9 => h9) rfl dX12_slices_43 ?_
    refine lv_iload hx hb dX12_slices_46 (lv_at hl 0 rfl) ?_
    refine lv_iconst (v := 3) hx hb dX12_slices_48 (by decide) ?_
    refine lv_iadd hx hb dX12_slices_49 ?_
    refine k_topi (y := nI (6 + 43 * p1 + 3)) ((nI_add (6 + 43 * p1) 3).trans (congrArg nI (by omega))) ?_
    refine k_lald hx hb hK hI i_1.1 1 k_32 rfl (vp_in_nI (by omega) (by omega)) dX12_slices_50 ?_
    refine k_topl (y := q_30 (6 + 43 * p1 + 3)) (congrArg q_30 (nI_clamp (by omega))) ?_
    refine k_last hx hb hK hI hS i_1.1 1 k_32 rfl (vp_in_nI (by omega) (by omega)) (cl_32 i_1) dX12_slices_51 (fun f_49 H locs e_50 hI hS => ?_)
    generalize eq_51 : vp_updL q_30 (Int32.toNatClampNeg (nI (6 + 43 * p1 + 3))) (q_30 (6 + 43 * p1 + 3)) = q_51 at e_50
    have k_53 : f_49 (gr g h0 4) = .inl (gc g 1, 906, .inr (.inl q_51)) := by rw [e_50]; exact va_up_self _ _ _
    have k_54 : f_49 h0 = .inr (12, [.int x_6, .int x_7, .ref (gr g h0 2), .ref (gr g h0 3), .ref (gr g h0 4), .ref (gr g h0 5), .ref (gr g h0 6), .ref (gr g h0 7), .ref (gr g h0 8), .ref (gr g h0 9), .int x_8, .ref (gr g h0 11), .int x_9, .int x_10, .int x_11, .int x_12, .long x_13, .int x_14, .int x_15, .ref (gr g h0 19), .ref (gr g h0 20), .ref (gr g h0 21), .ref (gr g h0 22), .int x_16, .long x_17, .long x_18, .long x_19]) := by rw [e_50, va_up_ne _ _ (ik_ne i_h0 i_1 (by decide))]; exact k_33
    have kp_52 := Kp.put kp_31 i_1 (by decide) e_50
    have u_55 : vp_updL q_30 (6 + 43 * p1 + 3) (q_30 (6 + 43 * p1 + 3)) = q_51 := by rw [← eq_51, show Int32.toNatClampNeg (nI (6 + 43 * p1 + 3)) = 6 + 43 * p1 + 3 from (nI_clamp (by omega))]
    have ok_56 : RowOK q_51 := by rw [← u_55]; exact rk_upd ok_35 (by refine ⟨⟨by omega, by omega, by omega, by omega, by omega⟩, fun t9 ht9 => ⟨by omega, by omega, by omega, by omega, by omega, by omega⟩, fun t9 k9 ht9 hk9 => ⟨by omega, by omega, by omega⟩, by omega⟩)
    have d_57 := rk_hd ok_56
    have n_58 : (q_51 0).toInt = (q_30 0).toInt := by rw [← u_55, pk_uLn (by omega)]
    have n_59 : (q_51 1).toInt = (q_30 1).toInt := by rw [← u_55, pk_uLn (by omega)]
    have n_60 : (q_51 3).toInt = (q_30 3).toInt := by rw [← u_55, pk_uLn (by omega)]
    have n_61 : (q_51 4).toInt = (q_30 4).toInt := by rw [← u_55, pk_uLn (by omega)]
    have n_62 : (q_51 5).toInt = (q_30 5).toInt := by rw [← u_55, pk_uLn (by omega)]
    exact W.vret hx hb hr (fun t ht hW => ⟨⟨(), rfl, trivial, ⟨f_49, k_ret ht hI, kp_52, q_51, k_53, ok_56, (by first | omega | decide), (by first | omega | decide), (fun j9 h9 h8 => by rw [← u_55, pk_uLn (by omega), ← u_34, pk_uLn (by omega)])⟩⟩, hS.F ht⟩) hS.2.2 dX12_slices_52
  · have c_46 := ln_le rfl rfl (fun h9 => c_46 ((lg_cmp_le _ _).mpr h9))
    refine lv_lload_n hx hb dX12_slices_38 rfl (lv_at hl 3 rfl) ?_
    refine lv_goto (tgt := 51) hx hb dX12_slices_39 (by decide) ?_
    refine k_last hx hb hK hI hS i_1.1 1 k_32 rfl (vp_in_nI (by omega) (by omega)) (cl_32 i_1) dX12_slices_51 (fun f_63 H locs e_64 hI hS => ?_)
    generalize eq_65 : vp_updL q_30 (Int32.toNatClampNeg (nI (6 + 43 * p1 + 3))) p2 = q_65 at e_64
    have k_67 : f_63 (gr g h0 4) = .inl (gc g 1, 906, .inr (.inl q_65)) := by rw [e_64]; exact va_up_self _ _ _
    have k_68 : f_63 h0 = .inr (12, [.int x_6, .int x_7, .ref (gr g h0 2), .ref (gr g h0 3), .ref (gr g h0 4), .ref (gr g h0 5), .ref (gr g h0 6), .ref (gr g h0 7), .ref (gr g h0 8), .ref (gr g h0 9), .int x_8, .ref (gr g h0 11), .int x_9, .int x_10, .int x_11, .int x_12, .long x_13, .int x_14, .int x_15, .ref (gr g h0 19), .ref (gr g h0 20), .ref (gr g h0 21), .ref (gr g h0 22), .int x_16, .long x_17, .long x_18, .long x_19]) := by rw [e_64, va_up_ne _ _ (ik_ne i_h0 i_1 (by decide))]; exact k_33
    have kp_66 := Kp.put kp_31 i_1 (by decide) e_64
    have u_69 : vp_updL q_30 (6 + 43 * p1 + 3) p2 = q_65 := by rw [← eq_65, show Int32.toNatClampNeg (nI (6 + 43 * p1 + 3)) = 6 + 43 * p1 + 3 from (nI_clamp (by omega))]
    have ok_70 : RowOK q_65 := by rw [← u_69]; exact rk_upd ok_35 (by refine ⟨⟨by omega, by omega, by omega, by omega, by omega⟩, fun t9 ht9 => ⟨by omega, by omega, by omega, by omega, by omega, by omega⟩, fun t9 k9 ht9 hk9 => ⟨by omega, by omega, by omega⟩, by omega⟩)
    have d_71 := rk_hd ok_70
    have n_72 : (q_65 0).toInt = (q_30 0).toInt := by rw [← u_69, pk_uLn (by omega)]
    have n_73 : (q_65 1).toInt = (q_30 1).toInt := by rw [← u_69, pk_uLn (by omega)]
    have n_74 : (q_65 3).toInt = (q_30 3).toInt := by rw [← u_69, pk_uLn (by omega)]
    have n_75 : (q_65 4).toInt = (q_30 4).toInt := by rw [← u_69, pk_uLn (by omega)]
    have n_76 : (q_65 5).toInt = (q_30 5).toInt := by rw [← u_69, pk_uLn (by omega)]
    exact W.vret hx hb hr (fun t ht hW => ⟨⟨(), rfl, trivial, ⟨f_63, k_ret ht hI, kp_66, q_65, k_67, ok_70, (by first | omega | decide), (by first | omega | decide), (fun j9 h9 h8 => by rw [← u_69, pk_uLn (by omega), ← u_34, pk_uLn (by omega)])⟩⟩, hS.F ht⟩) hS.2.2 dX12_slices_52
theorem tw_777 : q_g (.selects RX12 yX12_isEligible yX12_isEligible) := ⟨(List.mem_append_left _ (List.mem_of_getElem? (i := 53) (by decide +kernel))), good_of_word (by decide +kernel)⟩
theorem tw_778 : q_g (.instanceMethod yX12_isEligible) := ⟨(List.mem_append_right _ (List.mem_of_getElem? (i := 1419) (by decide +kernel))), good_of_word (by decide +kernel)⟩
theorem tw_779 : q_g (.methodLink RX12 244 yX12_isEligible) := ⟨(List.mem_append_right _ (List.mem_of_getElem? (i := 1417) (by decide +kernel))), good_of_word (by decide +kernel)⟩
theorem tw_780 : q_g (.selects RX12 yX12_deadline yX12_deadline) := ⟨(List.mem_append_left _ (List.mem_of_getElem? (i := 39) (by decide +kernel))), good_of_word (by decide +kernel)⟩
theorem tw_781 : q_g (.instanceMethod yX12_deadline) := ⟨(List.mem_append_right _ (List.mem_of_getElem? (i := 1318) (by decide +kernel))), good_of_word (by decide +kernel)⟩
theorem tw_782 : q_g (.methodLink RX12 167 yX12_deadline) := ⟨(List.mem_append_right _ (List.mem_of_getElem? (i := 1316) (by decide +kernel))), good_of_word (by decide +kernel)⟩
theorem tw_783 : q_g (.code yX12_byDeadline cX12_byDeadline 4 (some .int)) := ⟨(List.mem_append_right _ (List.mem_of_getElem? (i := 1416) (by decide +kernel))), good_of_word (by decide +kernel)⟩
def ow_c_X12_byDeadline : List Cond := [.fieldLink RX12 16 "DeadlineShareModel" "row" "[J", .methodLink RX12 90 yX12_isOn, .instanceMethod yX12_isOn, .selects RX12 yX12_isOn yX12_isOn, .initialized RX12, .methodLink RX12 167 yX12_deadline, .instanceMethod yX12_deadline, .selects RX12 yX12_deadline yX12_deadline, .methodLink RX12 244 yX12_isEligible, .instanceMethod yX12_isEligible, .selects RX12 yX12_isEligible yX12_isEligible]
def wq_c_X12_byDeadline : List Cond := .code yX12_byDeadline cX12_byDeadline 4 (some .int) :: (ow_c_X12_byDeadline ++ (u_ws RX12 TX12 27 ++ (wq_c_X12_isOn ++ (wq_c_X12_deadline ++ (wq_c_X12_isEligible ++ ([] : List Cond))))))
theorem tb_c_X12_byDeadline : ∀ w ∈ wq_c_X12_byDeadline, q_g w := by
  unfold wq_c_X12_byDeadline ow_c_X12_byDeadline
  exact q_cons tw_783 (q_app (q_cons tw_731 (q_cons tw_744 (q_cons tw_743 (q_cons tw_742 (q_cons tw_728 (q_cons tw_782 (q_cons tw_781 (q_cons tw_780 (q_cons tw_779 (q_cons tw_778 (q_cons tw_777 q_nil))))))))))) (q_app tu_X12 (q_app tb_c_X12_isOn (q_app tb_c_X12_deadline (q_app tb_c_X12_isEligible q_nil)))))
set_option maxHeartbeats 4000000 in
set_option maxRecDepth 100000 in
theorem c_X12_byDeadline (l : Launch) (dC : Nat → ClassId) (dI : Nat → Nat → Nat) (g : kG) (A : Nat → Prop) (hG : kWf g) (f : Nat → va_E) (h0 : Nat) (p1 : Int32) (q : Nat → Int64) (i_h0 : ik g 12 h0) (hc0 : f (gr g h0 4) = .inl (gc g 1, 906, .inr (.inl q))) (hc0_ok : RowOK q) : Met l yX12_byDeadline wq_c_X12_byDeadline ({ frames := 4, cells := 0, slots := 0, locals := 85 } : Room) (va_Pc [.ref h0, .int p1] (fun U => kIn dC dI g A f U)) (va_Qi (fun (r : Int32) (_ : Unit) => -1 ≤ r.toInt ∧ r.toInt < (q 0).toInt) (fun (_ : Unit) t => Iv dC dI g A f t.heap) A) 0 0 A := by
  refine Met.ofW (cc := cX12_byDeadline) (maxL := 4) (ret := (some .int)) (by decide) rfl ?_
  intro p e s m args below meth c s₁ B hml hv
  obtain ⟨rfl, hI, hK, hE⟩ := hv
  have hx := B.exec
  have hb := B.bytes
  have hr := B.returns
  have hts := atoms_spec (ws := wq_c_X12_byDeadline) B.pre
  have hown : s.vm.findClass RX12 = some m.cls := findClass_of_methodNamed B.named
  have hlocks := B.notSynchronized
  have hS : va_S A s.heap s.heap [] := va_S.rf
  have hl := lv_entry ([.ref h0, .int p1]) (n := 4) (Nat.le_of_ble_eq_true rfl)
  rw [lg_entry_eq]
  generalize (lg_sl ([.ref h0, .int p1]) ++ List.replicate (4 - (lg_sl ([.ref h0, .int p1])).length) Slot.unset).toArray = ls at hl ⊢
  have hl : lv_has ls 4 [(0, .ref h0), (1, .int p1)] := hl
  have i_1 := kw_12_4 hG i_h0
  have d_2 := rk_hd hc0_ok
  refine lv_iconst (v := (-1)) hx hb dX12_byDeadline_0 (by decide) ?_
  refine lv_istore_n (lv' := [(2, .int (-1)), (0, .ref h0), (1, .int p1)]) hx hb dX12_byDeadline_1 rfl hl (by decide) rfl (fun ls hl => ?_)
  refine lv_iconst (v := 0) hx hb dX12_byDeadline_2 (by decide) ?_
  refine lv_istore_n (lv' := [(3, .int 0), (2, .int (-1)), (0, .ref h0), (1, .int p1)]) hx hb dX12_byDeadline_3 rfl hl (by decide) rfl (fun ls hl => ?_)
  have K_4 : ∀ (nn : Nat) (y_3 : Nat) (y_4 : Int32) (H : Heap) (locs : List Loc) (ls : Array Slot), 12 - y_3 < nn → Iv dC dI g A f H → va_S A s.heap H locs → (y_3 ≤ 12) → (-1 ≤ y_4.toInt ∧ y_4.toInt < (q 0).toInt) → lv_has ls 4 [(3, .int (nI y_3)), (2, .int y_4), (0, .ref h0), (1, .int p1)] → W p l e (headSpec wq_c_X12_byDeadline ({ frames := 4, cells := 0, slots := 0, locals := 85 } : Room)).room s m ([.ref h0, .int p1].toArray) below meth c H locs 0 0 (MQ below (va_Qi (fun (r : Int32) (_ : Unit) => -1 ≤ r.toInt ∧ r.toInt < (q 0).toInt) (fun (_ : Unit) t => Iv dC dI g A f t.heap) A) ([.ref h0, .int p1].toArray) s 0 0 A) (F0 m 4 ls []) := by
    intro nn
    induction nn with
    | zero => intro y_3 y_4 H locs ls m_7; exact absurd m_7 (Nat.not_lt_zero _)
    | succ nn ih =>
      intro y_3 y_4 H locs ls m_7 hI hS t_5 t_6 hl
      refine lv_iload_n hx hb dX12_byDeadline_4 rfl (lv_at hl 0 rfl) ?_
      refine lv_i2l (v := lN (y_3)) hx hb dX12_byDeadline_5 (nI_l (by omega)) ?_
      refine lv_aload_n hx hb dX12_byDeadline_6 rfl (lv_at hl 2 rfl) ?_
      obtain ⟨x_9, x_10, x_11, x_12, x_13, x_14, x_15, x_16, x_17, x_18, x_19, x_20, x_21, x_22, k_8, b_23, b_24, b_25, b_26, b_27, b_28⟩ := op_12 hI i_h0
      refine k_get (ci := 12) (v := .ref (gr g h0 4)) (C := RX12) (T := TX12) (N := 27) hx hb hts (fun _ h0_ => List.mem_cons_of_mem _ (List.mem_append_right _ (List.mem_append_left _ h0_))) hown hK hI i_h0.1 k_8 rfl 4 (by decide) (hts (.fieldLink RX12 16 "DeadlineShareModel" "row" "[J") (List.mem_cons_of_mem _ (List.mem_append_left _ (List.mem_of_getElem? (i := 0) rfl)))) (fun _ h9 => h9) rfl dX12_byDeadline_7 ?_
      refine lv_iconst (v := 0) hx hb dX12_byDeadline_10 (by decide) ?_
      refine k_lald hx hb hK hI i_1.1 1 hc0 rfl (by unfold vp_in; decide) dX12_byDeadline_11 ?_
      refine k_topl (y := q 0) (congrArg q (show Int32.toNatClampNeg 0 = 0 by decide)) ?_
      refine W.lcmp hx hb dX12_byDeadline_12 ?_
      refine lv_if_ge (tgt := 67) hx hb dX12_byDeadline_13 (by decide) (fun c_31 => ?_) (fun c_31 => ?_)
      · have c_31 := lc_le rfl (lN_toInt (n := y_3) (by omega)) ((lg_cmp_ge _ _).mp c_31)
        refine lv_iload_n hx hb dX12_byDeadline_67 rfl (lv_at hl 1 rfl) ?_
        have w_32 : -1 ≤ y_4.toInt ∧ y_4.toInt < (q 0).toInt := by omega
        exact W.iret (v := y_4) hx hb hr (fun t ht hW => ⟨⟨y_4, (), rfl, w_32, k_ret ht hI⟩, hS.F ht⟩) hS.2.2 dX12_byDeadline_68
      · have c_31 := ln_le rfl (lN_toInt (n := y_3) (by omega)) (fun h9 => c_31 ((lg_cmp_ge _ _).mpr h9))
        refine lv_aload_n hx hb dX12_byDeadline_16 rfl (lv_at hl 2 rfl) ?_
        refine lv_iload_n hx hb dX12_byDeadline_17 rfl (lv_at hl 0 rfl) ?_
        refine va_calli (va_runV (As := [.int (nI y_3)]) (rest := []) ⟨hx, hb, hml, hown, hts⟩ (c_X12_isOn l dC dI g A hG f h0 y_3 q i_h0 hc0 hc0_ok (by first | omega | decide | (simp only [k_c0, k_c1, k_cm1]; omega))) (cwV 1 hts (gi_V (fun w_ h0_ => ⟨List.mem_cons_of_mem _ (List.mem_append_right _ (List.mem_append_right _ (List.mem_append_left _ h0_))), (tb_c_X12_isOn w_ h0_).2⟩) (List.mem_cons_of_mem _ (List.mem_append_left _ (List.mem_of_getElem? (i := 1) rfl))) (List.mem_cons_of_mem _ (List.mem_append_left _ (List.mem_of_getElem? (i := 2) rfl))) (List.mem_cons_of_mem _ (List.mem_append_left _ (List.mem_of_getElem? (i := 3) rfl))) (List.mem_cons_of_mem _ (List.mem_append_left _ (List.mem_of_getElem? (i := 4) rfl)))) rfl rfl rfl (by decide +kernel) ⟨Nat.le_of_ble_eq_true rfl, Nat.le_of_ble_eq_true rfl⟩) ⟨fun a U g mk q => ⟨q.1, q.2.calling rfl rfl⟩, k_recv hK hI i_h0.1 k_8 (ci := 12) rfl, fun U hU hW => ⟨rfl, kIn.of hI hK hE hS hU hW⟩⟩ rfl rfl hl.1 rfl (lv_room (Nat.le_of_ble_eq_true rfl)) dX12_byDeadline_18 ⟨Nat.le_of_ble_eq_true rfl, Nat.le_of_ble_eq_true rfl⟩) hS (fun q _ h => h) (fun q h => h) (fun r_34 u t H1 locs ht hvm w_33 hB hz1 hk1 hS => ?_)
        have hI : Iv dC dI g A f t.heap := hB
        rw [ht] at hI
        generalize H1 = H at hI hS ⊢
        refine W.widen (k := 0) (n := 0) (Nat.le_of_ble_eq_true rfl) (Nat.le_of_ble_eq_true rfl) ?_
        have w_33 : (r_34.toInt = 0 ∧ (q (6 + 43 * y_3 + 2)).toInt ≠ 1) ∨ (r_34.toInt = 1 ∧ (q (6 + 43 * y_3 + 2)).toInt = 1) := w_33
        have J_61 : ∀ (y_35 : Int32) (H : Heap) (locs : List Loc) (ls : Array Slot), Iv dC dI g A f H → va_S A s.heap H locs → (-1 ≤ y_35.toInt ∧ y_35.toInt < (q 0).toInt) → lv_has ls 4 [(3, .int (nI y_3)), (2, .int y_35), (0, .ref h0), (1, .int p1)] → W p l e (headSpec wq_c_X12_byDeadline ({ frames := 4, cells := 0, slots := 0, locals := 85 } : Room)).room s m ([.ref h0, .int p1].toArray) below meth c H locs 0 0 (MQ below (va_Qi (fun (r : Int32) (_ : Unit) => -1 ≤ r.toInt ∧ r.toInt < (q 0).toInt) (fun (_ : Unit) t => Iv dC dI g A f t.heap) A) ([.ref h0, .int p1].toArray) s 0 0 A) (F0 m 61 ls []) := by
          intro y_35 H locs ls hI hS t_36 hl
          refine lv_iinc (v := nI (y_3 + 1)) (lv' := [(3, .int (nI (y_3 + 1))), (2, .int y_35), (0, .ref h0), (1, .int p1)]) hx hb dX12_byDeadline_61 hl (k := 0) rfl (nI_1 _) (by decide) rfl (fun ls hl => ?_)
          refine lv_goto (tgt := 4) hx hb dX12_byDeadline_64 (by decide) ?_
          exact ih (y_3 + 1) y_35 _ _ _ (by omega) hI hS (by first | omega | decide) (by first | omega | decide) (lv_sub hl [0, 1, 2, 3] rfl)
        refine lv_if_eq (tgt := 61) hx hb dX12_byDeadline_21 (by decide) (fun c_37 => ?_) (fun c_37 => ?_)
        · have c_37 := kc_eq rfl (by decide : Int32.toInt 0 = 0) c_37
          exact J_61 y_4 _ _ _ hI hS (by first | omega | decide) (lv_sub hl [0, 1, 2, 3] rfl)
        · have c_37 := kn_eq rfl (by decide : Int32.toInt 0 = 0) c_37
          refine lv_iload_n hx hb dX12_byDeadline_24 rfl (lv_at hl 3 rfl) ?_
          have J_36 : ∀ (H : Heap) (locs : List Loc) (ls : Array Slot), Iv dC dI g A f H → va_S A s.heap H locs → lv_has ls 4 [(3, .int (nI y_3)), (2, .int y_4), (0, .ref h0), (1, .int p1)] → W p l e (headSpec wq_c_X12_byDeadline ({ frames := 4, cells := 0, slots := 0, locals := 85 } : Room)).room s m ([.ref h0, .int p1].toArray) below meth c H locs 0 0 (MQ below (va_Qi (fun (r : Int32) (_ : Unit) => -1 ≤ r.toInt ∧ r.toInt < (q 0).toInt) (fun (_ : Unit) t => Iv dC dI g A f t.heap) A) ([.ref h0, .int p1].toArray) s 0 0 A) (F0 m 36 ls []) := by
            intro H locs ls hI hS  hl
            refine lv_iload_n hx hb dX12_byDeadline_36 rfl (lv_at hl 1 rfl) ?_
            refine lv_iconst (v := (-1)) hx hb dX12_byDeadline_37 (by decide) ?_
            have J_60 : ∀ (y_38 : Int32) (H : Heap) (locs : List Loc) (ls : Array Slot), Iv dC dI g A f H → va_S A s.heap H locs → (-1 ≤ y_38.toInt ∧ y_38.toInt < (q 0).toInt) → lv_has ls 4 [(3, .int (nI y_3)), (2, .int y_4), (0, .ref h0), (1, .int p1)] → W p l e (headSpec wq_c_X12_byDeadline ({ frames := 4, cells := 0, slots := 0, locals := 85 } : Room)).room s m ([.ref h0, .int p1].toArray) below meth c H locs 0 0 (MQ below (va_Qi (fun (r : Int32) (_ : Unit) => -1 ≤ r.toInt ∧ r.toInt < (q 0).toInt) (fun (_ : Unit) t => Iv dC dI g A f t.heap) A) ([.ref h0, .int p1].toArray) s 0 0 A) (F0 m 60 ls [.int y_38]) := by
              intro y_38 H locs ls hI hS t_39 hl
              refine lv_istore_n (lv' := [(2, .int y_38), (3, .int (nI y_3)), (0, .ref h0), (1, .int p1)]) hx hb dX12_byDeadline_60 rfl hl (by decide) rfl (fun ls hl => ?_)
              exact J_61 y_38 _ _ _ hI hS (by first | omega | decide) (lv_sub hl [1, 0, 2, 3] rfl)
            have J_55 : ∀ (H : Heap) (locs : List Loc) (ls : Array Slot), Iv dC dI g A f H → va_S A s.heap H locs → lv_has ls 4 [(3, .int (nI y_3)), (2, .int y_4), (0, .ref h0), (1, .int p1)] → W p l e (headSpec wq_c_X12_byDeadline ({ frames := 4, cells := 0, slots := 0, locals := 85 } : Room)).room s m ([.ref h0, .int p1].toArray) below meth c H locs 0 0 (MQ below (va_Qi (fun (r : Int32) (_ : Unit) => -1 ≤ r.toInt ∧ r.toInt < (q 0).toInt) (fun (_ : Unit) t => Iv dC dI g A f t.heap) A) ([.ref h0, .int p1].toArray) s 0 0 A) (F0 m 55 ls []) := by
              intro H locs ls hI hS  hl
              refine lv_iload_n hx hb dX12_byDeadline_55 rfl (lv_at hl 0 rfl) ?_
              refine lv_goto (tgt := 60) hx hb dX12_byDeadline_56 (by decide) ?_
              have g_40 := nI_toInt (n := y_3) (by omega)
              exact J_60 (nI y_3) _ _ _ hI hS (by first | omega | decide) (lv_sub hl [0, 1, 2, 3] rfl)
            refine lv_icmp_eq (tgt := 55) hx hb dX12_byDeadline_38 (by decide) (fun c_41 => ?_) (fun c_41 => ?_)
            · have c_41 := kc_eq rfl (by decide : Int32.toInt (-1) = (-1)) c_41
              exact J_55  _ _ _ hI hS  (lv_sub hl [0, 1, 2, 3] rfl)
            · have c_41 := kn_eq rfl (by decide : Int32.toInt (-1) = (-1)) c_41
              refine lv_aload_n hx hb dX12_byDeadline_41 rfl (lv_at hl 2 rfl) ?_
              refine lv_iload_n hx hb dX12_byDeadline_42 rfl (lv_at hl 0 rfl) ?_
              refine va_calll (va_runV (As := [.int (nI y_3)]) (rest := []) ⟨hx, hb, hml, hown, hts⟩ (c_X12_deadline l dC dI g A hG f h0 y_3 q i_h0 hc0 hc0_ok (by first | omega | decide | (simp only [k_c0, k_c1, k_cm1]; omega))) (cwV 1 hts (gi_V (fun w_ h0_ => ⟨List.mem_cons_of_mem _ (List.mem_append_right _ (List.mem_append_right _ (List.mem_append_right _ (List.mem_append_left _ h0_)))), (tb_c_X12_deadline w_ h0_).2⟩) (List.mem_cons_of_mem _ (List.mem_append_left _ (List.mem_of_getElem? (i := 5) rfl))) (List.mem_cons_of_mem _ (List.mem_append_left _ (List.mem_of_getElem? (i := 6) rfl))) (List.mem_cons_of_mem _ (List.mem_append_left _ (List.mem_of_getElem? (i := 7) rfl))) (List.mem_cons_of_mem _ (List.mem_append_left _ (List.mem_of_getElem? (i := 4) rfl)))) rfl rfl rfl (by decide +kernel) ⟨Nat.le_of_ble_eq_true rfl, Nat.le_of_ble_eq_true rfl⟩) ⟨fun a U g mk q => ⟨q.1, q.2.calling rfl rfl⟩, k_recv hK hI i_h0.1 k_8 (ci := 12) rfl, fun U hU hW => ⟨rfl, kIn.of hI hK hE hS hU hW⟩⟩ rfl rfl hl.1 rfl (lv_room (Nat.le_of_ble_eq_true rfl)) dX12_byDeadline_43 ⟨Nat.le_of_ble_eq_true rfl, Nat.le_of_ble_eq_true rfl⟩) hS (fun q _ h => h) (fun q h => h) (fun r_43 u t H1 locs ht hvm w_42 hB hz1 hk1 hS => ?_)
              have hI : Iv dC dI g A f t.heap := hB
              rw [ht] at hI
              generalize H1 = H at hI hS ⊢
              refine W.widen (k := 0) (n := 0) (Nat.le_of_ble_eq_true rfl) (Nat.le_of_ble_eq_true rfl) ?_
              refine lv_aload_n hx hb dX12_byDeadline_46 rfl (lv_at hl 2 rfl) ?_
              obtain ⟨m_44, em_44, tm_44⟩ := k_nat (x := y_4) (by omega)
              refine lv_iload_n hx hb dX12_byDeadline_47 rfl (lv_at hl 1 rfl) ?_
              refine k_topi (y := nI m_44) em_44 ?_
              refine va_calll (va_runV (As := [.int (nI m_44)]) (rest := [.long r_43]) ⟨hx, hb, hml, hown, hts⟩ (c_X12_deadline l dC dI g A hG f h0 m_44 q i_h0 hc0 hc0_ok (by first | omega | decide | (simp only [k_c0, k_c1, k_cm1]; omega))) (cwV 1 hts (gi_V (fun w_ h0_ => ⟨List.mem_cons_of_mem _ (List.mem_append_right _ (List.mem_append_right _ (List.mem_append_right _ (List.mem_append_left _ h0_)))), (tb_c_X12_deadline w_ h0_).2⟩) (List.mem_cons_of_mem _ (List.mem_append_left _ (List.mem_of_getElem? (i := 5) rfl))) (List.mem_cons_of_mem _ (List.mem_append_left _ (List.mem_of_getElem? (i := 6) rfl))) (List.mem_cons_of_mem _ (List.mem_append_left _ (List.mem_of_getElem? (i := 7) rfl))) (List.mem_cons_of_mem _ (List.mem_append_left _ (List.mem_of_getElem? (i := 4) rfl)))) rfl rfl rfl (by decide +kernel) ⟨Nat.le_of_ble_eq_true rfl, Nat.le_of_ble_eq_true rfl⟩) ⟨fun a U g mk q => ⟨q.1, q.2.calling rfl rfl⟩, k_recv hK hI i_h0.1 k_8 (ci := 12) rfl, fun U hU hW => ⟨rfl, kIn.of hI hK hE hS hU hW⟩⟩ rfl rfl hl.1 rfl (lv_room (Nat.le_of_ble_eq_true rfl)) dX12_byDeadline_48 ⟨Nat.le_of_ble_eq_true rfl, Nat.le_of_ble_eq_true rfl⟩) hS (fun q _ h => h) (fun q h => h) (fun r_46 u t H1 locs ht hvm w_45 hB hz1 hk1 hS => ?_)
              have hI : Iv dC dI g A f t.heap := hB
              rw [ht] at hI
              generalize H1 = H at hI hS ⊢
              refine W.widen (k := 0) (n := 0) (Nat.le_of_ble_eq_true rfl) (Nat.le_of_ble_eq_true rfl) ?_
              refine W.lcmp hx hb dX12_byDeadline_51 ?_
              refine lv_if_ge (tgt := 59) hx hb dX12_byDeadline_52 (by decide) (fun c_47 => ?_) (fun c_47 => ?_)
              · have c_47 := lc_le rfl rfl ((lg_cmp_ge _ _).mp c_47)
                refine lv_iload_n hx hb dX12_byDeadline_59 rfl (lv_at hl 1 rfl) ?_
                refine k_topi (y := nI m_44) em_44 ?_
                have g_48 := nI_toInt (n := m_44) (by omega)
                exact J_60 (nI m_44) _ _ _ hI hS (by first | omega | decide) (lv_sub hl [0, 1, 2, 3] rfl)
              · have c_47 := ln_le rfl rfl (fun h9 => c_47 ((lg_cmp_ge _ _).mpr h9))
                exact J_55  _ _ _ hI hS  (lv_sub hl [0, 1, 2, 3] rfl)
          refine lv_if_eq (tgt := 36) hx hb dX12_byDeadline_25 (by decide) (fun c_49 => ?_) (fun c_49 => ?_)
          · have c_49 := kc_eq rfl (by decide : Int32.toInt 0 = 0) c_49
            exact J_36  _ _ _ hI hS  (lv_sub hl [0, 1, 2, 3] rfl)
          · have c_49 := kn_eq rfl (by decide : Int32.toInt 0 = 0) c_49
            refine lv_aload_n hx hb dX12_byDeadline_28 rfl (lv_at hl 2 rfl) ?_
            refine lv_iload_n hx hb dX12_byDeadline_29 rfl (lv_at hl 0 rfl) ?_
            refine va_calli (va_runV (As := [.int (nI y_3)]) (rest := []) ⟨hx, hb, hml, hown, hts⟩ (c_X12_isEligible l dC dI g A hG f h0 y_3 q i_h0 hc0 hc0_ok (by first | omega | decide | (simp only [k_c0, k_c1, k_cm1]; omega))) (cwV 1 hts (gi_V (fun w_ h0_ => ⟨List.mem_cons_of_mem _ (List.mem_append_right _ (List.mem_append_right _ (List.mem_append_right _ (List.mem_append_right _ (List.mem_append_left _ h0_))))), (tb_c_X12_isEligible w_ h0_).2⟩) (List.mem_cons_of_mem _ (List.mem_append_left _ (List.mem_of_getElem? (i := 8) rfl))) (List.mem_cons_of_mem _ (List.mem_append_left _ (List.mem_of_getElem? (i := 9) rfl))) (List.mem_cons_of_mem _ (List.mem_append_left _ (List.mem_of_getElem? (i := 10) rfl))) (List.mem_cons_of_mem _ (List.mem_append_left _ (List.mem_of_getElem? (i := 4) rfl)))) rfl rfl rfl (by decide +kernel) ⟨Nat.le_of_ble_eq_true rfl, Nat.le_of_ble_eq_true rfl⟩) ⟨fun a U g mk q => ⟨q.1, q.2.calling rfl rfl⟩, k_recv hK hI i_h0.1 k_8 (ci := 12) rfl, fun U hU hW => ⟨rfl, kIn.of hI hK hE hS hU hW⟩⟩ rfl rfl hl.1 rfl (lv_room (Nat.le_of_ble_eq_true rfl)) dX12_byDeadline_30 ⟨Nat.le_of_ble_eq_true rfl, Nat.le_of_ble_eq_true rfl⟩) hS (fun q _ h => h) (fun q h => h) (fun r_51 u t H1 locs ht hvm w_50 hB hz1 hk1 hS => ?_)
            have hI : Iv dC dI g A f t.heap := hB
            rw [ht] at hI
            generalize H1 = H at hI hS ⊢
            refine W.widen (k := 0) (n := 0) (Nat.le_of_ble_eq_true rfl) (Nat.le_of_ble_eq_true rfl) ?_
            refine lv_if_eq (tgt := 61) hx hb dX12_byDeadline_33 (by decide) (fun c_52 => ?_) (fun c_52 => ?_)
            · have c_52 := kc_eq rfl (by decide : Int32.toInt 0 = 0) c_52
              exact J_61 y_4 _ _ _ hI hS (by first | omega | decide) (lv_sub hl [0, 1, 2, 3] rfl)
            · have c_52 := kn_eq rfl (by decide : Int32.toInt 0 = 0) c_52
              exact J_36  _ _ _ hI hS  (lv_sub hl [0, 1, 2, 3] rfl)
  exact K_4 _ 0 (-1) _ _ _ (Nat.lt_succ_self _) hI hS (by first | omega | decide | (simp only [show Int32.toInt (-1) = (-1) from by decide]; omega)) (by first | omega | decide | (simp only [show Int32.toInt (-1) = (-1) from by decide]; omega)) (lv_sub hl [0, 1, 2, 3] rfl)
theorem tw_784 : q_g (.code yX12_byVirtual cX12_byVirtual 3 (some .int)) := ⟨(List.mem_append_right _ (List.mem_of_getElem? (i := 1412) (by decide +kernel))), good_of_word (by decide +kernel)⟩
def ow_c_X12_byVirtual : List Cond := [.fieldLink RX12 16 "DeadlineShareModel" "row" "[J", .methodLink RX12 90 yX12_isOn, .instanceMethod yX12_isOn, .selects RX12 yX12_isOn yX12_isOn, .initialized RX12, .methodLink RX12 98 yX12_virtual, .instanceMethod yX12_virtual, .selects RX12 yX12_virtual yX12_virtual]
def wq_c_X12_byVirtual : List Cond := .code yX12_byVirtual cX12_byVirtual 3 (some .int) :: (ow_c_X12_byVirtual ++ (u_ws RX12 TX12 27 ++ (wq_c_X12_isOn ++ (wq_c_X12_virtual ++ ([] : List Cond)))))
theorem tb_c_X12_byVirtual : ∀ w ∈ wq_c_X12_byVirtual, q_g w := by
  unfold wq_c_X12_byVirtual ow_c_X12_byVirtual
  exact q_cons tw_784 (q_app (q_cons tw_731 (q_cons tw_744 (q_cons tw_743 (q_cons tw_742 (q_cons tw_728 (q_cons tw_748 (q_cons tw_747 (q_cons tw_746 q_nil)))))))) (q_app tu_X12 (q_app tb_c_X12_isOn (q_app tb_c_X12_virtual q_nil))))
set_option maxHeartbeats 4000000 in
set_option maxRecDepth 100000 in
theorem c_X12_byVirtual (l : Launch) (dC : Nat → ClassId) (dI : Nat → Nat → Nat) (g : kG) (A : Nat → Prop) (hG : kWf g) (f : Nat → va_E) (h0 : Nat) (q : Nat → Int64) (i_h0 : ik g 12 h0) (hc0 : f (gr g h0 4) = .inl (gc g 1, 906, .inr (.inl q))) (hc0_ok : RowOK q) : Met l yX12_byVirtual wq_c_X12_byVirtual ({ frames := 2, cells := 0, slots := 0, locals := 41 } : Room) (va_Pc [.ref h0] (fun U => kIn dC dI g A f U)) (va_Qi (fun (r : Int32) (_ : Unit) => -1 ≤ r.toInt ∧ r.toInt < (q 0).toInt) (fun (_ : Unit) t => Iv dC dI g A f t.heap) A) 0 0 A := by
  refine Met.ofW (cc := cX12_byVirtual) (maxL := 3) (ret := (some .int)) (by decide) rfl ?_
  intro p e s m args below meth c s₁ B hml hv
  obtain ⟨rfl, hI, hK, hE⟩ := hv
  have hx := B.exec
  have hb := B.bytes
  have hr := B.returns
  have hts := atoms_spec (ws := wq_c_X12_byVirtual) B.pre
  have hown : s.vm.findClass RX12 = some m.cls := findClass_of_methodNamed B.named
  have hlocks := B.notSynchronized
  have hS : va_S A s.heap s.heap [] := va_S.rf
  have hl := lv_entry ([.ref h0]) (n := 3) (Nat.le_of_ble_eq_true rfl)
  rw [lg_entry_eq]
  generalize (lg_sl ([.ref h0]) ++ List.replicate (3 - (lg_sl ([.ref h0])).length) Slot.unset).toArray = ls at hl ⊢
  have hl : lv_has ls 3 [(0, .ref h0)] := hl
  have i_1 := kw_12_4 hG i_h0
  have d_2 := rk_hd hc0_ok
  refine lv_iconst (v := (-1)) hx hb dX12_byVirtual_0 (by decide) ?_
  refine lv_istore_n (lv' := [(1, .int (-1)), (0, .ref h0)]) hx hb dX12_byVirtual_1 rfl hl (by decide) rfl (fun ls hl => ?_)
  refine lv_iconst (v := 0) hx hb dX12_byVirtual_2 (by decide) ?_
  refine lv_istore_n (lv' := [(2, .int 0), (1, .int (-1)), (0, .ref h0)]) hx hb dX12_byVirtual_3 rfl hl (by decide) rfl (fun ls hl => ?_)
  have K_4 : ∀ (nn : Nat) (y_3 : Nat) (y_4 : Int32) (H : Heap) (locs : List Loc) (ls : Array Slot), 12 - y_3 < nn → Iv dC dI g A f H → va_S A s.heap H locs → (y_3 ≤ 12) → (-1 ≤ y_4.toInt ∧ y_4.toInt < (q 0).toInt) → lv_has ls 3 [(2, .int (nI y_3)), (1, .int y_4), (0, .ref h0)] → W p l e (headSpec wq_c_X12_byVirtual ({ frames := 2, cells := 0, slots := 0, locals := 41 } : Room)).room s m ([.ref h0].toArray) below meth c H locs 0 0 (MQ below (va_Qi (fun (r : Int32) (_ : Unit) => -1 ≤ r.toInt ∧ r.toInt < (q 0).toInt) (fun (_ : Unit) t => Iv dC dI g A f t.heap) A) ([.ref h0].toArray) s 0 0 A) (F0 m 4 ls []) := by
    intro nn
    induction nn with
    | zero => intro y_3 y_4 H locs ls m_7; exact absurd m_7 (Nat.not_lt_zero _)
    | succ nn ih =>
      intro y_3 y_4 H locs ls m_7 hI hS t_5 t_6 hl
      refine lv_iload_n hx hb dX12_byVirtual_4 rfl (lv_at hl 0 rfl) ?_
      refine lv_i2l (v := lN (y_3)) hx hb dX12_byVirtual_5 (nI_l (by omega)) ?_
      refine lv_aload_n hx hb dX12_byVirtual_6 rfl (lv_at hl 2 rfl) ?_
      obtain ⟨x_9, x_10, x_11, x_12, x_13, x_14, x_15, x_16, x_17, x_18, x_19, x_20, x_21, x_22, k_8, b_23, b_24, b_25, b_26, b_27, b_28⟩ := op_12 hI i_h0
      refine k_get (ci := 12) (v := .ref (gr g h0 4)) (C := RX12) (T := TX12) (N := 27) hx hb hts (fun _ h0_ => List.mem_cons_of_mem _ (List.mem_append_right _ (List.mem_append_left _ h0_))) hown hK hI i_h0.1 k_8 rfl 4 (by decide) (hts (.fieldLink RX12 16 "DeadlineShareModel" "row" "[J") (List.mem_cons_of_mem _ (List.mem_append_left _ (List.mem_of_getElem? (i := 0) rfl)))) (fun _ h9 => h9) rfl dX12_byVirtual_7 ?_
      refine lv_iconst (v := 0) hx hb dX12_byVirtual_10 (by decide) ?_
      refine k_lald hx hb hK hI i_1.1 1 hc0 rfl (by unfold vp_in; decide) dX12_byVirtual_11 ?_
      refine k_topl (y := q 0) (congrArg q (show Int32.toNatClampNeg 0 = 0 by decide)) ?_
      refine W.lcmp hx hb dX12_byVirtual_12 ?_
      refine lv_if_ge (tgt := 55) hx hb dX12_byVirtual_13 (by decide) (fun c_31 => ?_) (fun c_31 => ?_)
      · have c_31 := lc_le rfl (lN_toInt (n := y_3) (by omega)) ((lg_cmp_ge _ _).mp c_31)
        refine lv_iload_n hx hb dX12_byVirtual_55 rfl (lv_at hl 1 rfl) ?_
        have w_32 : -1 ≤ y_4.toInt ∧ y_4.toInt < (q 0).toInt := by omega
        exact W.iret (v := y_4) hx hb hr (fun t ht hW => ⟨⟨y_4, (), rfl, w_32, k_ret ht hI⟩, hS.F ht⟩) hS.2.2 dX12_byVirtual_56
      · have c_31 := ln_le rfl (lN_toInt (n := y_3) (by omega)) (fun h9 => c_31 ((lg_cmp_ge _ _).mpr h9))
        refine lv_aload_n hx hb dX12_byVirtual_16 rfl (lv_at hl 2 rfl) ?_
        refine lv_iload_n hx hb dX12_byVirtual_17 rfl (lv_at hl 0 rfl) ?_
        refine va_calli (va_runV (As := [.int (nI y_3)]) (rest := []) ⟨hx, hb, hml, hown, hts⟩ (c_X12_isOn l dC dI g A hG f h0 y_3 q i_h0 hc0 hc0_ok (by first | omega | decide | (simp only [k_c0, k_c1, k_cm1]; omega))) (cwV 1 hts (gi_V (fun w_ h0_ => ⟨List.mem_cons_of_mem _ (List.mem_append_right _ (List.mem_append_right _ (List.mem_append_left _ h0_))), (tb_c_X12_isOn w_ h0_).2⟩) (List.mem_cons_of_mem _ (List.mem_append_left _ (List.mem_of_getElem? (i := 1) rfl))) (List.mem_cons_of_mem _ (List.mem_append_left _ (List.mem_of_getElem? (i := 2) rfl))) (List.mem_cons_of_mem _ (List.mem_append_left _ (List.mem_of_getElem? (i := 3) rfl))) (List.mem_cons_of_mem _ (List.mem_append_left _ (List.mem_of_getElem? (i := 4) rfl)))) rfl rfl rfl (by decide +kernel) ⟨Nat.le_of_ble_eq_true rfl, Nat.le_of_ble_eq_true rfl⟩) ⟨fun a U g mk q => ⟨q.1, q.2.calling rfl rfl⟩, k_recv hK hI i_h0.1 k_8 (ci := 12) rfl, fun U hU hW => ⟨rfl, kIn.of hI hK hE hS hU hW⟩⟩ rfl rfl hl.1 rfl (lv_room (Nat.le_of_ble_eq_true rfl)) dX12_byVirtual_18 ⟨Nat.le_of_ble_eq_true rfl, Nat.le_of_ble_eq_true rfl⟩) hS (fun q _ h => h) (fun q h => h) (fun r_34 u t H1 locs ht hvm w_33 hB hz1 hk1 hS => ?_)
        have hI : Iv dC dI g A f t.heap := hB
        rw [ht] at hI
        generalize H1 = H at hI hS ⊢
        refine W.widen (k := 0) (n := 0) (Nat.le_of_ble_eq_true rfl) (Nat.le_of_ble_eq_true rfl) ?_
        have w_33 : (r_34.toInt = 0 ∧ (q (6 + 43 * y_3 + 2)).toInt ≠ 1) ∨ (r_34.toInt = 1 ∧ (q (6 + 43 * y_3 + 2)).toInt = 1) := w_33
        have J_48 : ∀ (y_35 : Int32) (H : Heap) (locs : List Loc) (ls : Array Slot), Iv dC dI g A f H → va_S A s.heap H locs → (-1 ≤ y_35.toInt ∧ y_35.toInt < (q 0).toInt) → lv_has ls 3 [(2, .int (nI y_3)), (1, .int y_4), (0, .ref h0)] → W p l e (headSpec wq_c_X12_byVirtual ({ frames := 2, cells := 0, slots := 0, locals := 41 } : Room)).room s m ([.ref h0].toArray) below meth c H locs 0 0 (MQ below (va_Qi (fun (r : Int32) (_ : Unit) => -1 ≤ r.toInt ∧ r.toInt < (q 0).toInt) (fun (_ : Unit) t => Iv dC dI g A f t.heap) A) ([.ref h0].toArray) s 0 0 A) (F0 m 48 ls [.int y_35]) := by
          intro y_35 H locs ls hI hS t_36 hl
          refine lv_istore_n (lv' := [(1, .int y_35), (2, .int (nI y_3)), (0, .ref h0)]) hx hb dX12_byVirtual_48 rfl hl (by decide) rfl (fun ls hl => ?_)
          refine lv_iinc (v := nI (y_3 + 1)) (lv' := [(2, .int (nI (y_3 + 1))), (1, .int y_35), (0, .ref h0)]) hx hb dX12_byVirtual_49 hl (k := 1) rfl (nI_1 _) (by decide) rfl (fun ls hl => ?_)
          refine lv_goto (tgt := 4) hx hb dX12_byVirtual_52 (by decide) ?_
          exact ih (y_3 + 1) y_35 _ _ _ (by omega) hI hS (by first | omega | decide) (by first | omega | decide) (lv_sub hl [0, 1, 2] rfl)
        have J_47 : ∀ (H : Heap) (locs : List Loc) (ls : Array Slot), Iv dC dI g A f H → va_S A s.heap H locs → lv_has ls 3 [(2, .int (nI y_3)), (1, .int y_4), (0, .ref h0)] → W p l e (headSpec wq_c_X12_byVirtual ({ frames := 2, cells := 0, slots := 0, locals := 41 } : Room)).room s m ([.ref h0].toArray) below meth c H locs 0 0 (MQ below (va_Qi (fun (r : Int32) (_ : Unit) => -1 ≤ r.toInt ∧ r.toInt < (q 0).toInt) (fun (_ : Unit) t => Iv dC dI g A f t.heap) A) ([.ref h0].toArray) s 0 0 A) (F0 m 47 ls []) := by
          intro H locs ls hI hS  hl
          refine lv_iload_n hx hb dX12_byVirtual_47 rfl (lv_at hl 1 rfl) ?_
          exact J_48 y_4 _ _ _ hI hS (by first | omega | decide) (lv_sub hl [0, 1, 2] rfl)
        refine lv_if_eq (tgt := 47) hx hb dX12_byVirtual_21 (by decide) (fun c_37 => ?_) (fun c_37 => ?_)
        · have c_37 := kc_eq rfl (by decide : Int32.toInt 0 = 0) c_37
          exact J_47  _ _ _ hI hS  (lv_sub hl [0, 1, 2] rfl)
        · have c_37 := kn_eq rfl (by decide : Int32.toInt 0 = 0) c_37
          refine lv_iload_n hx hb dX12_byVirtual_24 rfl (lv_at hl 1 rfl) ?_
          refine lv_iconst (v := (-1)) hx hb dX12_byVirtual_25 (by decide) ?_
          have J_43 : ∀ (H : Heap) (locs : List Loc) (ls : Array Slot), Iv dC dI g A f H → va_S A s.heap H locs → lv_has ls 3 [(2, .int (nI y_3)), (1, .int y_4), (0, .ref h0)] → W p l e (headSpec wq_c_X12_byVirtual ({ frames := 2, cells := 0, slots := 0, locals := 41 } : Room)).room s m ([.ref h0].toArray) below meth c H locs 0 0 (MQ below (va_Qi (fun (r : Int32) (_ : Unit) => -1 ≤ r.toInt ∧ r.toInt < (q 0).toInt) (fun (_ : Unit) t => Iv dC dI g A f t.heap) A) ([.ref h0].toArray) s 0 0 A) (F0 m 43 ls []) := by
            intro H locs ls hI hS  hl
            refine lv_iload_n hx hb dX12_byVirtual_43 rfl (lv_at hl 0 rfl) ?_
            refine lv_goto (tgt := 48) hx hb dX12_byVirtual_44 (by decide) ?_
            have g_38 := nI_toInt (n := y_3) (by omega)
            exact J_48 (nI y_3) _ _ _ hI hS (by first | omega | decide) (lv_sub hl [0, 1, 2] rfl)
          refine lv_icmp_eq (tgt := 43) hx hb dX12_byVirtual_26 (by decide) (fun c_39 => ?_) (fun c_39 => ?_)
          · have c_39 := kc_eq rfl (by decide : Int32.toInt (-1) = (-1)) c_39
            exact J_43  _ _ _ hI hS  (lv_sub hl [0, 1, 2] rfl)
          · have c_39 := kn_eq rfl (by decide : Int32.toInt (-1) = (-1)) c_39
            refine lv_aload_n hx hb dX12_byVirtual_29 rfl (lv_at hl 2 rfl) ?_
            refine lv_iload_n hx hb dX12_byVirtual_30 rfl (lv_at hl 0 rfl) ?_
            refine va_calll (va_runV (As := [.int (nI y_3)]) (rest := []) ⟨hx, hb, hml, hown, hts⟩ (c_X12_virtual l dC dI g A hG f h0 y_3 q i_h0 hc0 hc0_ok (by first | omega | decide | (simp only [k_c0, k_c1, k_cm1]; omega))) (cwV 1 hts (gi_V (fun w_ h0_ => ⟨List.mem_cons_of_mem _ (List.mem_append_right _ (List.mem_append_right _ (List.mem_append_right _ (List.mem_append_left _ h0_)))), (tb_c_X12_virtual w_ h0_).2⟩) (List.mem_cons_of_mem _ (List.mem_append_left _ (List.mem_of_getElem? (i := 5) rfl))) (List.mem_cons_of_mem _ (List.mem_append_left _ (List.mem_of_getElem? (i := 6) rfl))) (List.mem_cons_of_mem _ (List.mem_append_left _ (List.mem_of_getElem? (i := 7) rfl))) (List.mem_cons_of_mem _ (List.mem_append_left _ (List.mem_of_getElem? (i := 4) rfl)))) rfl rfl rfl (by decide +kernel) ⟨Nat.le_of_ble_eq_true rfl, Nat.le_of_ble_eq_true rfl⟩) ⟨fun a U g mk q => ⟨q.1, q.2.calling rfl rfl⟩, k_recv hK hI i_h0.1 k_8 (ci := 12) rfl, fun U hU hW => ⟨rfl, kIn.of hI hK hE hS hU hW⟩⟩ rfl rfl hl.1 rfl (lv_room (Nat.le_of_ble_eq_true rfl)) dX12_byVirtual_31 ⟨Nat.le_of_ble_eq_true rfl, Nat.le_of_ble_eq_true rfl⟩) hS (fun q _ h => h) (fun q h => h) (fun r_41 u t H1 locs ht hvm w_40 hB hz1 hk1 hS => ?_)
            have hI : Iv dC dI g A f t.heap := hB
            rw [ht] at hI
            generalize H1 = H at hI hS ⊢
            refine W.widen (k := 0) (n := 0) (Nat.le_of_ble_eq_true rfl) (Nat.le_of_ble_eq_true rfl) ?_
            refine lv_aload_n hx hb dX12_byVirtual_34 rfl (lv_at hl 2 rfl) ?_
            obtain ⟨m_42, em_42, tm_42⟩ := k_nat (x := y_4) (by omega)
            refine lv_iload_n hx hb dX12_byVirtual_35 rfl (lv_at hl 1 rfl) ?_
            refine k_topi (y := nI m_42) em_42 ?_
            refine va_calll (va_runV (As := [.int (nI m_42)]) (rest := [.long r_41]) ⟨hx, hb, hml, hown, hts⟩ (c_X12_virtual l dC dI g A hG f h0 m_42 q i_h0 hc0 hc0_ok (by first | omega | decide | (simp only [k_c0, k_c1, k_cm1]; omega))) (cwV 1 hts (gi_V (fun w_ h0_ => ⟨List.mem_cons_of_mem _ (List.mem_append_right _ (List.mem_append_right _ (List.mem_append_right _ (List.mem_append_left _ h0_)))), (tb_c_X12_virtual w_ h0_).2⟩) (List.mem_cons_of_mem _ (List.mem_append_left _ (List.mem_of_getElem? (i := 5) rfl))) (List.mem_cons_of_mem _ (List.mem_append_left _ (List.mem_of_getElem? (i := 6) rfl))) (List.mem_cons_of_mem _ (List.mem_append_left _ (List.mem_of_getElem? (i := 7) rfl))) (List.mem_cons_of_mem _ (List.mem_append_left _ (List.mem_of_getElem? (i := 4) rfl)))) rfl rfl rfl (by decide +kernel) ⟨Nat.le_of_ble_eq_true rfl, Nat.le_of_ble_eq_true rfl⟩) ⟨fun a U g mk q => ⟨q.1, q.2.calling rfl rfl⟩, k_recv hK hI i_h0.1 k_8 (ci := 12) rfl, fun U hU hW => ⟨rfl, kIn.of hI hK hE hS hU hW⟩⟩ rfl rfl hl.1 rfl (lv_room (Nat.le_of_ble_eq_true rfl)) dX12_byVirtual_36 ⟨Nat.le_of_ble_eq_true rfl, Nat.le_of_ble_eq_true rfl⟩) hS (fun q _ h => h) (fun q h => h) (fun r_44 u t H1 locs ht hvm w_43 hB hz1 hk1 hS => ?_)
            have hI : Iv dC dI g A f t.heap := hB
            rw [ht] at hI
            generalize H1 = H at hI hS ⊢
            refine W.widen (k := 0) (n := 0) (Nat.le_of_ble_eq_true rfl) (Nat.le_of_ble_eq_true rfl) ?_
            refine W.lcmp hx hb dX12_byVirtual_39 ?_
            refine lv_if_ge (tgt := 47) hx hb dX12_byVirtual_40 (by decide) (fun c_45 => ?_) (fun c_45 => ?_)
            · have c_45 := lc_le rfl rfl ((lg_cmp_ge _ _).mp c_45)
              exact J_47  _ _ _ hI hS  (lv_sub hl [0, 1, 2] rfl)
            · have c_45 := ln_le rfl rfl (fun h9 => c_45 ((lg_cmp_ge _ _).mpr h9))
              exact J_43  _ _ _ hI hS  (lv_sub hl [0, 1, 2] rfl)
  exact K_4 _ 0 (-1) _ _ _ (Nat.lt_succ_self _) hI hS (by first | omega | decide | (simp only [show Int32.toInt (-1) = (-1) from by decide]; omega)) (by first | omega | decide | (simp only [show Int32.toInt (-1) = (-1) from by decide]; omega)) (lv_sub hl [0, 1, 2] rfl)
theorem tw_785 : q_g (.code yX12_inTurn cX12_inTurn 6 (some .int)) := ⟨(List.mem_append_right _ (List.mem_of_getElem? (i := 1424) (by decide +kernel))), good_of_word (by decide +kernel)⟩
def ow_c_X12_inTurn : List Cond := [.fieldLink RX12 16 "DeadlineShareModel" "row" "[J", .methodLink RX12 90 yX12_isOn, .instanceMethod yX12_isOn, .selects RX12 yX12_isOn yX12_isOn, .initialized RX12]
def wq_c_X12_inTurn : List Cond := .code yX12_inTurn cX12_inTurn 6 (some .int) :: (ow_c_X12_inTurn ++ (u_ws RX12 TX12 27 ++ (wq_c_X12_isOn ++ ([] : List Cond))))
theorem tb_c_X12_inTurn : ∀ w ∈ wq_c_X12_inTurn, q_g w := by
  unfold wq_c_X12_inTurn ow_c_X12_inTurn
  exact q_cons tw_785 (q_app (q_cons tw_731 (q_cons tw_744 (q_cons tw_743 (q_cons tw_742 (q_cons tw_728 q_nil))))) (q_app tu_X12 (q_app tb_c_X12_isOn q_nil)))
set_option maxHeartbeats 4000000 in
set_option maxRecDepth 100000 in
theorem c_X12_inTurn (l : Launch) (dC : Nat → ClassId) (dI : Nat → Nat → Nat) (g : kG) (A : Nat → Prop) (hG : kWf g) (f : Nat → va_E) (h0 : Nat) (q : Nat → Int64) (i_h0 : ik g 12 h0) (hc0 : f (gr g h0 4) = .inl (gc g 1, 906, .inr (.inl q))) (hc0_ok : RowOK q) : Met l yX12_inTurn wq_c_X12_inTurn ({ frames := 2, cells := 0, slots := 0, locals := 41 } : Room) (va_Pc [.ref h0] (fun U => kIn dC dI g A f U)) (va_Qi (fun (r : Int32) (_ : Unit) => -1 ≤ r.toInt ∧ r.toInt < (q 0).toInt) (fun (_ : Unit) t => Iv dC dI g A f t.heap) A) 0 0 A := by
  refine Met.ofW (cc := cX12_inTurn) (maxL := 6) (ret := (some .int)) (by decide) rfl ?_
  intro p e s m args below meth c s₁ B hml hv
  obtain ⟨rfl, hI, hK, hE⟩ := hv
  have hx := B.exec
  have hb := B.bytes
  have hr := B.returns
  have hts := atoms_spec (ws := wq_c_X12_inTurn) B.pre
  have hown : s.vm.findClass RX12 = some m.cls := findClass_of_methodNamed B.named
  have hlocks := B.notSynchronized
  have hS : va_S A s.heap s.heap [] := va_S.rf
  have hl := lv_entry ([.ref h0]) (n := 6) (Nat.le_of_ble_eq_true rfl)
  rw [lg_entry_eq]
  generalize (lg_sl ([.ref h0]) ++ List.replicate (6 - (lg_sl ([.ref h0])).length) Slot.unset).toArray = ls at hl ⊢
  have hl : lv_has ls 6 [(0, .ref h0)] := hl
  have i_1 := kw_12_4 hG i_h0
  have d_2 := rk_hd hc0_ok
  refine lv_aload_n hx hb dX12_inTurn_0 rfl (lv_at hl 0 rfl) ?_
  obtain ⟨x_4, x_5, x_6, x_7, x_8, x_9, x_10, x_11, x_12, x_13, x_14, x_15, x_16, x_17, k_3, b_18, b_19, b_20, b_21, b_22, b_23⟩ := op_12 hI i_h0
  refine k_get (ci := 12) (v := .ref (gr g h0 4)) (C := RX12) (T := TX12) (N := 27) hx hb hts (fun _ h0_ => List.mem_cons_of_mem _ (List.mem_append_right _ (List.mem_append_left _ h0_))) hown hK hI i_h0.1 k_3 rfl 4 (by decide) (hts (.fieldLink RX12 16 "DeadlineShareModel" "row" "[J") (List.mem_cons_of_mem _ (List.mem_append_left _ (List.mem_of_getElem? (i := 0) rfl)))) (fun _ h9 => h9) rfl dX12_inTurn_1 ?_
  refine lv_iconst (v := 0) hx hb dX12_inTurn_4 (by decide) ?_
  refine k_lald hx hb hK hI i_1.1 1 hc0 rfl (by unfold vp_in; decide) dX12_inTurn_5 ?_
  refine k_topl (y := q 0) (congrArg q (show Int32.toNatClampNeg 0 = 0 by decide)) ?_
  refine lv_l2i (v := (q 0).toInt32) hx hb dX12_inTurn_6 rfl ?_
  refine lv_topi (fun v_26 ev_26 => ?_)
  have tv_26 := k_l2i (q 0)
  rw [← ev_26] at tv_26
  refine lv_istore_n (lv' := [(1, .int v_26), (0, .ref h0)]) hx hb dX12_inTurn_7 rfl hl (by decide) rfl (fun ls hl => ?_)
  refine lv_aload_n hx hb dX12_inTurn_8 rfl (lv_at hl 1 rfl) ?_
  refine k_get (ci := 12) (v := .ref (gr g h0 4)) (C := RX12) (T := TX12) (N := 27) hx hb hts (fun _ h0_ => List.mem_cons_of_mem _ (List.mem_append_right _ (List.mem_append_left _ h0_))) hown hK hI i_h0.1 k_3 rfl 4 (by decide) (hts (.fieldLink RX12 16 "DeadlineShareModel" "row" "[J") (List.mem_cons_of_mem _ (List.mem_append_left _ (List.mem_of_getElem? (i := 0) rfl)))) (fun _ h9 => h9) rfl dX12_inTurn_9 ?_
  refine lv_iconst (v := 3) hx hb dX12_inTurn_12 (by decide) ?_
  refine k_lald hx hb hK hI i_1.1 1 hc0 rfl (by unfold vp_in; decide) dX12_inTurn_13 ?_
  refine k_topl (y := q 3) (congrArg q (show Int32.toNatClampNeg 3 = 3 by decide)) ?_
  refine lv_l2i (v := (q 3).toInt32) hx hb dX12_inTurn_14 rfl ?_
  refine lv_topi (fun v_29 ev_29 => ?_)
  have tv_29 := k_l2i (q 3)
  rw [← ev_29] at tv_29
  refine lv_istore_n (lv' := [(2, .int v_29), (1, .int v_26), (0, .ref h0)]) hx hb dX12_inTurn_15 rfl hl (by decide) rfl (fun ls hl => ?_)
  refine lv_iconst (v := (-1)) hx hb dX12_inTurn_16 (by decide) ?_
  refine lv_istore_n (lv' := [(3, .int (-1)), (2, .int v_29), (1, .int v_26), (0, .ref h0)]) hx hb dX12_inTurn_17 rfl hl (by decide) rfl (fun ls hl => ?_)
  refine lv_iload_n hx hb dX12_inTurn_18 rfl (lv_at hl 2 rfl) ?_
  refine lv_istore (lv' := [(4, .int v_26), (3, .int (-1)), (2, .int v_29), (1, .int v_26), (0, .ref h0)]) hx hb dX12_inTurn_19 hl (by decide) rfl (fun ls hl => ?_)
  have K_21 : ∀ (nn : Nat) (y_30 : Int32) (y_31 : Int32) (H : Heap) (locs : List Loc) (ls : Array Slot), y_30.toInt.toNat < nn → Iv dC dI g A f H → va_S A s.heap H locs → (y_30.toInt ≤ v_26.toInt) → (-1 ≤ y_31.toInt ∧ y_31.toInt < (q 0).toInt) → lv_has ls 6 [(4, .int y_30), (3, .int y_31), (2, .int v_29), (1, .int v_26), (0, .ref h0)] → W p l e (headSpec wq_c_X12_inTurn ({ frames := 2, cells := 0, slots := 0, locals := 41 } : Room)).room s m ([.ref h0].toArray) below meth c H locs 0 0 (MQ below (va_Qi (fun (r : Int32) (_ : Unit) => -1 ≤ r.toInt ∧ r.toInt < (q 0).toInt) (fun (_ : Unit) t => Iv dC dI g A f t.heap) A) ([.ref h0].toArray) s 0 0 A) (F0 m 21 ls []) := by
    intro nn
    induction nn with
    | zero => intro y_30 y_31 H locs ls m_34; exact absurd m_34 (Nat.not_lt_zero _)
    | succ nn ih =>
      intro y_30 y_31 H locs ls m_34 hI hS t_32 t_33 hl
      have g_35 := Int32.toInt_lt y_30
      have g_36 := Int32.le_toInt y_30
      refine lv_iload hx hb dX12_inTurn_21 (lv_at hl 0 rfl) ?_
      refine lv_if_le (tgt := 56) hx hb dX12_inTurn_23 (by decide) (fun c_37 => ?_) (fun c_37 => ?_)
      · have c_37 := kc_le rfl (by decide : Int32.toInt 0 = 0) c_37
        refine lv_iload_n hx hb dX12_inTurn_56 rfl (lv_at hl 1 rfl) ?_
        have w_38 : -1 ≤ y_31.toInt ∧ y_31.toInt < (q 0).toInt := by omega
        exact W.iret (v := y_31) hx hb hr (fun t ht hW => ⟨⟨y_31, (), rfl, w_38, k_ret ht hI⟩, hS.F ht⟩) hS.2.2 dX12_inTurn_57
      · have c_37 := kn_le rfl (by decide : Int32.toInt 0 = 0) c_37
        refine lv_iload_n hx hb dX12_inTurn_26 rfl (lv_at hl 2 rfl) ?_
        refine lv_iload hx hb dX12_inTurn_27 (lv_at hl 0 rfl) ?_
        refine lv_iadd hx hb dX12_inTurn_29 ?_
        refine lv_topi (fun v_39 ev_39 => ?_)
        have tv_39 := k_ad v_29 y_30
        rw [← ev_39] at tv_39
        refine lv_iload_n hx hb dX12_inTurn_30 rfl (lv_at hl 3 rfl) ?_
        refine lv_irem hx hb dX12_inTurn_31 (k_ne0 (by omega)) ?_
        refine lv_topi (fun v_42 ev_42 => ?_)
        obtain ⟨m_40, em_40, tm_40⟩ := k_nat (x := v_39) (by omega)
        obtain ⟨m_41, em_41, tm_41⟩ := k_nat (x := v_26) (by omega)
        obtain ⟨m_43, em_43⟩ : ∃ m9 : Nat, m9 = m_40 % m_41 := ⟨_, rfl⟩
        have tm_43 : m_43 < m_41 := by rw [em_43]; exact Nat.mod_lt _ (by omega)
        refine k_topi (y := nI m_43) (by rw [ev_42, em_40, em_41, em_43]; exact pk_rem (by omega) (by omega) (by omega)) ?_
        refine lv_istore (lv' := [(5, .int (nI m_43)), (4, .int y_30), (3, .int y_31), (2, .int v_29), (1, .int v_26), (0, .ref h0)]) hx hb dX12_inTurn_32 hl (by decide) rfl (fun ls hl => ?_)
        refine lv_aload_n hx hb dX12_inTurn_34 rfl (lv_at hl 5 rfl) ?_
        refine lv_iload hx hb dX12_inTurn_35 (lv_at hl 0 rfl) ?_
        refine va_calli (va_runV (As := [.int (nI m_43)]) (rest := []) ⟨hx, hb, hml, hown, hts⟩ (c_X12_isOn l dC dI g A hG f h0 m_43 q i_h0 hc0 hc0_ok (by first | omega | decide | (simp only [k_c0, k_c1, k_cm1]; omega))) (cwV 1 hts (gi_V (fun w_ h0_ => ⟨List.mem_cons_of_mem _ (List.mem_append_right _ (List.mem_append_right _ (List.mem_append_left _ h0_))), (tb_c_X12_isOn w_ h0_).2⟩) (List.mem_cons_of_mem _ (List.mem_append_left _ (List.mem_of_getElem? (i := 1) rfl))) (List.mem_cons_of_mem _ (List.mem_append_left _ (List.mem_of_getElem? (i := 2) rfl))) (List.mem_cons_of_mem _ (List.mem_append_left _ (List.mem_of_getElem? (i := 3) rfl))) (List.mem_cons_of_mem _ (List.mem_append_left _ (List.mem_of_getElem? (i := 4) rfl)))) rfl rfl rfl (by decide +kernel) ⟨Nat.le_of_ble_eq_true rfl, Nat.le_of_ble_eq_true rfl⟩) ⟨fun a U g mk q => ⟨q.1, q.2.calling rfl rfl⟩, k_recv hK hI i_h0.1 k_3 (ci := 12) rfl, fun U hU hW => ⟨rfl, kIn.of hI hK hE hS hU hW⟩⟩ rfl rfl hl.1 rfl (lv_room (Nat.le_of_ble_eq_true rfl)) dX12_inTurn_37 ⟨Nat.le_of_ble_eq_true rfl, Nat.le_of_ble_eq_true rfl⟩) hS (fun q _ h => h) (fun q h => h) (fun r_45 u t H1 locs ht hvm w_44 hB hz1 hk1 hS => ?_)
        have hI : Iv dC dI g A f t.heap := hB
        rw [ht] at hI
        generalize H1 = H at hI hS ⊢
        refine W.widen (k := 0) (n := 0) (Nat.le_of_ble_eq_true rfl) (Nat.le_of_ble_eq_true rfl) ?_
        have w_44 : (r_45.toInt = 0 ∧ (q (6 + 43 * m_43 + 2)).toInt ≠ 1) ∨ (r_45.toInt = 1 ∧ (q (6 + 43 * m_43 + 2)).toInt = 1) := w_44
        have J_49 : ∀ (y_46 : Int32) (H : Heap) (locs : List Loc) (ls : Array Slot), Iv dC dI g A f H → va_S A s.heap H locs → (-1 ≤ y_46.toInt ∧ y_46.toInt < (q 0).toInt) → lv_has ls 6 [(5, .int (nI m_43)), (4, .int y_30), (3, .int y_31), (2, .int v_29), (1, .int v_26), (0, .ref h0)] → W p l e (headSpec wq_c_X12_inTurn ({ frames := 2, cells := 0, slots := 0, locals := 41 } : Room)).room s m ([.ref h0].toArray) below meth c H locs 0 0 (MQ below (va_Qi (fun (r : Int32) (_ : Unit) => -1 ≤ r.toInt ∧ r.toInt < (q 0).toInt) (fun (_ : Unit) t => Iv dC dI g A f t.heap) A) ([.ref h0].toArray) s 0 0 A) (F0 m 49 ls [.int y_46]) := by
          intro y_46 H locs ls hI hS t_47 hl
          refine lv_istore_n (lv' := [(3, .int y_46), (5, .int (nI m_43)), (4, .int y_30), (2, .int v_29), (1, .int v_26), (0, .ref h0)]) hx hb dX12_inTurn_49 rfl hl (by decide) rfl (fun ls hl => ?_)
          obtain ⟨v_48, ev_48⟩ : ∃ y : Int32, y = y_30 + Int32.ofInt (-1) := ⟨_, rfl⟩
          refine lv_iinc (v := v_48) (lv' := [(4, .int v_48), (3, .int y_46), (5, .int (nI m_43)), (2, .int v_29), (1, .int v_26), (0, .ref h0)]) hx hb dX12_inTurn_50 hl (k := 2) rfl ev_48.symm (by decide) rfl (fun ls hl => ?_)
          have tv_48 := k_dec y_30
          rw [← ev_48] at tv_48
          refine lv_goto (tgt := 21) hx hb dX12_inTurn_53 (by decide) ?_
          exact ih v_48 y_46 _ _ _ (by omega) hI hS (by first | omega | decide) (by first | omega | decide) (lv_sub hl [0, 1, 3, 4, 5] rfl)
        refine lv_if_eq (tgt := 48) hx hb dX12_inTurn_40 (by decide) (fun c_49 => ?_) (fun c_49 => ?_)
        · have c_49 := kc_eq rfl (by decide : Int32.toInt 0 = 0) c_49
          refine lv_iload_n hx hb dX12_inTurn_48 rfl (lv_at hl 2 rfl) ?_
          exact J_49 y_31 _ _ _ hI hS (by first | omega | decide) (lv_sub hl [0, 1, 2, 3, 4, 5] rfl)
        · have c_49 := kn_eq rfl (by decide : Int32.toInt 0 = 0) c_49
          refine lv_iload hx hb dX12_inTurn_43 (lv_at hl 0 rfl) ?_
          refine lv_goto (tgt := 49) hx hb dX12_inTurn_45 (by decide) ?_
          have g_50 := nI_toInt (n := m_43) (by omega)
          exact J_49 (nI m_43) _ _ _ hI hS (by first | omega | decide) (lv_sub hl [0, 1, 2, 3, 4, 5] rfl)
  exact K_21 _ v_26 (-1) _ _ _ (Nat.lt_succ_self _) hI hS (by first | omega | decide | (simp only [show Int32.toInt (-1) = (-1) from by decide]; omega)) (by first | omega | decide | (simp only [show Int32.toInt (-1) = (-1) from by decide]; omega)) (lv_sub hl [0, 1, 2, 3, 4] rfl)
