theorem tw_786 : q_g (.constantLong RX12 254 (1000003)) := ⟨(List.mem_append_right _ (List.mem_of_getElem? (i := 1431) (by decide +kernel))), good_of_word (by decide +kernel)⟩
theorem tw_787 : q_g (.constantLong RX12 252 (12345)) := ⟨(List.mem_append_right _ (List.mem_of_getElem? (i := 1430) (by decide +kernel))), good_of_word (by decide +kernel)⟩
theorem tw_788 : q_g (.fieldLink RX12 249 "DeadlineShareModel" "state" "J") := ⟨(List.mem_append_right _ (List.mem_of_getElem? (i := 1121) (by decide +kernel))), good_of_word (by decide +kernel)⟩
theorem tw_789 : q_g (.constantLong RX12 247 (1103)) := ⟨(List.mem_append_right _ (List.mem_of_getElem? (i := 1429) (by decide +kernel))), good_of_word (by decide +kernel)⟩
theorem tw_790 : q_g (.code yX12_byDraws cX12_byDraws 7 (some .int)) := ⟨(List.mem_append_right _ (List.mem_of_getElem? (i := 1428) (by decide +kernel))), good_of_word (by decide +kernel)⟩
def ow_c_X12_byDraws : List Cond := [.methodLink RX12 105 yX12_heavy, .instanceMethod yX12_heavy, .selects RX12 yX12_heavy yX12_heavy, .initialized RX12, .constantLong RX12 247 (1103), .fieldLink RX12 249 "DeadlineShareModel" "state" "J", .constantLong RX12 252 (12345), .constantLong RX12 254 (1000003), .fieldLink RX12 16 "DeadlineShareModel" "row" "[J", .methodLink RX12 90 yX12_isOn, .instanceMethod yX12_isOn, .selects RX12 yX12_isOn yX12_isOn, .methodLink RX12 94 yX12_weight, .instanceMethod yX12_weight, .selects RX12 yX12_weight yX12_weight]
def wq_c_X12_byDraws : List Cond := .code yX12_byDraws cX12_byDraws 7 (some .int) :: (ow_c_X12_byDraws ++ (wq_c_X12_heavy ++ (u_ws RX12 TX12 27 ++ (wq_c_X12_isOn ++ (wq_c_X12_weight ++ ([] : List Cond))))))
theorem tb_c_X12_byDraws : ∀ w ∈ wq_c_X12_byDraws, q_g w := by
  unfold wq_c_X12_byDraws ow_c_X12_byDraws
  exact q_cons tw_790 (q_app (q_cons tw_752 (q_cons tw_751 (q_cons tw_750 (q_cons tw_728 (q_cons tw_789 (q_cons tw_788 (q_cons tw_787 (q_cons tw_786 (q_cons tw_731 (q_cons tw_744 (q_cons tw_743 (q_cons tw_742 (q_cons tw_741 (q_cons tw_740 (q_cons tw_739 q_nil))))))))))))))) (q_app tb_c_X12_heavy (q_app tu_X12 (q_app tb_c_X12_isOn (q_app tb_c_X12_weight q_nil)))))
set_option maxHeartbeats 4000000 in
set_option maxRecDepth 100000 in
theorem c_X12_byDraws (l : Launch) (dC : Nat → ClassId) (dI : Nat → Nat → Nat) (g : kG) (A : Nat → Prop) (hG : kWf g) (f : Nat → va_E) (h0 : Nat) (z0 : Int32) (z1 : Int32) (z10 : Int32) (z12 : Int32) (z13 : Int32) (z14 : Int32) (z15 : Int32) (z16 : Int64) (z17 : Int32) (z18 : Int32) (z23 : Int32) (z24 : Int64) (z25 : Int64) (z26 : Int64) (q : Nat → Int64) (i_h0 : ik g 12 h0) (hc0 : f h0 = .inr (12, [.int z0, .int z1, .ref (gr g h0 2), .ref (gr g h0 3), .ref (gr g h0 4), .ref (gr g h0 5), .ref (gr g h0 6), .ref (gr g h0 7), .ref (gr g h0 8), .ref (gr g h0 9), .int z10, .ref (gr g h0 11), .int z12, .int z13, .int z14, .int z15, .long z16, .int z17, .int z18, .ref (gr g h0 19), .ref (gr g h0 20), .ref (gr g h0 21), .ref (gr g h0 22), .int z23, .long z24, .long z25, .long z26])) (hc0_10 : 0 ≤ z10.toInt ∧ z10.toInt ≤ 10) (hc0_12 : 0 ≤ z12.toInt ∧ z12.toInt ≤ 200) (hc0_23 : 0 ≤ z23.toInt ∧ z23.toInt ≤ 8) (hc1 : f (gr g h0 4) = .inl (gc g 1, 906, .inr (.inl q))) (hc1_ok : RowOK q) : Met l yX12_byDraws wq_c_X12_byDraws ({ frames := 3, cells := 0, slots := 0, locals := 64 } : Room) (va_Pc [.ref h0] (fun U => kIn dC dI g A f U)) (va_Qi (fun (r : Int32) (_ : Unit) => -1 ≤ r.toInt ∧ r.toInt < (q 0).toInt) (fun (_ : Unit) t => ∃ f1 : Nat → va_E, Iv dC dI g A f1 t.heap ∧ Kp g [12] f f1 ∧ ∃ (w24 : Int64), (f1 h0 = .inr (12, [.int z0, .int z1, .ref (gr g h0 2), .ref (gr g h0 3), .ref (gr g h0 4), .ref (gr g h0 5), .ref (gr g h0 6), .ref (gr g h0 7), .ref (gr g h0 8), .ref (gr g h0 9), .int z10, .ref (gr g h0 11), .int z12, .int z13, .int z14, .int z15, .long z16, .int z17, .int z18, .ref (gr g h0 19), .ref (gr g h0 20), .ref (gr g h0 21), .ref (gr g h0 22), .int z23, .long w24, .long z25, .long z26]))) A) 0 0 A := by
  refine Met.ofW (cc := cX12_byDraws) (maxL := 7) (ret := (some .int)) (by decide) rfl ?_
  intro p e s m args below meth c s₁ B hml hv
  obtain ⟨rfl, hI, hK, hE⟩ := hv
  have hx := B.exec
  have hb := B.bytes
  have hr := B.returns
  have hts := atoms_spec (ws := wq_c_X12_byDraws) B.pre
  have hown : s.vm.findClass RX12 = some m.cls := findClass_of_methodNamed B.named
  have hlocks := B.notSynchronized
  have hS : va_S A s.heap s.heap [] := va_S.rf
  have hk0 : Kp g [12] f f := Kp.rf
  have hl := lv_entry ([.ref h0]) (n := 7) (Nat.le_of_ble_eq_true rfl)
  rw [lg_entry_eq]
  generalize (lg_sl ([.ref h0]) ++ List.replicate (7 - (lg_sl ([.ref h0])).length) Slot.unset).toArray = ls at hl ⊢
  have hl : lv_has ls 7 [(0, .ref h0)] := hl
  have i_1 := kw_12_4 hG i_h0
  have d_2 := rk_hd hc1_ok
  refine lv_aload_n hx hb dX12_byDraws_0 rfl (lv_at hl 0 rfl) ?_
  refine va_calll (va_runV (As := []) (rest := []) ⟨hx, hb, hml, hown, hts⟩ (c_X12_heavy l dC dI g A hG f h0 q i_h0 hc1 hc1_ok) (cwV 0 hts (gi_V (fun w_ h0_ => ⟨List.mem_cons_of_mem _ (List.mem_append_right _ (List.mem_append_left _ h0_)), (tb_c_X12_heavy w_ h0_).2⟩) (List.mem_cons_of_mem _ (List.mem_append_left _ (List.mem_of_getElem? (i := 0) rfl))) (List.mem_cons_of_mem _ (List.mem_append_left _ (List.mem_of_getElem? (i := 1) rfl))) (List.mem_cons_of_mem _ (List.mem_append_left _ (List.mem_of_getElem? (i := 2) rfl))) (List.mem_cons_of_mem _ (List.mem_append_left _ (List.mem_of_getElem? (i := 3) rfl)))) rfl rfl rfl (by decide +kernel) ⟨Nat.le_of_ble_eq_true rfl, Nat.le_of_ble_eq_true rfl⟩) ⟨fun a U g mk q => ⟨q.1, q.2.calling rfl rfl⟩, k_recv hK hI i_h0.1 hc0 (ci := 12) rfl, fun U hU hW => ⟨rfl, kIn.of hI hK hE hS hU hW⟩⟩ rfl rfl hl.1 rfl (lv_room (Nat.le_of_ble_eq_true rfl)) dX12_byDraws_1 ⟨Nat.le_of_ble_eq_true rfl, Nat.le_of_ble_eq_true rfl⟩) hS (fun q _ h => h) (fun q h => h) (fun r_4 u t H1 locs ht hvm w_3 hB hz1 hk1 hS => ?_)
  have hI : Iv dC dI g A f t.heap := hB
  rw [ht] at hI
  generalize H1 = H at hI hS ⊢
  refine W.widen (k := 0) (n := 0) (Nat.le_of_ble_eq_true rfl) (Nat.le_of_ble_eq_true rfl) ?_
  have w_3 : 0 ≤ r_4.toInt ∧ r_4.toInt ≤ 96 ∧ ∀ t : Nat, (t : Int) < (q 0).toInt → (q (6 + 43 * t + 2)).toInt = 1 → 1 ≤ r_4.toInt := w_3
  refine lv_lstore_n (lv' := [(1, .long r_4), (0, .ref h0)]) hx hb dX12_byDraws_4 rfl hl (by decide) rfl (fun ls hl => ?_)
  refine lv_lload_n hx hb dX12_byDraws_5 rfl (lv_at hl 0 rfl) ?_
  refine lv_lconst (v := 0) hx hb dX12_byDraws_6 (by decide) ?_
  refine W.lcmp hx hb dX12_byDraws_7 ?_
  refine lv_if_ne (tgt := 13) hx hb dX12_byDraws_8 (by decide) (fun c_5 => ?_) (fun c_5 => ?_)
  · have c_5 := ln_eq rfl (by decide : Int64.toInt 0 = 0) (fun h9 => c_5 ((lg_cmp_eq _ _).mpr h9))
    refine lv_aload_n hx hb dX12_byDraws_13 rfl (lv_at hl 1 rfl) ?_
    refine lv_ldc2 hx hb hown (hts (.constantLong RX12 247 (1103)) (List.mem_cons_of_mem _ (List.mem_append_left _ (List.mem_of_getElem? (i := 4) rfl)))) dX12_byDraws_14 ?_
    refine lv_aload_n hx hb dX12_byDraws_17 rfl (lv_at hl 1 rfl) ?_
    refine k_get (ci := 12) (v := .long z24) (C := RX12) (T := TX12) (N := 27) hx hb hts (fun _ h0_ => List.mem_cons_of_mem _ (List.mem_append_right _ (List.mem_append_right _ (List.mem_append_left _ h0_)))) hown hK hI i_h0.1 hc0 rfl 24 (by decide) (hts (.fieldLink RX12 249 "DeadlineShareModel" "state" "J") (List.mem_cons_of_mem _ (List.mem_append_left _ (List.mem_of_getElem? (i := 5) rfl)))) (fun _ h9 => h9) rfl dX12_byDraws_18 ?_
    refine lv_lmul hx hb dX12_byDraws_21 ?_
    refine lv_topl (fun v_6 ev_6 => ?_)
    refine lv_ldc2 hx hb hown (hts (.constantLong RX12 252 (12345)) (List.mem_cons_of_mem _ (List.mem_append_left _ (List.mem_of_getElem? (i := 6) rfl)))) dX12_byDraws_22 ?_
    refine lv_ladd hx hb dX12_byDraws_25 ?_
    refine lv_topl (fun v_7 ev_7 => ?_)
    have tv_7 := l_ad v_6 12345
    rw [← ev_7, show Int64.toInt 12345 = 12345 from by decide] at tv_7
    refine lv_ldc2 hx hb hown (hts (.constantLong RX12 254 (1000003)) (List.mem_cons_of_mem _ (List.mem_append_left _ (List.mem_of_getElem? (i := 7) rfl)))) dX12_byDraws_26 ?_
    refine lv_lrem hx hb dX12_byDraws_29 (by decide) ?_
    refine lv_topl (fun v_8 ev_8 => ?_)
    refine k_put (ci := 12) (v := .long v_8) (ty := .long) (C := RX12) (T := TX12) (N := 27) hx hb hts (fun _ h0_ => List.mem_cons_of_mem _ (List.mem_append_right _ (List.mem_append_right _ (List.mem_append_left _ h0_)))) tyX12 tyX12_ok nmX12 hown hK hI hS i_h0.1 hc0 rfl 24 (by decide) (hts (.fieldLink RX12 249 "DeadlineShareModel" "state" "J") (List.mem_cons_of_mem _ (List.mem_append_left _ (List.mem_of_getElem? (i := 5) rfl)))) (fun _ h9 => h9) rfl (by decide +kernel) rfl rfl (Nat.le_of_ble_eq_true rfl) rfl (cl_12 i_h0 (by omega) (by omega) (by omega)) dX12_byDraws_30 (fun f_9 H locs e_10 hI hS => ?_)
    have k_12 : f_9 h0 = .inr (12, [.int z0, .int z1, .ref (gr g h0 2), .ref (gr g h0 3), .ref (gr g h0 4), .ref (gr g h0 5), .ref (gr g h0 6), .ref (gr g h0 7), .ref (gr g h0 8), .ref (gr g h0 9), .int z10, .ref (gr g h0 11), .int z12, .int z13, .int z14, .int z15, .long z16, .int z17, .int z18, .ref (gr g h0 19), .ref (gr g h0 20), .ref (gr g h0 21), .ref (gr g h0 22), .int z23, .long v_8, .long z25, .long z26]) := by rw [e_10]; exact va_up_self _ _ _
    have k_13 : f_9 (gr g h0 4) = .inl (gc g 1, 906, .inr (.inl q)) := by rw [e_10, va_up_ne _ _ (ik_ne i_1 i_h0 (by decide))]; exact hc1
    have kp_11 := Kp.put hk0 i_h0 (by decide) e_10
    refine lv_aload_n hx hb dX12_byDraws_33 rfl (lv_at hl 1 rfl) ?_
    refine k_get (ci := 12) (v := .long v_8) (C := RX12) (T := TX12) (N := 27) hx hb hts (fun _ h0_ => List.mem_cons_of_mem _ (List.mem_append_right _ (List.mem_append_right _ (List.mem_append_left _ h0_)))) hown hK hI i_h0.1 k_12 rfl 24 (by decide) (hts (.fieldLink RX12 249 "DeadlineShareModel" "state" "J") (List.mem_cons_of_mem _ (List.mem_append_left _ (List.mem_of_getElem? (i := 5) rfl)))) (fun _ h9 => h9) rfl dX12_byDraws_34 ?_
    refine lv_lload_n hx hb dX12_byDraws_37 rfl (lv_at hl 0 rfl) ?_
    refine lv_lrem hx hb dX12_byDraws_38 (k_ne0L (by omega)) ?_
    refine lv_topl (fun v_14 ev_14 => ?_)
    refine lv_lstore_n (lv' := [(3, .long v_14), (1, .long r_4), (0, .ref h0)]) hx hb dX12_byDraws_39 rfl hl (by decide) rfl (fun ls hl => ?_)
    refine lv_iconst (v := (-1)) hx hb dX12_byDraws_40 (by decide) ?_
    refine lv_istore (lv' := [(5, .int (-1)), (3, .long v_14), (1, .long r_4), (0, .ref h0)]) hx hb dX12_byDraws_41 hl (by decide) rfl (fun ls hl => ?_)
    refine lv_iconst (v := 0) hx hb dX12_byDraws_43 (by decide) ?_
    refine lv_istore (lv' := [(6, .int 0), (5, .int (-1)), (3, .long v_14), (1, .long r_4), (0, .ref h0)]) hx hb dX12_byDraws_44 hl (by decide) rfl (fun ls hl => ?_)
    have K_46 : ∀ (nn : Nat) (y_15 : Nat) (y_16 : Int32) (y_17 : Int64) (H : Heap) (locs : List Loc) (ls : Array Slot), 12 - y_15 < nn → Iv dC dI g A f_9 H → va_S A s.heap H locs → (y_15 ≤ 12) → (-1 ≤ y_16.toInt ∧ y_16.toInt < (q 0).toInt) → lv_has ls 7 [(6, .int (nI y_15)), (5, .int y_16), (3, .long y_17), (1, .long r_4), (0, .ref h0)] → W p l e (headSpec wq_c_X12_byDraws ({ frames := 3, cells := 0, slots := 0, locals := 64 } : Room)).room s m ([.ref h0].toArray) below meth c H locs 0 0 (MQ below (va_Qi (fun (r : Int32) (_ : Unit) => -1 ≤ r.toInt ∧ r.toInt < (q 0).toInt) (fun (_ : Unit) t => ∃ f1 : Nat → va_E, Iv dC dI g A f1 t.heap ∧ Kp g [12] f f1 ∧ ∃ (w24 : Int64), (f1 h0 = .inr (12, [.int z0, .int z1, .ref (gr g h0 2), .ref (gr g h0 3), .ref (gr g h0 4), .ref (gr g h0 5), .ref (gr g h0 6), .ref (gr g h0 7), .ref (gr g h0 8), .ref (gr g h0 9), .int z10, .ref (gr g h0 11), .int z12, .int z13, .int z14, .int z15, .long z16, .int z17, .int z18, .ref (gr g h0 19), .ref (gr g h0 20), .ref (gr g h0 21), .ref (gr g h0 22), .int z23, .long w24, .long z25, .long z26]))) A) ([.ref h0].toArray) s 0 0 A) (F0 m 46 ls []) := by
      intro nn
      induction nn with
      | zero => intro y_15 y_16 y_17 H locs ls m_20; exact absurd m_20 (Nat.not_lt_zero _)
      | succ nn ih =>
        intro y_15 y_16 y_17 H locs ls m_20 hI hS t_18 t_19 hl
        refine lv_iload hx hb dX12_byDraws_46 (lv_at hl 0 rfl) ?_
        refine lv_i2l (v := lN (y_15)) hx hb dX12_byDraws_48 (nI_l (by omega)) ?_
        refine lv_aload_n hx hb dX12_byDraws_49 rfl (lv_at hl 4 rfl) ?_
        refine k_get (ci := 12) (v := .ref (gr g h0 4)) (C := RX12) (T := TX12) (N := 27) hx hb hts (fun _ h0_ => List.mem_cons_of_mem _ (List.mem_append_right _ (List.mem_append_right _ (List.mem_append_left _ h0_)))) hown hK hI i_h0.1 k_12 rfl 4 (by decide) (hts (.fieldLink RX12 16 "DeadlineShareModel" "row" "[J") (List.mem_cons_of_mem _ (List.mem_append_left _ (List.mem_of_getElem? (i := 8) rfl)))) (fun _ h9 => h9) rfl dX12_byDraws_50 ?_
        refine lv_iconst (v := 0) hx hb dX12_byDraws_53 (by decide) ?_
        refine k_lald hx hb hK hI i_1.1 1 k_13 rfl (by unfold vp_in; decide) dX12_byDraws_54 ?_
        refine k_topl (y := q 0) (congrArg q (show Int32.toNatClampNeg 0 = 0 by decide)) ?_
        refine W.lcmp hx hb dX12_byDraws_55 ?_
        refine lv_if_ge (tgt := 109) hx hb dX12_byDraws_56 (by decide) (fun c_23 => ?_) (fun c_23 => ?_)
        · have c_23 := lc_le rfl (lN_toInt (n := y_15) (by omega)) ((lg_cmp_ge _ _).mp c_23)
          refine lv_iload hx hb dX12_byDraws_109 (lv_at hl 1 rfl) ?_
          have w_24 : -1 ≤ y_16.toInt ∧ y_16.toInt < (q 0).toInt := by omega
          exact W.iret (v := y_16) hx hb hr (fun t ht hW => ⟨⟨y_16, (), rfl, w_24, ⟨f_9, k_ret ht hI, kp_11, v_8, k_12⟩⟩, hS.F ht⟩) hS.2.2 dX12_byDraws_111
        · have c_23 := ln_le rfl (lN_toInt (n := y_15) (by omega)) (fun h9 => c_23 ((lg_cmp_ge _ _).mpr h9))
          refine lv_aload_n hx hb dX12_byDraws_59 rfl (lv_at hl 4 rfl) ?_
          refine lv_iload hx hb dX12_byDraws_60 (lv_at hl 0 rfl) ?_
          refine va_calli (va_runV (As := [.int (nI y_15)]) (rest := []) ⟨hx, hb, hml, hown, hts⟩ (c_X12_isOn l dC dI g A hG f_9 h0 y_15 q i_h0 k_13 hc1_ok (by first | omega | decide | (simp only [k_c0, k_c1, k_cm1]; omega))) (cwV 1 hts (gi_V (fun w_ h0_ => ⟨List.mem_cons_of_mem _ (List.mem_append_right _ (List.mem_append_right _ (List.mem_append_right _ (List.mem_append_left _ h0_)))), (tb_c_X12_isOn w_ h0_).2⟩) (List.mem_cons_of_mem _ (List.mem_append_left _ (List.mem_of_getElem? (i := 9) rfl))) (List.mem_cons_of_mem _ (List.mem_append_left _ (List.mem_of_getElem? (i := 10) rfl))) (List.mem_cons_of_mem _ (List.mem_append_left _ (List.mem_of_getElem? (i := 11) rfl))) (List.mem_cons_of_mem _ (List.mem_append_left _ (List.mem_of_getElem? (i := 3) rfl)))) rfl rfl rfl (by decide +kernel) ⟨Nat.le_of_ble_eq_true rfl, Nat.le_of_ble_eq_true rfl⟩) ⟨fun a U g mk q => ⟨q.1, q.2.calling rfl rfl⟩, k_recv hK hI i_h0.1 k_12 (ci := 12) rfl, fun U hU hW => ⟨rfl, kIn.of hI hK hE hS hU hW⟩⟩ rfl rfl hl.1 rfl (lv_room (Nat.le_of_ble_eq_true rfl)) dX12_byDraws_62 ⟨Nat.le_of_ble_eq_true rfl, Nat.le_of_ble_eq_true rfl⟩) hS (fun q _ h => h) (fun q h => h) (fun r_26 u t H1 locs ht hvm w_25 hB hz1 hk1 hS => ?_)
          have hI : Iv dC dI g A f_9 t.heap := hB
          rw [ht] at hI
          generalize H1 = H at hI hS ⊢
          refine W.widen (k := 0) (n := 0) (Nat.le_of_ble_eq_true rfl) (Nat.le_of_ble_eq_true rfl) ?_
          have w_25 : (r_26.toInt = 0 ∧ (q (6 + 43 * y_15 + 2)).toInt ≠ 1) ∨ (r_26.toInt = 1 ∧ (q (6 + 43 * y_15 + 2)).toInt = 1) := w_25
          have J_103 : ∀ (y_27 : Int32) (y_28 : Int64) (H : Heap) (locs : List Loc) (ls : Array Slot), Iv dC dI g A f_9 H → va_S A s.heap H locs → (-1 ≤ y_27.toInt ∧ y_27.toInt < (q 0).toInt) → lv_has ls 7 [(6, .int (nI y_15)), (5, .int y_27), (3, .long y_28), (1, .long r_4), (0, .ref h0)] → W p l e (headSpec wq_c_X12_byDraws ({ frames := 3, cells := 0, slots := 0, locals := 64 } : Room)).room s m ([.ref h0].toArray) below meth c H locs 0 0 (MQ below (va_Qi (fun (r : Int32) (_ : Unit) => -1 ≤ r.toInt ∧ r.toInt < (q 0).toInt) (fun (_ : Unit) t => ∃ f1 : Nat → va_E, Iv dC dI g A f1 t.heap ∧ Kp g [12] f f1 ∧ ∃ (w24 : Int64), (f1 h0 = .inr (12, [.int z0, .int z1, .ref (gr g h0 2), .ref (gr g h0 3), .ref (gr g h0 4), .ref (gr g h0 5), .ref (gr g h0 6), .ref (gr g h0 7), .ref (gr g h0 8), .ref (gr g h0 9), .int z10, .ref (gr g h0 11), .int z12, .int z13, .int z14, .int z15, .long z16, .int z17, .int z18, .ref (gr g h0 19), .ref (gr g h0 20), .ref (gr g h0 21), .ref (gr g h0 22), .int z23, .long w24, .long z25, .long z26]))) A) ([.ref h0].toArray) s 0 0 A) (F0 m 103 ls []) := by
            intro y_27 y_28 H locs ls hI hS t_29 hl
            refine lv_iinc (v := nI (y_15 + 1)) (lv' := [(6, .int (nI (y_15 + 1))), (5, .int y_27), (3, .long y_28), (1, .long r_4), (0, .ref h0)]) hx hb dX12_byDraws_103 hl (k := 0) rfl (nI_1 _) (by decide) rfl (fun ls hl => ?_)
            refine lv_goto (tgt := 46) hx hb dX12_byDraws_106 (by decide) ?_
            exact ih (y_15 + 1) y_27 y_28 _ _ _ (by omega) hI hS (by first | omega | decide) (by first | omega | decide) (lv_sub hl [0, 1, 2, 3, 4] rfl)
          refine lv_if_eq (tgt := 103) hx hb dX12_byDraws_65 (by decide) (fun c_30 => ?_) (fun c_30 => ?_)
          · have c_30 := kc_eq rfl (by decide : Int32.toInt 0 = 0) c_30
            exact J_103 y_16 y_17 _ _ _ hI hS (by first | omega | decide) (lv_sub hl [0, 1, 2, 3, 4] rfl)
          · have c_30 := kn_eq rfl (by decide : Int32.toInt 0 = 0) c_30
            refine lv_iload hx hb dX12_byDraws_68 (lv_at hl 1 rfl) ?_
            refine lv_iconst (v := (-1)) hx hb dX12_byDraws_70 (by decide) ?_
            have J_92 : ∀ (y_31 : Int32) (H : Heap) (locs : List Loc) (ls : Array Slot), Iv dC dI g A f_9 H → va_S A s.heap H locs → (-1 ≤ y_31.toInt ∧ y_31.toInt < (q 0).toInt) → lv_has ls 7 [(6, .int (nI y_15)), (5, .int y_16), (3, .long y_17), (1, .long r_4), (0, .ref h0)] → W p l e (headSpec wq_c_X12_byDraws ({ frames := 3, cells := 0, slots := 0, locals := 64 } : Room)).room s m ([.ref h0].toArray) below meth c H locs 0 0 (MQ below (va_Qi (fun (r : Int32) (_ : Unit) => -1 ≤ r.toInt ∧ r.toInt < (q 0).toInt) (fun (_ : Unit) t => ∃ f1 : Nat → va_E, Iv dC dI g A f1 t.heap ∧ Kp g [12] f f1 ∧ ∃ (w24 : Int64), (f1 h0 = .inr (12, [.int z0, .int z1, .ref (gr g h0 2), .ref (gr g h0 3), .ref (gr g h0 4), .ref (gr g h0 5), .ref (gr g h0 6), .ref (gr g h0 7), .ref (gr g h0 8), .ref (gr g h0 9), .int z10, .ref (gr g h0 11), .int z12, .int z13, .int z14, .int z15, .long z16, .int z17, .int z18, .ref (gr g h0 19), .ref (gr g h0 20), .ref (gr g h0 21), .ref (gr g h0 22), .int z23, .long w24, .long z25, .long z26]))) A) ([.ref h0].toArray) s 0 0 A) (F0 m 92 ls [.int y_31]) := by
              intro y_31 H locs ls hI hS t_32 hl
              refine lv_istore (lv' := [(5, .int y_31), (6, .int (nI y_15)), (3, .long y_17), (1, .long r_4), (0, .ref h0)]) hx hb dX12_byDraws_92 hl (by decide) rfl (fun ls hl => ?_)
              refine lv_lload_n hx hb dX12_byDraws_94 rfl (lv_at hl 2 rfl) ?_
              refine lv_aload_n hx hb dX12_byDraws_95 rfl (lv_at hl 4 rfl) ?_
              refine lv_iload hx hb dX12_byDraws_96 (lv_at hl 1 rfl) ?_
              refine va_calll (va_runV (As := [.int (nI y_15)]) (rest := [.long y_17]) ⟨hx, hb, hml, hown, hts⟩ (c_X12_weight l dC dI g A hG f_9 h0 y_15 q i_h0 k_13 hc1_ok (by first | omega | decide | (simp only [k_c0, k_c1, k_cm1]; omega))) (cwV 1 hts (gi_V (fun w_ h0_ => ⟨List.mem_cons_of_mem _ (List.mem_append_right _ (List.mem_append_right _ (List.mem_append_right _ (List.mem_append_right _ (List.mem_append_left _ h0_))))), (tb_c_X12_weight w_ h0_).2⟩) (List.mem_cons_of_mem _ (List.mem_append_left _ (List.mem_of_getElem? (i := 12) rfl))) (List.mem_cons_of_mem _ (List.mem_append_left _ (List.mem_of_getElem? (i := 13) rfl))) (List.mem_cons_of_mem _ (List.mem_append_left _ (List.mem_of_getElem? (i := 14) rfl))) (List.mem_cons_of_mem _ (List.mem_append_left _ (List.mem_of_getElem? (i := 3) rfl)))) rfl rfl rfl (by decide +kernel) ⟨Nat.le_of_ble_eq_true rfl, Nat.le_of_ble_eq_true rfl⟩) ⟨fun a U g mk q => ⟨q.1, q.2.calling rfl rfl⟩, k_recv hK hI i_h0.1 k_12 (ci := 12) rfl, fun U hU hW => ⟨rfl, kIn.of hI hK hE hS hU hW⟩⟩ rfl rfl hl.1 rfl (lv_room (Nat.le_of_ble_eq_true rfl)) dX12_byDraws_98 ⟨Nat.le_of_ble_eq_true rfl, Nat.le_of_ble_eq_true rfl⟩) hS (fun q _ h => h) (fun q h => h) (fun r_34 u t H1 locs ht hvm w_33 hB hz1 hk1 hS => ?_)
              have hI : Iv dC dI g A f_9 t.heap := hB
              rw [ht] at hI
              generalize H1 = H at hI hS ⊢
              refine W.widen (k := 0) (n := 0) (Nat.le_of_ble_eq_true rfl) (Nat.le_of_ble_eq_true rfl) ?_
              have w_33 : r_34 = q (6 + 43 * y_15) := w_33
              refine k_topl (y := q (6 + 43 * y_15)) w_33 ?_
              have d_35 := rk_0 hc1_ok (t := y_15) (by omega)
              refine lv_lsub hx hb dX12_byDraws_101 ?_
              refine lv_topl (fun v_36 ev_36 => ?_)
              have tv_36 := l_sb y_17 (q (6 + 43 * y_15))
              rw [← ev_36] at tv_36
              refine lv_lstore_n (lv' := [(3, .long v_36), (5, .int y_31), (6, .int (nI y_15)), (1, .long r_4), (0, .ref h0)]) hx hb dX12_byDraws_102 rfl hl (by decide) rfl (fun ls hl => ?_)
              exact J_103 y_31 v_36 _ _ _ hI hS (by first | omega | decide) (lv_sub hl [2, 1, 0, 3, 4] rfl)
            have J_90 : ∀ (H : Heap) (locs : List Loc) (ls : Array Slot), Iv dC dI g A f_9 H → va_S A s.heap H locs → lv_has ls 7 [(6, .int (nI y_15)), (5, .int y_16), (3, .long y_17), (1, .long r_4), (0, .ref h0)] → W p l e (headSpec wq_c_X12_byDraws ({ frames := 3, cells := 0, slots := 0, locals := 64 } : Room)).room s m ([.ref h0].toArray) below meth c H locs 0 0 (MQ below (va_Qi (fun (r : Int32) (_ : Unit) => -1 ≤ r.toInt ∧ r.toInt < (q 0).toInt) (fun (_ : Unit) t => ∃ f1 : Nat → va_E, Iv dC dI g A f1 t.heap ∧ Kp g [12] f f1 ∧ ∃ (w24 : Int64), (f1 h0 = .inr (12, [.int z0, .int z1, .ref (gr g h0 2), .ref (gr g h0 3), .ref (gr g h0 4), .ref (gr g h0 5), .ref (gr g h0 6), .ref (gr g h0 7), .ref (gr g h0 8), .ref (gr g h0 9), .int z10, .ref (gr g h0 11), .int z12, .int z13, .int z14, .int z15, .long z16, .int z17, .int z18, .ref (gr g h0 19), .ref (gr g h0 20), .ref (gr g h0 21), .ref (gr g h0 22), .int z23, .long w24, .long z25, .long z26]))) A) ([.ref h0].toArray) s 0 0 A) (F0 m 90 ls []) := by
              intro H locs ls hI hS  hl
              refine lv_iload hx hb dX12_byDraws_90 (lv_at hl 1 rfl) ?_
              exact J_92 y_16 _ _ _ hI hS (by first | omega | decide) (lv_sub hl [0, 1, 2, 3, 4] rfl)
            refine lv_icmp_ne (tgt := 90) hx hb dX12_byDraws_71 (by decide) (fun c_37 => ?_) (fun c_37 => ?_)
            · have c_37 := kn_eq rfl (by decide : Int32.toInt (-1) = (-1)) c_37
              exact J_90  _ _ _ hI hS  (lv_sub hl [0, 1, 2, 3, 4] rfl)
            · have c_37 := kc_eq rfl (by decide : Int32.toInt (-1) = (-1)) c_37
              refine lv_lload_n hx hb dX12_byDraws_74 rfl (lv_at hl 2 rfl) ?_
              refine lv_aload_n hx hb dX12_byDraws_75 rfl (lv_at hl 4 rfl) ?_
              refine lv_iload hx hb dX12_byDraws_76 (lv_at hl 0 rfl) ?_
              refine va_calll (va_runV (As := [.int (nI y_15)]) (rest := [.long y_17]) ⟨hx, hb, hml, hown, hts⟩ (c_X12_weight l dC dI g A hG f_9 h0 y_15 q i_h0 k_13 hc1_ok (by first | omega | decide | (simp only [k_c0, k_c1, k_cm1]; omega))) (cwV 1 hts (gi_V (fun w_ h0_ => ⟨List.mem_cons_of_mem _ (List.mem_append_right _ (List.mem_append_right _ (List.mem_append_right _ (List.mem_append_right _ (List.mem_append_left _ h0_))))), (tb_c_X12_weight w_ h0_).2⟩) (List.mem_cons_of_mem _ (List.mem_append_left _ (List.mem_of_getElem? (i := 12) rfl))) (List.mem_cons_of_mem _ (List.mem_append_left _ (List.mem_of_getElem? (i := 13) rfl))) (List.mem_cons_of_mem _ (List.mem_append_left _ (List.mem_of_getElem? (i := 14) rfl))) (List.mem_cons_of_mem _ (List.mem_append_left _ (List.mem_of_getElem? (i := 3) rfl)))) rfl rfl rfl (by decide +kernel) ⟨Nat.le_of_ble_eq_true rfl, Nat.le_of_ble_eq_true rfl⟩) ⟨fun a U g mk q => ⟨q.1, q.2.calling rfl rfl⟩, k_recv hK hI i_h0.1 k_12 (ci := 12) rfl, fun U hU hW => ⟨rfl, kIn.of hI hK hE hS hU hW⟩⟩ rfl rfl hl.1 rfl (lv_room (Nat.le_of_ble_eq_true rfl)) dX12_byDraws_78 ⟨Nat.le_of_ble_eq_true rfl, Nat.le_of_ble_eq_true rfl⟩) hS (fun q _ h => h) (fun q h => h) (fun r_39 u t H1 locs ht hvm w_38 hB hz1 hk1 hS => ?_)
              have hI : Iv dC dI g A f_9 t.heap := hB
              rw [ht] at hI
              generalize H1 = H at hI hS ⊢
              refine W.widen (k := 0) (n := 0) (Nat.le_of_ble_eq_true rfl) (Nat.le_of_ble_eq_true rfl) ?_
              have w_38 : r_39 = q (6 + 43 * y_15) := w_38
              refine k_topl (y := q (6 + 43 * y_15)) w_38 ?_
              have d_40 := rk_0 hc1_ok (t := y_15) (by omega)
              refine W.lcmp hx hb dX12_byDraws_81 ?_
              refine lv_if_ge (tgt := 90) hx hb dX12_byDraws_82 (by decide) (fun c_41 => ?_) (fun c_41 => ?_)
              · have c_41 := lc_le rfl rfl ((lg_cmp_ge _ _).mp c_41)
                exact J_90  _ _ _ hI hS  (lv_sub hl [0, 1, 2, 3, 4] rfl)
              · have c_41 := ln_le rfl rfl (fun h9 => c_41 ((lg_cmp_ge _ _).mpr h9))
                refine lv_iload hx hb dX12_byDraws_85 (lv_at hl 0 rfl) ?_
                refine lv_goto (tgt := 92) hx hb dX12_byDraws_87 (by decide) ?_
                have g_42 := nI_toInt (n := y_15) (by omega)
                exact J_92 (nI y_15) _ _ _ hI hS (by first | omega | decide) (lv_sub hl [0, 1, 2, 3, 4] rfl)
    exact K_46 _ 0 (-1) v_14 _ _ _ (Nat.lt_succ_self _) hI hS (by first | omega | decide | (simp only [show Int32.toInt (-1) = (-1) from by decide]; omega)) (by first | omega | decide | (simp only [show Int32.toInt (-1) = (-1) from by decide]; omega)) (lv_sub hl [0, 1, 2, 3, 4] rfl)
  · have c_5 := lc_eq rfl (by decide : Int64.toInt 0 = 0) ((lg_cmp_eq _ _).mp c_5)
    refine lv_iconst (v := (-1)) hx hb dX12_byDraws_11 (by decide) ?_
    have w_43 : -1 ≤ ((-1) : Int32).toInt ∧ ((-1) : Int32).toInt < (q 0).toInt := by rw [show Int32.toInt ((-1)) = (-1) from by decide]; omega
    exact W.iret (v := (-1)) hx hb hr (fun t ht hW => ⟨⟨(-1), (), rfl, w_43, ⟨f, k_ret ht hI, hk0, z24, hc0⟩⟩, hS.F ht⟩) hS.2.2 dX12_byDraws_12
theorem tw_791 : q_g (.selects RX12 yX12_byDraws yX12_byDraws) := ⟨(List.mem_append_left _ (List.mem_of_getElem? (i := 55) (by decide +kernel))), good_of_word (by decide +kernel)⟩
theorem tw_792 : q_g (.instanceMethod yX12_byDraws) := ⟨(List.mem_append_right _ (List.mem_of_getElem? (i := 1427) (by decide +kernel))), good_of_word (by decide +kernel)⟩
theorem tw_793 : q_g (.methodLink RX12 267 yX12_byDraws) := ⟨(List.mem_append_right _ (List.mem_of_getElem? (i := 1425) (by decide +kernel))), good_of_word (by decide +kernel)⟩
theorem tw_794 : q_g (.selects RX12 yX12_inTurn yX12_inTurn) := ⟨(List.mem_append_left _ (List.mem_of_getElem? (i := 54) (by decide +kernel))), good_of_word (by decide +kernel)⟩
theorem tw_795 : q_g (.instanceMethod yX12_inTurn) := ⟨(List.mem_append_right _ (List.mem_of_getElem? (i := 1423) (by decide +kernel))), good_of_word (by decide +kernel)⟩
theorem tw_796 : q_g (.methodLink RX12 264 yX12_inTurn) := ⟨(List.mem_append_right _ (List.mem_of_getElem? (i := 1421) (by decide +kernel))), good_of_word (by decide +kernel)⟩
theorem tw_797 : q_g (.selects RX12 yX12_byDeadline yX12_byDeadline) := ⟨(List.mem_append_left _ (List.mem_of_getElem? (i := 52) (by decide +kernel))), good_of_word (by decide +kernel)⟩
theorem tw_798 : q_g (.instanceMethod yX12_byDeadline) := ⟨(List.mem_append_right _ (List.mem_of_getElem? (i := 1415) (by decide +kernel))), good_of_word (by decide +kernel)⟩
theorem tw_799 : q_g (.methodLink RX12 260 yX12_byDeadline) := ⟨(List.mem_append_right _ (List.mem_of_getElem? (i := 1413) (by decide +kernel))), good_of_word (by decide +kernel)⟩
theorem tw_800 : q_g (.selects RX12 yX12_byVirtual yX12_byVirtual) := ⟨(List.mem_append_left _ (List.mem_of_getElem? (i := 51) (by decide +kernel))), good_of_word (by decide +kernel)⟩
theorem tw_801 : q_g (.instanceMethod yX12_byVirtual) := ⟨(List.mem_append_right _ (List.mem_of_getElem? (i := 1411) (by decide +kernel))), good_of_word (by decide +kernel)⟩
theorem tw_802 : q_g (.methodLink RX12 256 yX12_byVirtual) := ⟨(List.mem_append_right _ (List.mem_of_getElem? (i := 1409) (by decide +kernel))), good_of_word (by decide +kernel)⟩
theorem tw_803 : q_g (.code yX12_chosen cX12_chosen 3 (some .int)) := ⟨(List.mem_append_right _ (List.mem_of_getElem? (i := 1408) (by decide +kernel))), good_of_word (by decide +kernel)⟩
def ow_c_X12_chosen : List Cond := [.methodLink RX12 256 yX12_byVirtual, .instanceMethod yX12_byVirtual, .selects RX12 yX12_byVirtual yX12_byVirtual, .initialized RX12, .methodLink RX12 260 yX12_byDeadline, .instanceMethod yX12_byDeadline, .selects RX12 yX12_byDeadline yX12_byDeadline, .methodLink RX12 264 yX12_inTurn, .instanceMethod yX12_inTurn, .selects RX12 yX12_inTurn yX12_inTurn, .methodLink RX12 267 yX12_byDraws, .instanceMethod yX12_byDraws, .selects RX12 yX12_byDraws yX12_byDraws, .fieldLink RX12 16 "DeadlineShareModel" "row" "[J", .fieldLink RX12 13 "DeadlineShareModel" "term" "[I"]
def wq_c_X12_chosen : List Cond := .code yX12_chosen cX12_chosen 3 (some .int) :: (ow_c_X12_chosen ++ (wq_c_X12_byVirtual ++ (wq_c_X12_byDeadline ++ (wq_c_X12_inTurn ++ (wq_c_X12_byDraws ++ (u_ws RX12 TX12 27 ++ ([] : List Cond)))))))
theorem tb_c_X12_chosen : ∀ w ∈ wq_c_X12_chosen, q_g w := by
  unfold wq_c_X12_chosen ow_c_X12_chosen
  exact q_cons tw_803 (q_app (q_cons tw_802 (q_cons tw_801 (q_cons tw_800 (q_cons tw_728 (q_cons tw_799 (q_cons tw_798 (q_cons tw_797 (q_cons tw_796 (q_cons tw_795 (q_cons tw_794 (q_cons tw_793 (q_cons tw_792 (q_cons tw_791 (q_cons tw_731 (q_cons tw_762 q_nil))))))))))))))) (q_app tb_c_X12_byVirtual (q_app tb_c_X12_byDeadline (q_app tb_c_X12_inTurn (q_app tb_c_X12_byDraws (q_app tu_X12 q_nil))))))
set_option maxHeartbeats 4000000 in
set_option maxRecDepth 100000 in
theorem c_X12_chosen (l : Launch) (dC : Nat → ClassId) (dI : Nat → Nat → Nat) (g : kG) (A : Nat → Prop) (hG : kWf g) (f : Nat → va_E) (h0 : Nat) (p1 : Int32) (z0 : Int32) (z1 : Int32) (z10 : Int32) (z12 : Int32) (z13 : Int32) (z14 : Int32) (z15 : Int32) (z16 : Int64) (z17 : Int32) (z18 : Int32) (z23 : Int32) (z24 : Int64) (z25 : Int64) (z26 : Int64) (q : Nat → Int64) (i_h0 : ik g 12 h0) (hc0 : f h0 = .inr (12, [.int z0, .int z1, .ref (gr g h0 2), .ref (gr g h0 3), .ref (gr g h0 4), .ref (gr g h0 5), .ref (gr g h0 6), .ref (gr g h0 7), .ref (gr g h0 8), .ref (gr g h0 9), .int z10, .ref (gr g h0 11), .int z12, .int z13, .int z14, .int z15, .long z16, .int z17, .int z18, .ref (gr g h0 19), .ref (gr g h0 20), .ref (gr g h0 21), .ref (gr g h0 22), .int z23, .long z24, .long z25, .long z26])) (hc0_10 : 0 ≤ z10.toInt ∧ z10.toInt ≤ 10) (hc0_12 : 0 ≤ z12.toInt ∧ z12.toInt ≤ 200) (hc0_23 : 0 ≤ z23.toInt ∧ z23.toInt ≤ 8) (hc1 : f (gr g h0 4) = .inl (gc g 1, 906, .inr (.inl q))) (hc1_ok : RowOK q) : Met l yX12_chosen wq_c_X12_chosen ({ frames := 5, cells := 0, slots := 0, locals := 108 } : Room) (va_Pc [.ref h0, .int p1] (fun U => kIn dC dI g A f U)) (va_Qi (fun (r : Int32) (_ : Unit) => -1 ≤ r.toInt ∧ r.toInt < (q 0).toInt) (fun (_ : Unit) t => ∃ f1 : Nat → va_E, Iv dC dI g A f1 t.heap ∧ Kp g [12] f f1 ∧ ∃ (w24 : Int64), (f1 h0 = .inr (12, [.int z0, .int z1, .ref (gr g h0 2), .ref (gr g h0 3), .ref (gr g h0 4), .ref (gr g h0 5), .ref (gr g h0 6), .ref (gr g h0 7), .ref (gr g h0 8), .ref (gr g h0 9), .int z10, .ref (gr g h0 11), .int z12, .int z13, .int z14, .int z15, .long z16, .int z17, .int z18, .ref (gr g h0 19), .ref (gr g h0 20), .ref (gr g h0 21), .ref (gr g h0 22), .int z23, .long w24, .long z25, .long z26]))) A) 0 0 A := by
  refine Met.ofW (cc := cX12_chosen) (maxL := 3) (ret := (some .int)) (by decide) rfl ?_
  intro p e s m args below meth c s₁ B hml hv
  obtain ⟨rfl, hI, hK, hE⟩ := hv
  have hx := B.exec
  have hb := B.bytes
  have hr := B.returns
  have hts := atoms_spec (ws := wq_c_X12_chosen) B.pre
  have hown : s.vm.findClass RX12 = some m.cls := findClass_of_methodNamed B.named
  have hlocks := B.notSynchronized
  have hS : va_S A s.heap s.heap [] := va_S.rf
  have hk0 : Kp g [12] f f := Kp.rf
  have hl := lv_entry ([.ref h0, .int p1]) (n := 3) (Nat.le_of_ble_eq_true rfl)
  rw [lg_entry_eq]
  generalize (lg_sl ([.ref h0, .int p1]) ++ List.replicate (3 - (lg_sl ([.ref h0, .int p1])).length) Slot.unset).toArray = ls at hl ⊢
  have hl : lv_has ls 3 [(0, .ref h0), (1, .int p1)] := hl
  have i_1 := kw_12_4 hG i_h0
  have d_2 := rk_hd hc1_ok
  refine lv_iload_n hx hb dX12_chosen_0 rfl (lv_at hl 1 rfl) ?_
  by_cases h_3 : p1 = 1
  · refine k_topi (y := 1) h_3 ?_
    refine lv_tableIn (tgt := 32) hx hb dX12_chosen_1 (by decide) (by decide) rfl (by decide) ?_
    have h_3 := kc_eq rfl (by decide : Int32.toInt 1 = 1) h_3
    refine lv_aload_n hx hb dX12_chosen_32 rfl (lv_at hl 0 rfl) ?_
    refine va_calli (va_runV (As := []) (rest := []) ⟨hx, hb, hml, hown, hts⟩ (c_X12_byVirtual l dC dI g A hG f h0 q i_h0 hc1 hc1_ok) (cwV 0 hts (gi_V (fun w_ h0_ => ⟨List.mem_cons_of_mem _ (List.mem_append_right _ (List.mem_append_left _ h0_)), (tb_c_X12_byVirtual w_ h0_).2⟩) (List.mem_cons_of_mem _ (List.mem_append_left _ (List.mem_of_getElem? (i := 0) rfl))) (List.mem_cons_of_mem _ (List.mem_append_left _ (List.mem_of_getElem? (i := 1) rfl))) (List.mem_cons_of_mem _ (List.mem_append_left _ (List.mem_of_getElem? (i := 2) rfl))) (List.mem_cons_of_mem _ (List.mem_append_left _ (List.mem_of_getElem? (i := 3) rfl)))) rfl rfl rfl (by decide +kernel) ⟨Nat.le_of_ble_eq_true rfl, Nat.le_of_ble_eq_true rfl⟩) ⟨fun a U g mk q => ⟨q.1, q.2.calling rfl rfl⟩, k_recv hK hI i_h0.1 hc0 (ci := 12) rfl, fun U hU hW => ⟨rfl, kIn.of hI hK hE hS hU hW⟩⟩ rfl rfl hl.1 rfl (lv_room (Nat.le_of_ble_eq_true rfl)) dX12_chosen_33 ⟨Nat.le_of_ble_eq_true rfl, Nat.le_of_ble_eq_true rfl⟩) hS (fun q _ h => h) (fun q h => h) (fun r_5 u t H1 locs ht hvm w_4 hB hz1 hk1 hS => ?_)
    have hI : Iv dC dI g A f t.heap := hB
    rw [ht] at hI
    generalize H1 = H at hI hS ⊢
    refine W.widen (k := 0) (n := 0) (Nat.le_of_ble_eq_true rfl) (Nat.le_of_ble_eq_true rfl) ?_
    have w_4 : -1 ≤ r_5.toInt ∧ r_5.toInt < (q 0).toInt := w_4
    have w_6 : -1 ≤ r_5.toInt ∧ r_5.toInt < (q 0).toInt := by omega
    exact W.iret (v := r_5) hx hb hr (fun t ht hW => ⟨⟨r_5, (), rfl, w_6, ⟨f, k_ret ht hI, hk0, z24, hc0⟩⟩, hS.F ht⟩) hS.2.2 dX12_chosen_36
  by_cases h_7 : p1 = 2
  · refine k_topi (y := 2) h_7 ?_
    refine lv_tableIn (tgt := 37) hx hb dX12_chosen_1 (by decide) (by decide) rfl (by decide) ?_
    have h_7 := kc_eq rfl (by decide : Int32.toInt 2 = 2) h_7
    refine lv_aload_n hx hb dX12_chosen_37 rfl (lv_at hl 0 rfl) ?_
    refine lv_iconst (v := 0) hx hb dX12_chosen_38 (by decide) ?_
    refine va_calli (va_runV (As := [.int 0]) (rest := []) ⟨hx, hb, hml, hown, hts⟩ (c_X12_byDeadline l dC dI g A hG f h0 0 q i_h0 hc1 hc1_ok) (cwV 1 hts (gi_V (fun w_ h0_ => ⟨List.mem_cons_of_mem _ (List.mem_append_right _ (List.mem_append_right _ (List.mem_append_left _ h0_))), (tb_c_X12_byDeadline w_ h0_).2⟩) (List.mem_cons_of_mem _ (List.mem_append_left _ (List.mem_of_getElem? (i := 4) rfl))) (List.mem_cons_of_mem _ (List.mem_append_left _ (List.mem_of_getElem? (i := 5) rfl))) (List.mem_cons_of_mem _ (List.mem_append_left _ (List.mem_of_getElem? (i := 6) rfl))) (List.mem_cons_of_mem _ (List.mem_append_left _ (List.mem_of_getElem? (i := 3) rfl)))) rfl rfl rfl (by decide +kernel) ⟨Nat.le_of_ble_eq_true rfl, Nat.le_of_ble_eq_true rfl⟩) ⟨fun a U g mk q => ⟨q.1, q.2.calling rfl rfl⟩, k_recv hK hI i_h0.1 hc0 (ci := 12) rfl, fun U hU hW => ⟨rfl, kIn.of hI hK hE hS hU hW⟩⟩ rfl rfl hl.1 rfl (lv_room (Nat.le_of_ble_eq_true rfl)) dX12_chosen_39 ⟨Nat.le_of_ble_eq_true rfl, Nat.le_of_ble_eq_true rfl⟩) hS (fun q _ h => h) (fun q h => h) (fun r_9 u t H1 locs ht hvm w_8 hB hz1 hk1 hS => ?_)
    have hI : Iv dC dI g A f t.heap := hB
    rw [ht] at hI
    generalize H1 = H at hI hS ⊢
    refine W.widen (k := 0) (n := 0) (Nat.le_of_ble_eq_true rfl) (Nat.le_of_ble_eq_true rfl) ?_
    have w_8 : -1 ≤ r_9.toInt ∧ r_9.toInt < (q 0).toInt := w_8
    have g_10 : Int32.toInt (0) = 0 := by decide
    have w_11 : -1 ≤ r_9.toInt ∧ r_9.toInt < (q 0).toInt := by omega
    exact W.iret (v := r_9) hx hb hr (fun t ht hW => ⟨⟨r_9, (), rfl, w_11, ⟨f, k_ret ht hI, hk0, z24, hc0⟩⟩, hS.F ht⟩) hS.2.2 dX12_chosen_42
  by_cases h_12 : p1 = 3
  · refine k_topi (y := 3) h_12 ?_
    refine lv_tableIn (tgt := 43) hx hb dX12_chosen_1 (by decide) (by decide) rfl (by decide) ?_
    have h_12 := kc_eq rfl (by decide : Int32.toInt 3 = 3) h_12
    refine lv_aload_n hx hb dX12_chosen_43 rfl (lv_at hl 0 rfl) ?_
    refine va_calli (va_runV (As := []) (rest := []) ⟨hx, hb, hml, hown, hts⟩ (c_X12_inTurn l dC dI g A hG f h0 q i_h0 hc1 hc1_ok) (cwV 0 hts (gi_V (fun w_ h0_ => ⟨List.mem_cons_of_mem _ (List.mem_append_right _ (List.mem_append_right _ (List.mem_append_right _ (List.mem_append_left _ h0_)))), (tb_c_X12_inTurn w_ h0_).2⟩) (List.mem_cons_of_mem _ (List.mem_append_left _ (List.mem_of_getElem? (i := 7) rfl))) (List.mem_cons_of_mem _ (List.mem_append_left _ (List.mem_of_getElem? (i := 8) rfl))) (List.mem_cons_of_mem _ (List.mem_append_left _ (List.mem_of_getElem? (i := 9) rfl))) (List.mem_cons_of_mem _ (List.mem_append_left _ (List.mem_of_getElem? (i := 3) rfl)))) rfl rfl rfl (by decide +kernel) ⟨Nat.le_of_ble_eq_true rfl, Nat.le_of_ble_eq_true rfl⟩) ⟨fun a U g mk q => ⟨q.1, q.2.calling rfl rfl⟩, k_recv hK hI i_h0.1 hc0 (ci := 12) rfl, fun U hU hW => ⟨rfl, kIn.of hI hK hE hS hU hW⟩⟩ rfl rfl hl.1 rfl (lv_room (Nat.le_of_ble_eq_true rfl)) dX12_chosen_44 ⟨Nat.le_of_ble_eq_true rfl, Nat.le_of_ble_eq_true rfl⟩) hS (fun q _ h => h) (fun q h => h) (fun r_14 u t H1 locs ht hvm w_13 hB hz1 hk1 hS => ?_)
    have hI : Iv dC dI g A f t.heap := hB
    rw [ht] at hI
    generalize H1 = H at hI hS ⊢
    refine W.widen (k := 0) (n := 0) (Nat.le_of_ble_eq_true rfl) (Nat.le_of_ble_eq_true rfl) ?_
    have w_13 : -1 ≤ r_14.toInt ∧ r_14.toInt < (q 0).toInt := w_13
    have w_15 : -1 ≤ r_14.toInt ∧ r_14.toInt < (q 0).toInt := by omega
    exact W.iret (v := r_14) hx hb hr (fun t ht hW => ⟨⟨r_14, (), rfl, w_15, ⟨f, k_ret ht hI, hk0, z24, hc0⟩⟩, hS.F ht⟩) hS.2.2 dX12_chosen_47
  by_cases h_16 : p1 = 4
  · refine k_topi (y := 4) h_16 ?_
    refine lv_tableIn (tgt := 48) hx hb dX12_chosen_1 (by decide) (by decide) rfl (by decide) ?_
    have h_16 := kc_eq rfl (by decide : Int32.toInt 4 = 4) h_16
    refine lv_aload_n hx hb dX12_chosen_48 rfl (lv_at hl 0 rfl) ?_
    refine va_calli (va_runV (As := []) (rest := []) ⟨hx, hb, hml, hown, hts⟩ (c_X12_byDraws l dC dI g A hG f h0 z0 z1 z10 z12 z13 z14 z15 z16 z17 z18 z23 z24 z25 z26 q i_h0 hc0 (by first | omega | (simp only [k_c0]; omega)) (by first | omega | (simp only [k_c0]; omega)) (by first | omega | (simp only [k_c0]; omega)) hc1 hc1_ok) (cwV 0 hts (gi_V (fun w_ h0_ => ⟨List.mem_cons_of_mem _ (List.mem_append_right _ (List.mem_append_right _ (List.mem_append_right _ (List.mem_append_right _ (List.mem_append_left _ h0_))))), (tb_c_X12_byDraws w_ h0_).2⟩) (List.mem_cons_of_mem _ (List.mem_append_left _ (List.mem_of_getElem? (i := 10) rfl))) (List.mem_cons_of_mem _ (List.mem_append_left _ (List.mem_of_getElem? (i := 11) rfl))) (List.mem_cons_of_mem _ (List.mem_append_left _ (List.mem_of_getElem? (i := 12) rfl))) (List.mem_cons_of_mem _ (List.mem_append_left _ (List.mem_of_getElem? (i := 3) rfl)))) rfl rfl rfl (by decide +kernel) ⟨Nat.le_of_ble_eq_true rfl, Nat.le_of_ble_eq_true rfl⟩) ⟨fun a U g mk q => ⟨q.1, q.2.calling rfl rfl⟩, k_recv hK hI i_h0.1 hc0 (ci := 12) rfl, fun U hU hW => ⟨rfl, kIn.of hI hK hE hS hU hW⟩⟩ rfl rfl hl.1 rfl (lv_room (Nat.le_of_ble_eq_true rfl)) dX12_chosen_49 ⟨Nat.le_of_ble_eq_true rfl, Nat.le_of_ble_eq_true rfl⟩) hS (fun q _ h => h) (fun q h => h) (fun r_19 u t H1 locs ht hvm w_18 hB hz1 hk1 hS => ?_)
    obtain ⟨f_17, hI, kc_20, w24_21, k_22⟩ := hB
    rw [ht] at hI
    have k_23 : f_17 (gr g h0 4) = .inl (gc g 1, 906, .inr (.inl q)) := Kp.at kc_20 i_1 (by decide) hc1
    have k_22 : f_17 h0 = .inr (12, [.int z0, .int z1, .ref (gr g h0 2), .ref (gr g h0 3), .ref (gr g h0 4), .ref (gr g h0 5), .ref (gr g h0 6), .ref (gr g h0 7), .ref (gr g h0 8), .ref (gr g h0 9), .int z10, .ref (gr g h0 11), .int z12, .int z13, .int z14, .int z15, .long z16, .int z17, .int z18, .ref (gr g h0 19), .ref (gr g h0 20), .ref (gr g h0 21), .ref (gr g h0 22), .int z23, .long w24_21, .long z25, .long z26]) := k_22
    have kp_24 := Kp.call hk0 kc_20 (by decide)
    generalize H1 = H at hI hS ⊢
    refine W.widen (k := 0) (n := 0) (Nat.le_of_ble_eq_true rfl) (Nat.le_of_ble_eq_true rfl) ?_
    have w_18 : -1 ≤ r_19.toInt ∧ r_19.toInt < (q 0).toInt := w_18
    have w_25 : -1 ≤ r_19.toInt ∧ r_19.toInt < (q 0).toInt := by omega
    exact W.iret (v := r_19) hx hb hr (fun t ht hW => ⟨⟨r_19, (), rfl, w_25, ⟨f_17, k_ret ht hI, kp_24, w24_21, k_22⟩⟩, hS.F ht⟩) hS.2.2 dX12_chosen_52
  have h_3 := kn_eq rfl (by decide : Int32.toInt 1 = 1) h_3
  have h_7 := kn_eq rfl (by decide : Int32.toInt 2 = 2) h_7
  have h_12 := kn_eq rfl (by decide : Int32.toInt 3 = 3) h_12
  have h_16 := kn_eq rfl (by decide : Int32.toInt 4 = 4) h_16
  refine lv_tableOut (tgt := 53) hx hb dX12_chosen_1 (by omega) (by decide) ?_
  refine lv_aload_n hx hb dX12_chosen_53 rfl (lv_at hl 0 rfl) ?_
  refine k_get (ci := 12) (v := .ref (gr g h0 4)) (C := RX12) (T := TX12) (N := 27) hx hb hts (fun _ h0_ => List.mem_cons_of_mem _ (List.mem_append_right _ (List.mem_append_right _ (List.mem_append_right _ (List.mem_append_right _ (List.mem_append_right _ (List.mem_append_left _ h0_))))))) hown hK hI i_h0.1 hc0 rfl 4 (by decide) (hts (.fieldLink RX12 16 "DeadlineShareModel" "row" "[J") (List.mem_cons_of_mem _ (List.mem_append_left _ (List.mem_of_getElem? (i := 13) rfl)))) (fun _ h9 => h9) rfl dX12_chosen_54 ?_
  refine lv_iconst (v := 4) hx hb dX12_chosen_57 (by decide) ?_
  refine k_lald hx hb hK hI i_1.1 1 hc1 rfl (by unfold vp_in; decide) dX12_chosen_58 ?_
  refine k_topl (y := q 4) (congrArg q (show Int32.toNatClampNeg 4 = 4 by decide)) ?_
  refine lv_l2i (v := (q 4).toInt32) hx hb dX12_chosen_59 rfl ?_
  refine lv_topi (fun v_28 ev_28 => ?_)
  have tv_28 := k_l2i (q 4)
  rw [← ev_28] at tv_28
  refine lv_istore_n (lv' := [(2, .int v_28), (0, .ref h0), (1, .int p1)]) hx hb dX12_chosen_60 rfl hl (by decide) rfl (fun ls hl => ?_)
  refine lv_aload_n hx hb dX12_chosen_61 rfl (lv_at hl 1 rfl) ?_
  refine k_get (ci := 12) (v := .ref (gr g h0 3)) (C := RX12) (T := TX12) (N := 27) hx hb hts (fun _ h0_ => List.mem_cons_of_mem _ (List.mem_append_right _ (List.mem_append_right _ (List.mem_append_right _ (List.mem_append_right _ (List.mem_append_right _ (List.mem_append_left _ h0_))))))) hown hK hI i_h0.1 hc0 rfl 3 (by decide) (hts (.fieldLink RX12 13 "DeadlineShareModel" "term" "[I") (List.mem_cons_of_mem _ (List.mem_append_left _ (List.mem_of_getElem? (i := 14) rfl)))) (fun _ h9 => h9) rfl dX12_chosen_62 ?_
  have i_30 := kw_12_3 hG i_h0
  refine lv_iconst (v := 0) hx hb dX12_chosen_65 (by decide) ?_
  obtain ⟨q_32, k_31⟩ := op_31 hI i_30
  refine k_iald hx hb hK hI i_30.1 0 k_31 rfl (by unfold vp_in; decide) dX12_chosen_66 ?_
  refine k_topi (y := q_32 0) (congrArg q_32 (show Int32.toNatClampNeg 0 = 0 by decide)) ?_
  refine lv_iconst (v := 1) hx hb dX12_chosen_67 (by decide) ?_
  have J_80 : ∀ (H : Heap) (locs : List Loc) (ls : Array Slot), Iv dC dI g A f H → va_S A s.heap H locs → lv_has ls 3 [(2, .int v_28), (0, .ref h0), (1, .int p1)] → W p l e (headSpec wq_c_X12_chosen ({ frames := 5, cells := 0, slots := 0, locals := 108 } : Room)).room s m ([.ref h0, .int p1].toArray) below meth c H locs 0 0 (MQ below (va_Qi (fun (r : Int32) (_ : Unit) => -1 ≤ r.toInt ∧ r.toInt < (q 0).toInt) (fun (_ : Unit) t => ∃ f1 : Nat → va_E, Iv dC dI g A f1 t.heap ∧ Kp g [12] f f1 ∧ ∃ (w24 : Int64), (f1 h0 = .inr (12, [.int z0, .int z1, .ref (gr g h0 2), .ref (gr g h0 3), .ref (gr g h0 4), .ref (gr g h0 5), .ref (gr g h0 6), .ref (gr g h0 7), .ref (gr g h0 8), .ref (gr g h0 9), .int z10, .ref (gr g h0 11), .int z12, .int z13, .int z14, .int z15, .long z16, .int z17, .int z18, .ref (gr g h0 19), .ref (gr g h0 20), .ref (gr g h0 21), .ref (gr g h0 22), .int z23, .long w24, .long z25, .long z26]))) A) ([.ref h0, .int p1].toArray) s 0 0 A) (F0 m 80 ls []) := by
    intro H locs ls hI hS  hl
    refine lv_aload_n hx hb dX12_chosen_80 rfl (lv_at hl 1 rfl) ?_
    refine lv_iconst (v := 1) hx hb dX12_chosen_81 (by decide) ?_
    refine va_calli (va_runV (As := [.int 1]) (rest := []) ⟨hx, hb, hml, hown, hts⟩ (c_X12_byDeadline l dC dI g A hG f h0 1 q i_h0 hc1 hc1_ok) (cwV 1 hts (gi_V (fun w_ h0_ => ⟨List.mem_cons_of_mem _ (List.mem_append_right _ (List.mem_append_right _ (List.mem_append_left _ h0_))), (tb_c_X12_byDeadline w_ h0_).2⟩) (List.mem_cons_of_mem _ (List.mem_append_left _ (List.mem_of_getElem? (i := 4) rfl))) (List.mem_cons_of_mem _ (List.mem_append_left _ (List.mem_of_getElem? (i := 5) rfl))) (List.mem_cons_of_mem _ (List.mem_append_left _ (List.mem_of_getElem? (i := 6) rfl))) (List.mem_cons_of_mem _ (List.mem_append_left _ (List.mem_of_getElem? (i := 3) rfl)))) rfl rfl rfl (by decide +kernel) ⟨Nat.le_of_ble_eq_true rfl, Nat.le_of_ble_eq_true rfl⟩) ⟨fun a U g mk q => ⟨q.1, q.2.calling rfl rfl⟩, k_recv hK hI i_h0.1 hc0 (ci := 12) rfl, fun U hU hW => ⟨rfl, kIn.of hI hK hE hS hU hW⟩⟩ rfl rfl hl.1 rfl (lv_room (Nat.le_of_ble_eq_true rfl)) dX12_chosen_82 ⟨Nat.le_of_ble_eq_true rfl, Nat.le_of_ble_eq_true rfl⟩) hS (fun q _ h => h) (fun q h => h) (fun r_34 u t H1 locs ht hvm w_33 hB hz1 hk1 hS => ?_)
    have hI : Iv dC dI g A f t.heap := hB
    rw [ht] at hI
    generalize H1 = H at hI hS ⊢
    refine W.widen (k := 0) (n := 0) (Nat.le_of_ble_eq_true rfl) (Nat.le_of_ble_eq_true rfl) ?_
    have w_33 : -1 ≤ r_34.toInt ∧ r_34.toInt < (q 0).toInt := w_33
    have g_35 : Int32.toInt (1) = 1 := by decide
    have w_36 : -1 ≤ r_34.toInt ∧ r_34.toInt < (q 0).toInt := by omega
    exact W.iret (v := r_34) hx hb hr (fun t ht hW => ⟨⟨r_34, (), rfl, w_36, ⟨f, k_ret ht hI, hk0, z24, hc0⟩⟩, hS.F ht⟩) hS.2.2 dX12_chosen_85
  refine lv_icmp_ne (tgt := 80) hx hb dX12_chosen_68 (by decide) (fun c_37 => ?_) (fun c_37 => ?_)
  · have c_37 := kn_eq rfl (by decide : Int32.toInt 1 = 1) c_37
    exact J_80  _ _ _ hI hS  (lv_sub hl [0, 1, 2] rfl)
  · have c_37 := kc_eq rfl (by decide : Int32.toInt 1 = 1) c_37
    refine lv_iload_n hx hb dX12_chosen_71 rfl (lv_at hl 0 rfl) ?_
    refine lv_iconst (v := (-1)) hx hb dX12_chosen_72 (by decide) ?_
    refine lv_icmp_eq (tgt := 80) hx hb dX12_chosen_73 (by decide) (fun c_38 => ?_) (fun c_38 => ?_)
    · have c_38 := kc_eq rfl (by decide : Int32.toInt (-1) = (-1)) c_38
      exact J_80  _ _ _ hI hS  (lv_sub hl [0, 1, 2] rfl)
    · have c_38 := kn_eq rfl (by decide : Int32.toInt (-1) = (-1)) c_38
      refine lv_iload_n hx hb dX12_chosen_76 rfl (lv_at hl 0 rfl) ?_
      refine lv_goto (tgt := 85) hx hb dX12_chosen_77 (by decide) ?_
      have w_39 : -1 ≤ v_28.toInt ∧ v_28.toInt < (q 0).toInt := by omega
      exact W.iret (v := v_28) hx hb hr (fun t ht hW => ⟨⟨v_28, (), rfl, w_39, ⟨f, k_ret ht hI, hk0, z24, hc0⟩⟩, hS.F ht⟩) hS.2.2 dX12_chosen_85
theorem tw_804 : q_g (.constantLong RX12 272 (999)) := ⟨(List.mem_append_right _ (List.mem_of_getElem? (i := 1441) (by decide +kernel))), good_of_word (by decide +kernel)⟩
theorem tw_805 : q_g (.code yX12_runs cX12_runs 5 none) := ⟨(List.mem_append_right _ (List.mem_of_getElem? (i := 1440) (by decide +kernel))), good_of_word (by decide +kernel)⟩
def ow_c_X12_runs : List Cond := [.methodLink RX12 87 yX12_at, .static yX12_at, .initialized RX12, .fieldLink RX12 16 "DeadlineShareModel" "row" "[J", .constantLong RX12 108 (5354228880), .methodLink RX12 105 yX12_heavy, .instanceMethod yX12_heavy, .selects RX12 yX12_heavy yX12_heavy, .methodLink RX12 98 yX12_virtual, .instanceMethod yX12_virtual, .selects RX12 yX12_virtual yX12_virtual, .methodLink RX12 101 yX12_sum, .instanceMethod yX12_sum, .selects RX12 yX12_sum yX12_sum, .constantLong RX12 65 (-1), .methodLink RX12 90 yX12_isOn, .instanceMethod yX12_isOn, .selects RX12 yX12_isOn yX12_isOn, .constantLong RX12 272 (999)]
def wq_c_X12_runs : List Cond := .code yX12_runs cX12_runs 5 none :: (ow_c_X12_runs ++ (wq_c_X12_at ++ (u_ws RX12 TX12 27 ++ (wq_c_X12_heavy ++ (wq_c_X12_virtual ++ (wq_c_X12_sum ++ (wq_c_X12_isOn ++ ([] : List Cond))))))))
theorem tb_c_X12_runs : ∀ w ∈ wq_c_X12_runs, q_g w := by
  unfold wq_c_X12_runs ow_c_X12_runs
  exact q_cons tw_805 (q_app (q_cons tw_734 (q_cons tw_733 (q_cons tw_728 (q_cons tw_731 (q_cons tw_757 (q_cons tw_752 (q_cons tw_751 (q_cons tw_750 (q_cons tw_748 (q_cons tw_747 (q_cons tw_746 (q_cons tw_755 (q_cons tw_754 (q_cons tw_753 (q_cons tw_773 (q_cons tw_744 (q_cons tw_743 (q_cons tw_742 (q_cons tw_804 q_nil))))))))))))))))))) (q_app tb_c_X12_at (q_app tu_X12 (q_app tb_c_X12_heavy (q_app tb_c_X12_virtual (q_app tb_c_X12_sum (q_app tb_c_X12_isOn q_nil)))))))
set_option maxHeartbeats 4000000 in
set_option maxRecDepth 100000 in
theorem c_X12_runs (l : Launch) (dC : Nat → ClassId) (dI : Nat → Nat → Nat) (g : kG) (A : Nat → Prop) (hG : kWf g) (f : Nat → va_E) (h0 : Nat) (p1 : Nat) (q : Nat → Int64) (i_h0 : ik g 12 h0) (hc0 : f (gr g h0 4) = .inl (gc g 1, 906, .inr (.inl q))) (hc0_ok : RowOK q) (ht : (p1 : Int) < (q 0).toInt) : Met l yX12_runs wq_c_X12_runs ({ frames := 3, cells := 0, slots := 0, locals := 64 } : Room) (va_Pc [.ref h0, .int (nI p1)] (fun U => kIn dC dI g A f U)) (va_Qv (fun (_ : Unit) => True) (fun (_ : Unit) t => ∃ f1 : Nat → va_E, Iv dC dI g A f1 t.heap ∧ Kp g [32] f f1 ∧ ∃ (q1 : Nat → Int64), (f1 (gr g h0 4) = .inl (gc g 1, 906, .inr (.inl q1))) ∧ (RowOK q1) ∧ ((q1 0).toInt = (q 0).toInt) ∧ ((q1 1).toInt = (q 1).toInt)) A) 0 0 A := by
  refine Met.ofW (cc := cX12_runs) (maxL := 5) (ret := none) (by decide) rfl ?_
  intro p e s m args below meth c s₁ B hml hv
  obtain ⟨rfl, hI, hK, hE⟩ := hv
  have hx := B.exec
  have hb := B.bytes
  have hr := B.returns
  have hts := atoms_spec (ws := wq_c_X12_runs) B.pre
  have hown : s.vm.findClass RX12 = some m.cls := findClass_of_methodNamed B.named
  have hlocks := B.notSynchronized
  have hS : va_S A s.heap s.heap [] := va_S.rf
  have hk0 : Kp g [32] f f := Kp.rf
  have hl := lv_entry ([.ref h0, .int (nI p1)]) (n := 5) (Nat.le_of_ble_eq_true rfl)
  rw [lg_entry_eq]
  generalize (lg_sl ([.ref h0, .int (nI p1)]) ++ List.replicate (5 - (lg_sl ([.ref h0, .int (nI p1)])).length) Slot.unset).toArray = ls at hl ⊢
  have hl : lv_has ls 5 [(0, .ref h0), (1, .int (nI p1))] := hl
  have i_1 := kw_12_4 hG i_h0
  have d_2 := rk_hd hc0_ok
  refine lv_iload_n hx hb dX12_runs_0 rfl (lv_at hl 1 rfl) ?_
  refine va_calli (va_runS (As := [.int (nI p1)]) (rest := []) ⟨hx, hb, hml, hown, hts⟩ (c_X12_at l dC dI g A hG f p1) (va_cwS 1 hts (gi_S (fun w_ h0_ => ⟨List.mem_cons_of_mem _ (List.mem_append_right _ (List.mem_append_left _ h0_)), (tb_c_X12_at w_ h0_).2⟩) (List.mem_cons_of_mem _ (List.mem_append_left _ (List.mem_of_getElem? (i := 0) rfl))) (List.mem_cons_of_mem _ (List.mem_append_left _ (List.mem_of_getElem? (i := 1) rfl))) (List.mem_cons_of_mem _ (List.mem_append_left _ (List.mem_of_getElem? (i := 2) rfl)))) rfl rfl rfl (by decide +kernel) ⟨Nat.le_of_ble_eq_true rfl, Nat.le_of_ble_eq_true rfl⟩) ⟨fun a U g mk q => ⟨q.1, q.2.calling rfl rfl⟩, fun U hU hW => ⟨rfl, kIn.of hI hK hE hS hU hW⟩⟩ rfl rfl hl.1 rfl (lv_room (Nat.le_of_ble_eq_true rfl)) dX12_runs_1 ⟨Nat.le_of_ble_eq_true rfl, Nat.le_of_ble_eq_true rfl⟩) hS (fun q _ h => h) (fun q h => h) (fun r_4 u t H1 locs ht hvm w_3 hB hz1 hk1 hS => ?_)
  have hI : Iv dC dI g A f t.heap := hB
  rw [ht] at hI
  generalize H1 = H at hI hS ⊢
  refine W.widen (k := 0) (n := 0) (Nat.le_of_ble_eq_true rfl) (Nat.le_of_ble_eq_true rfl) ?_
  have w_3 : r_4 = nI (6 + 43 * p1) := w_3
  refine k_topi (y := nI (6 + 43 * p1)) w_3 ?_
  refine lv_istore_n (lv' := [(2, .int (nI (6 + 43 * p1))), (0, .ref h0), (1, .int (nI p1))]) hx hb dX12_runs_4 rfl hl (by decide) rfl (fun ls hl => ?_)
  refine lv_aload_n hx hb dX12_runs_5 rfl (lv_at hl 1 rfl) ?_
  obtain ⟨x_6, x_7, x_8, x_9, x_10, x_11, x_12, x_13, x_14, x_15, x_16, x_17, x_18, x_19, k_5, b_20, b_21, b_22, b_23, b_24, b_25⟩ := op_12 hI i_h0
  refine k_get (ci := 12) (v := .ref (gr g h0 4)) (C := RX12) (T := TX12) (N := 27) hx hb hts (fun _ h0_ => List.mem_cons_of_mem _ (List.mem_append_right _ (List.mem_append_right _ (List.mem_append_left _ h0_)))) hown hK hI i_h0.1 k_5 rfl 4 (by decide) (hts (.fieldLink RX12 16 "DeadlineShareModel" "row" "[J") (List.mem_cons_of_mem _ (List.mem_append_left _ (List.mem_of_getElem? (i := 3) rfl)))) (fun _ h9 => h9) rfl dX12_runs_6 ?_
  refine lv_iload_n hx hb dX12_runs_9 rfl (lv_at hl 0 rfl) ?_
  refine lv_bipush (v := 10) hx hb dX12_runs_10 (by decide) ?_
  refine lv_iadd hx hb dX12_runs_12 ?_
  refine k_topi (y := nI (6 + 43 * p1 + 10)) ((nI_add (6 + 43 * p1) 10).trans (congrArg nI (by omega))) ?_
  refine lv_dup2_11 hx hb dX12_runs_13 rfl rfl ?_
  refine k_lald hx hb hK hI i_1.1 1 hc0 rfl (vp_in_nI (by omega) (by omega)) dX12_runs_14 ?_
  refine k_topl (y := q (6 + 43 * p1 + 10)) (congrArg q (nI_clamp (by omega))) ?_
  refine lv_ldc2 hx hb hown (hts (.constantLong RX12 108 (5354228880)) (List.mem_cons_of_mem _ (List.mem_append_left _ (List.mem_of_getElem? (i := 4) rfl)))) dX12_runs_15 ?_
  refine lv_aload_n hx hb dX12_runs_18 rfl (lv_at hl 1 rfl) ?_
  refine k_get (ci := 12) (v := .ref (gr g h0 4)) (C := RX12) (T := TX12) (N := 27) hx hb hts (fun _ h0_ => List.mem_cons_of_mem _ (List.mem_append_right _ (List.mem_append_right _ (List.mem_append_left _ h0_)))) hown hK hI i_h0.1 k_5 rfl 4 (by decide) (hts (.fieldLink RX12 16 "DeadlineShareModel" "row" "[J") (List.mem_cons_of_mem _ (List.mem_append_left _ (List.mem_of_getElem? (i := 3) rfl)))) (fun _ h9 => h9) rfl dX12_runs_19 ?_
  refine lv_iload_n hx hb dX12_runs_22 rfl (lv_at hl 0 rfl) ?_
  refine lv_iconst (v := 0) hx hb dX12_runs_23 (by decide) ?_
  refine lv_iadd hx hb dX12_runs_24 ?_
  refine k_topi (y := nI (6 + 43 * p1)) ((nI_add (6 + 43 * p1) 0).trans (congrArg nI (by omega))) ?_
  refine k_lald hx hb hK hI i_1.1 1 hc0 rfl (vp_in_nI (by omega) (by omega)) dX12_runs_25 ?_
  refine k_topl (y := q (6 + 43 * p1)) (congrArg q (nI_clamp (by omega))) ?_
  have d_30 := rk_0 hc0_ok (t := p1) (by omega)
  refine lv_ldiv hx hb dX12_runs_26 (k_ne0L (by omega)) ?_
  refine lv_topl (fun v_31 ev_31 => ?_)
  refine lv_ladd hx hb dX12_runs_27 ?_
  refine lv_topl (fun v_32 ev_32 => ?_)
  have tv_32 := l_ad (q (6 + 43 * p1 + 10)) v_31
  rw [← ev_32] at tv_32
  refine k_last hx hb hK hI hS i_1.1 1 hc0 rfl (vp_in_nI (by omega) (by omega)) (cl_32 i_1) dX12_runs_28 (fun f_33 H locs e_34 hI hS => ?_)
  generalize eq_35 : vp_updL q (Int32.toNatClampNeg (nI (6 + 43 * p1 + 10))) v_32 = q_35 at e_34
  have k_37 : f_33 (gr g h0 4) = .inl (gc g 1, 906, .inr (.inl q_35)) := by rw [e_34]; exact va_up_self _ _ _
  have k_38 : f_33 h0 = .inr (12, [.int x_6, .int x_7, .ref (gr g h0 2), .ref (gr g h0 3), .ref (gr g h0 4), .ref (gr g h0 5), .ref (gr g h0 6), .ref (gr g h0 7), .ref (gr g h0 8), .ref (gr g h0 9), .int x_8, .ref (gr g h0 11), .int x_9, .int x_10, .int x_11, .int x_12, .long x_13, .int x_14, .int x_15, .ref (gr g h0 19), .ref (gr g h0 20), .ref (gr g h0 21), .ref (gr g h0 22), .int x_16, .long x_17, .long x_18, .long x_19]) := by rw [e_34, va_up_ne _ _ (ik_ne i_h0 i_1 (by decide))]; exact k_5
  have kp_36 := Kp.put hk0 i_1 (by decide) e_34
  have u_39 : vp_updL q (6 + 43 * p1 + 10) v_32 = q_35 := by rw [← eq_35, show Int32.toNatClampNeg (nI (6 + 43 * p1 + 10)) = 6 + 43 * p1 + 10 from (nI_clamp (by omega))]
  have ok_40 : RowOK q_35 := by rw [← u_39]; exact rk_upd hc0_ok (by refine ⟨⟨by omega, by omega, by omega, by omega, by omega⟩, fun t9 ht9 => ⟨by omega, by omega, by omega, by omega, by omega, by omega⟩, fun t9 k9 ht9 hk9 => ⟨by omega, by omega, by omega⟩, by omega⟩)
  have d_41 := rk_hd ok_40
  have n_42 : (q_35 0).toInt = (q 0).toInt := by rw [← u_39, pk_uLn (by omega)]
  have n_43 : (q_35 1).toInt = (q 1).toInt := by rw [← u_39, pk_uLn (by omega)]
  have n_44 : (q_35 3).toInt = (q 3).toInt := by rw [← u_39, pk_uLn (by omega)]
  have n_45 : (q_35 4).toInt = (q 4).toInt := by rw [← u_39, pk_uLn (by omega)]
  have n_46 : (q_35 5).toInt = (q 5).toInt := by rw [← u_39, pk_uLn (by omega)]
  refine lv_aload_n hx hb dX12_runs_29 rfl (lv_at hl 1 rfl) ?_
  refine k_get (ci := 12) (v := .ref (gr g h0 4)) (C := RX12) (T := TX12) (N := 27) hx hb hts (fun _ h0_ => List.mem_cons_of_mem _ (List.mem_append_right _ (List.mem_append_right _ (List.mem_append_left _ h0_)))) hown hK hI i_h0.1 k_38 rfl 4 (by decide) (hts (.fieldLink RX12 16 "DeadlineShareModel" "row" "[J") (List.mem_cons_of_mem _ (List.mem_append_left _ (List.mem_of_getElem? (i := 3) rfl)))) (fun _ h9 => h9) rfl dX12_runs_30 ?_
  refine lv_iload_n hx hb dX12_runs_33 rfl (lv_at hl 0 rfl) ?_
  refine lv_iconst (v := 4) hx hb dX12_runs_34 (by decide) ?_
  refine lv_iadd hx hb dX12_runs_35 ?_
  refine k_topi (y := nI (6 + 43 * p1 + 4)) ((nI_add (6 + 43 * p1) 4).trans (congrArg nI (by omega))) ?_
  refine lv_dup2_11 hx hb dX12_runs_36 rfl rfl ?_
  refine k_lald hx hb hK hI i_1.1 1 k_37 rfl (vp_in_nI (by omega) (by omega)) dX12_runs_37 ?_
  refine k_topl (y := q_35 (6 + 43 * p1 + 4)) (congrArg q_35 (nI_clamp (by omega))) ?_
  refine lv_lconst (v := 1) hx hb dX12_runs_38 (by decide) ?_
  refine lv_ladd hx hb dX12_runs_39 ?_
  refine lv_topl (fun v_49 ev_49 => ?_)
  have tv_49 := l_ad (q_35 (6 + 43 * p1 + 4)) 1
  rw [← ev_49, show Int64.toInt 1 = 1 from by decide] at tv_49
  refine k_last hx hb hK hI hS i_1.1 1 k_37 rfl (vp_in_nI (by omega) (by omega)) (cl_32 i_1) dX12_runs_40 (fun f_50 H locs e_51 hI hS => ?_)
  generalize eq_52 : vp_updL q_35 (Int32.toNatClampNeg (nI (6 + 43 * p1 + 4))) v_49 = q_52 at e_51
  have k_54 : f_50 (gr g h0 4) = .inl (gc g 1, 906, .inr (.inl q_52)) := by rw [e_51]; exact va_up_self _ _ _
  have k_55 : f_50 h0 = .inr (12, [.int x_6, .int x_7, .ref (gr g h0 2), .ref (gr g h0 3), .ref (gr g h0 4), .ref (gr g h0 5), .ref (gr g h0 6), .ref (gr g h0 7), .ref (gr g h0 8), .ref (gr g h0 9), .int x_8, .ref (gr g h0 11), .int x_9, .int x_10, .int x_11, .int x_12, .long x_13, .int x_14, .int x_15, .ref (gr g h0 19), .ref (gr g h0 20), .ref (gr g h0 21), .ref (gr g h0 22), .int x_16, .long x_17, .long x_18, .long x_19]) := by rw [e_51, va_up_ne _ _ (ik_ne i_h0 i_1 (by decide))]; exact k_38
  have kp_53 := Kp.put kp_36 i_1 (by decide) e_51
  have u_56 : vp_updL q_35 (6 + 43 * p1 + 4) v_49 = q_52 := by rw [← eq_52, show Int32.toNatClampNeg (nI (6 + 43 * p1 + 4)) = 6 + 43 * p1 + 4 from (nI_clamp (by omega))]
  have ok_57 : RowOK q_52 := by rw [← u_56]; exact rk_upd ok_40 (by refine ⟨⟨by omega, by omega, by omega, by omega, by omega⟩, fun t9 ht9 => ⟨by omega, by omega, by omega, by omega, by omega, by omega⟩, fun t9 k9 ht9 hk9 => ⟨by omega, by omega, by omega⟩, by omega⟩)
  have d_58 := rk_hd ok_57
  have n_59 : (q_52 0).toInt = (q_35 0).toInt := by rw [← u_56, pk_uLn (by omega)]
  have n_60 : (q_52 1).toInt = (q_35 1).toInt := by rw [← u_56, pk_uLn (by omega)]
  have n_61 : (q_52 3).toInt = (q_35 3).toInt := by rw [← u_56, pk_uLn (by omega)]
  have n_62 : (q_52 4).toInt = (q_35 4).toInt := by rw [← u_56, pk_uLn (by omega)]
  have n_63 : (q_52 5).toInt = (q_35 5).toInt := by rw [← u_56, pk_uLn (by omega)]
  refine lv_aload_n hx hb dX12_runs_41 rfl (lv_at hl 1 rfl) ?_
  refine k_get (ci := 12) (v := .ref (gr g h0 4)) (C := RX12) (T := TX12) (N := 27) hx hb hts (fun _ h0_ => List.mem_cons_of_mem _ (List.mem_append_right _ (List.mem_append_right _ (List.mem_append_left _ h0_)))) hown hK hI i_h0.1 k_55 rfl 4 (by decide) (hts (.fieldLink RX12 16 "DeadlineShareModel" "row" "[J") (List.mem_cons_of_mem _ (List.mem_append_left _ (List.mem_of_getElem? (i := 3) rfl)))) (fun _ h9 => h9) rfl dX12_runs_42 ?_
  refine lv_iload_n hx hb dX12_runs_45 rfl (lv_at hl 0 rfl) ?_
  refine lv_bipush (v := 40) hx hb dX12_runs_46 (by decide) ?_
  refine lv_iadd hx hb dX12_runs_48 ?_
  refine k_topi (y := nI (6 + 43 * p1 + 40)) ((nI_add (6 + 43 * p1) 40).trans (congrArg nI (by omega))) ?_
  refine lv_dup2_11 hx hb dX12_runs_49 rfl rfl ?_
  refine k_lald hx hb hK hI i_1.1 1 k_54 rfl (vp_in_nI (by omega) (by omega)) dX12_runs_50 ?_
  refine k_topl (y := q_52 (6 + 43 * p1 + 40)) (congrArg q_52 (nI_clamp (by omega))) ?_
  refine lv_aload_n hx hb dX12_runs_51 rfl (lv_at hl 1 rfl) ?_
  refine k_get (ci := 12) (v := .ref (gr g h0 4)) (C := RX12) (T := TX12) (N := 27) hx hb hts (fun _ h0_ => List.mem_cons_of_mem _ (List.mem_append_right _ (List.mem_append_right _ (List.mem_append_left _ h0_)))) hown hK hI i_h0.1 k_55 rfl 4 (by decide) (hts (.fieldLink RX12 16 "DeadlineShareModel" "row" "[J") (List.mem_cons_of_mem _ (List.mem_append_left _ (List.mem_of_getElem? (i := 3) rfl)))) (fun _ h9 => h9) rfl dX12_runs_52 ?_
  refine lv_iload_n hx hb dX12_runs_55 rfl (lv_at hl 0 rfl) ?_
  refine lv_bipush (v := 41) hx hb dX12_runs_56 (by decide) ?_
  refine lv_iadd hx hb dX12_runs_58 ?_
  refine k_topi (y := nI (6 + 43 * p1 + 41)) ((nI_add (6 + 43 * p1) 41).trans (congrArg nI (by omega))) ?_
  refine k_lald hx hb hK hI i_1.1 1 k_54 rfl (vp_in_nI (by omega) (by omega)) dX12_runs_59 ?_
  refine k_topl (y := q_52 (6 + 43 * p1 + 41)) (congrArg q_52 (nI_clamp (by omega))) ?_
  have d_68 := rk_41 ok_57 (t := p1) (by omega)
  refine lv_lconst (v := 0) hx hb dX12_runs_60 (by decide) ?_
  refine W.lcmp hx hb dX12_runs_61 ?_
  have J_70 : ∀ (y_69 : Int64) (H : Heap) (locs : List Loc) (ls : Array Slot), Iv dC dI g A f_50 H → va_S A s.heap H locs → lv_has ls 5 [(2, .int (nI (6 + 43 * p1))), (0, .ref h0), (1, .int (nI p1))] → W p l e (headSpec wq_c_X12_runs ({ frames := 3, cells := 0, slots := 0, locals := 64 } : Room)).room s m ([.ref h0, .int (nI p1)].toArray) below meth c H locs 0 0 (MQ below (va_Qv (fun (_ : Unit) => True) (fun (_ : Unit) t => ∃ f1 : Nat → va_E, Iv dC dI g A f1 t.heap ∧ Kp g [32] f f1 ∧ ∃ (q1 : Nat → Int64), (f1 (gr g h0 4) = .inl (gc g 1, 906, .inr (.inl q1))) ∧ (RowOK q1) ∧ ((q1 0).toInt = (q 0).toInt) ∧ ((q1 1).toInt = (q 1).toInt)) A) ([.ref h0, .int (nI p1)].toArray) s 0 0 A) (F0 m 70 ls [.long y_69, .long (q_52 (6 + 43 * p1 + 40)), .int (nI (6 + 43 * p1 + 40)), .ref (gr g h0 4)]) := by
    intro y_69 H locs ls hI hS  hl
    refine lv_lsub hx hb dX12_runs_70 ?_
    refine lv_topl (fun v_70 ev_70 => ?_)
    have tv_70 := l_sb (q_52 (6 + 43 * p1 + 40)) y_69
    rw [← ev_70] at tv_70
    refine k_last hx hb hK hI hS i_1.1 1 k_54 rfl (vp_in_nI (by omega) (by omega)) (cl_32 i_1) dX12_runs_71 (fun f_71 H locs e_72 hI hS => ?_)
    generalize eq_73 : vp_updL q_52 (Int32.toNatClampNeg (nI (6 + 43 * p1 + 40))) v_70 = q_73 at e_72
    have k_75 : f_71 (gr g h0 4) = .inl (gc g 1, 906, .inr (.inl q_73)) := by rw [e_72]; exact va_up_self _ _ _
    have k_76 : f_71 h0 = .inr (12, [.int x_6, .int x_7, .ref (gr g h0 2), .ref (gr g h0 3), .ref (gr g h0 4), .ref (gr g h0 5), .ref (gr g h0 6), .ref (gr g h0 7), .ref (gr g h0 8), .ref (gr g h0 9), .int x_8, .ref (gr g h0 11), .int x_9, .int x_10, .int x_11, .int x_12, .long x_13, .int x_14, .int x_15, .ref (gr g h0 19), .ref (gr g h0 20), .ref (gr g h0 21), .ref (gr g h0 22), .int x_16, .long x_17, .long x_18, .long x_19]) := by rw [e_72, va_up_ne _ _ (ik_ne i_h0 i_1 (by decide))]; exact k_55
    have kp_74 := Kp.put kp_53 i_1 (by decide) e_72
    have u_77 : vp_updL q_52 (6 + 43 * p1 + 40) v_70 = q_73 := by rw [← eq_73, show Int32.toNatClampNeg (nI (6 + 43 * p1 + 40)) = 6 + 43 * p1 + 40 from (nI_clamp (by omega))]
    have ok_78 : RowOK q_73 := by rw [← u_77]; exact rk_upd ok_57 (by refine ⟨⟨by omega, by omega, by omega, by omega, by omega⟩, fun t9 ht9 => ⟨by omega, by omega, by omega, by omega, by omega, by omega⟩, fun t9 k9 ht9 hk9 => ⟨by omega, by omega, by omega⟩, by omega⟩)
    have d_79 := rk_hd ok_78
    have n_80 : (q_73 0).toInt = (q_52 0).toInt := by rw [← u_77, pk_uLn (by omega)]
    have n_81 : (q_73 1).toInt = (q_52 1).toInt := by rw [← u_77, pk_uLn (by omega)]
    have n_82 : (q_73 3).toInt = (q_52 3).toInt := by rw [← u_77, pk_uLn (by omega)]
    have n_83 : (q_73 4).toInt = (q_52 4).toInt := by rw [← u_77, pk_uLn (by omega)]
    have n_84 : (q_73 5).toInt = (q_52 5).toInt := by rw [← u_77, pk_uLn (by omega)]
    refine lv_iconst (v := 0) hx hb dX12_runs_72 (by decide) ?_
    refine lv_istore_n (lv' := [(3, .int 0), (2, .int (nI (6 + 43 * p1))), (0, .ref h0), (1, .int (nI p1))]) hx hb dX12_runs_73 rfl hl (by decide) rfl (fun ls hl => ?_)
    have K_74 : ∀ (nn : Nat) (y_85 : Nat) (q_87 : Nat → Int64) (f_86 : Nat → va_E) (H : Heap) (locs : List Loc) (ls : Array Slot), 12 - y_85 < nn → Iv dC dI g A f_86 H → va_S A s.heap H locs → f_86 (gr g h0 4) = .inl (gc g 1, 906, .inr (.inl q_87)) → RowOK q_87 → f_86 h0 = .inr (12, [.int x_6, .int x_7, .ref (gr g h0 2), .ref (gr g h0 3), .ref (gr g h0 4), .ref (gr g h0 5), .ref (gr g h0 6), .ref (gr g h0 7), .ref (gr g h0 8), .ref (gr g h0 9), .int x_8, .ref (gr g h0 11), .int x_9, .int x_10, .int x_11, .int x_12, .long x_13, .int x_14, .int x_15, .ref (gr g h0 19), .ref (gr g h0 20), .ref (gr g h0 21), .ref (gr g h0 22), .int x_16, .long x_17, .long x_18, .long x_19]) → Kp g [32] f f_86 → (y_85 ≤ 12) → ((q_87 0).toInt = (q 0).toInt) → ((q_87 1).toInt = (q 1).toInt) → lv_has ls 5 [(3, .int (nI y_85)), (2, .int (nI (6 + 43 * p1))), (0, .ref h0), (1, .int (nI p1))] → W p l e (headSpec wq_c_X12_runs ({ frames := 3, cells := 0, slots := 0, locals := 64 } : Room)).room s m ([.ref h0, .int (nI p1)].toArray) below meth c H locs 0 0 (MQ below (va_Qv (fun (_ : Unit) => True) (fun (_ : Unit) t => ∃ f1 : Nat → va_E, Iv dC dI g A f1 t.heap ∧ Kp g [32] f f1 ∧ ∃ (q1 : Nat → Int64), (f1 (gr g h0 4) = .inl (gc g 1, 906, .inr (.inl q1))) ∧ (RowOK q1) ∧ ((q1 0).toInt = (q 0).toInt) ∧ ((q1 1).toInt = (q 1).toInt)) A) ([.ref h0, .int (nI p1)].toArray) s 0 0 A) (F0 m 74 ls []) := by
      intro nn
      induction nn with
      | zero => intro y_85 q_87 f_86 H locs ls m_95; exact absurd m_95 (Nat.not_lt_zero _)
      | succ nn ih =>
        intro y_85 q_87 f_86 H locs ls m_95 hI hS k_88 ok_89 k_90 kp_91 t_94 t_92 t_93 hl
        have d_96 := rk_hd ok_89
        refine lv_iload_n hx hb dX12_runs_74 rfl (lv_at hl 0 rfl) ?_
        refine lv_i2l (v := lN (y_85)) hx hb dX12_runs_75 (nI_l (by omega)) ?_
        refine lv_aload_n hx hb dX12_runs_76 rfl (lv_at hl 2 rfl) ?_
        refine k_get (ci := 12) (v := .ref (gr g h0 4)) (C := RX12) (T := TX12) (N := 27) hx hb hts (fun _ h0_ => List.mem_cons_of_mem _ (List.mem_append_right _ (List.mem_append_right _ (List.mem_append_left _ h0_)))) hown hK hI i_h0.1 k_90 rfl 4 (by decide) (hts (.fieldLink RX12 16 "DeadlineShareModel" "row" "[J") (List.mem_cons_of_mem _ (List.mem_append_left _ (List.mem_of_getElem? (i := 3) rfl)))) (fun _ h9 => h9) rfl dX12_runs_77 ?_
        refine lv_iconst (v := 0) hx hb dX12_runs_80 (by decide) ?_
        refine k_lald hx hb hK hI i_1.1 1 k_88 rfl (by unfold vp_in; decide) dX12_runs_81 ?_
        refine k_topl (y := q_87 0) (congrArg q_87 (show Int32.toNatClampNeg 0 = 0 by decide)) ?_
        refine W.lcmp hx hb dX12_runs_82 ?_
        refine lv_if_ge (tgt := 217) hx hb dX12_runs_83 (by decide) (fun c_99 => ?_) (fun c_99 => ?_)
        · have c_99 := lc_le rfl (lN_toInt (n := y_85) (by omega)) ((lg_cmp_ge _ _).mp c_99)
          refine lv_aload_n hx hb dX12_runs_217 rfl (lv_at hl 2 rfl) ?_
          refine k_get (ci := 12) (v := .ref (gr g h0 4)) (C := RX12) (T := TX12) (N := 27) hx hb hts (fun _ h0_ => List.mem_cons_of_mem _ (List.mem_append_right _ (List.mem_append_right _ (List.mem_append_left _ h0_)))) hown hK hI i_h0.1 k_90 rfl 4 (by decide) (hts (.fieldLink RX12 16 "DeadlineShareModel" "row" "[J") (List.mem_cons_of_mem _ (List.mem_append_left _ (List.mem_of_getElem? (i := 3) rfl)))) (fun _ h9 => h9) rfl dX12_runs_218 ?_
          refine lv_iload_n hx hb dX12_runs_221 rfl (lv_at hl 1 rfl) ?_
          refine lv_iconst (v := 3) hx hb dX12_runs_222 (by decide) ?_
          refine lv_iadd hx hb dX12_runs_223 ?_
          refine k_topi (y := nI (6 + 43 * p1 + 3)) ((nI_add (6 + 43 * p1) 3).trans (congrArg nI (by omega))) ?_
          refine lv_dup2_11 hx hb dX12_runs_224 rfl rfl ?_
          refine k_lald hx hb hK hI i_1.1 1 k_88 rfl (vp_in_nI (by omega) (by omega)) dX12_runs_225 ?_
          refine k_topl (y := q_87 (6 + 43 * p1 + 3)) (congrArg q_87 (nI_clamp (by omega))) ?_
          refine lv_lconst (v := 1) hx hb dX12_runs_226 (by decide) ?_
          refine lv_lsub hx hb dX12_runs_227 ?_
          refine lv_topl (fun v_102 ev_102 => ?_)
          have tv_102 := l_sb (q_87 (6 + 43 * p1 + 3)) 1
          rw [← ev_102, show Int64.toInt 1 = 1 from by decide] at tv_102
          refine k_last hx hb hK hI hS i_1.1 1 k_88 rfl (vp_in_nI (by omega) (by omega)) (cl_32 i_1) dX12_runs_228 (fun f_103 H locs e_104 hI hS => ?_)
          generalize eq_105 : vp_updL q_87 (Int32.toNatClampNeg (nI (6 + 43 * p1 + 3))) v_102 = q_105 at e_104
          have k_107 : f_103 (gr g h0 4) = .inl (gc g 1, 906, .inr (.inl q_105)) := by rw [e_104]; exact va_up_self _ _ _
          have k_108 : f_103 h0 = .inr (12, [.int x_6, .int x_7, .ref (gr g h0 2), .ref (gr g h0 3), .ref (gr g h0 4), .ref (gr g h0 5), .ref (gr g h0 6), .ref (gr g h0 7), .ref (gr g h0 8), .ref (gr g h0 9), .int x_8, .ref (gr g h0 11), .int x_9, .int x_10, .int x_11, .int x_12, .long x_13, .int x_14, .int x_15, .ref (gr g h0 19), .ref (gr g h0 20), .ref (gr g h0 21), .ref (gr g h0 22), .int x_16, .long x_17, .long x_18, .long x_19]) := by rw [e_104, va_up_ne _ _ (ik_ne i_h0 i_1 (by decide))]; exact k_90
          have kp_106 := Kp.put kp_91 i_1 (by decide) e_104
          have u_109 : vp_updL q_87 (6 + 43 * p1 + 3) v_102 = q_105 := by rw [← eq_105, show Int32.toNatClampNeg (nI (6 + 43 * p1 + 3)) = 6 + 43 * p1 + 3 from (nI_clamp (by omega))]
          have ok_110 : RowOK q_105 := by rw [← u_109]; exact rk_upd ok_89 (by refine ⟨⟨by omega, by omega, by omega, by omega, by omega⟩, fun t9 ht9 => ⟨by omega, by omega, by omega, by omega, by omega, by omega⟩, fun t9 k9 ht9 hk9 => ⟨by omega, by omega, by omega⟩, by omega⟩)
          have d_111 := rk_hd ok_110
          have n_112 : (q_105 0).toInt = (q_87 0).toInt := by rw [← u_109, pk_uLn (by omega)]
          have n_113 : (q_105 1).toInt = (q_87 1).toInt := by rw [← u_109, pk_uLn (by omega)]
          have n_114 : (q_105 3).toInt = (q_87 3).toInt := by rw [← u_109, pk_uLn (by omega)]
          have n_115 : (q_105 4).toInt = (q_87 4).toInt := by rw [← u_109, pk_uLn (by omega)]
          have n_116 : (q_105 5).toInt = (q_87 5).toInt := by rw [← u_109, pk_uLn (by omega)]
          refine lv_aload_n hx hb dX12_runs_229 rfl (lv_at hl 2 rfl) ?_
          refine k_get (ci := 12) (v := .ref (gr g h0 4)) (C := RX12) (T := TX12) (N := 27) hx hb hts (fun _ h0_ => List.mem_cons_of_mem _ (List.mem_append_right _ (List.mem_append_right _ (List.mem_append_left _ h0_)))) hown hK hI i_h0.1 k_108 rfl 4 (by decide) (hts (.fieldLink RX12 16 "DeadlineShareModel" "row" "[J") (List.mem_cons_of_mem _ (List.mem_append_left _ (List.mem_of_getElem? (i := 3) rfl)))) (fun _ h9 => h9) rfl dX12_runs_230 ?_
          refine lv_iload_n hx hb dX12_runs_233 rfl (lv_at hl 1 rfl) ?_
          refine lv_iconst (v := 3) hx hb dX12_runs_234 (by decide) ?_
          refine lv_iadd hx hb dX12_runs_235 ?_
          refine k_topi (y := nI (6 + 43 * p1 + 3)) ((nI_add (6 + 43 * p1) 3).trans (congrArg nI (by omega))) ?_
          refine k_lald hx hb hK hI i_1.1 1 k_107 rfl (vp_in_nI (by omega) (by omega)) dX12_runs_236 ?_
          refine k_topl (y := q_105 (6 + 43 * p1 + 3)) (congrArg q_105 (nI_clamp (by omega))) ?_
          refine lv_lconst (v := 0) hx hb dX12_runs_237 (by decide) ?_
          refine W.lcmp hx hb dX12_runs_238 ?_
          refine lv_if_ne (tgt := 314) hx hb dX12_runs_239 (by decide) (fun c_119 => ?_) (fun c_119 => ?_)
          · have c_119 := ln_eq rfl (by decide : Int64.toInt 0 = 0) (fun h9 => c_119 ((lg_cmp_eq _ _).mpr h9))
            exact W.vret hx hb hr (fun t ht hW => ⟨⟨(), rfl, trivial, ⟨f_103, k_ret ht hI, kp_106, q_105, k_107, ok_110, (by first | omega | decide), (by first | omega | decide)⟩⟩, hS.F ht⟩) hS.2.2 dX12_runs_314
          · have c_119 := lc_eq rfl (by decide : Int64.toInt 0 = 0) ((lg_cmp_eq _ _).mp c_119)
            refine lv_aload_n hx hb dX12_runs_242 rfl (lv_at hl 2 rfl) ?_
            refine k_get (ci := 12) (v := .ref (gr g h0 4)) (C := RX12) (T := TX12) (N := 27) hx hb hts (fun _ h0_ => List.mem_cons_of_mem _ (List.mem_append_right _ (List.mem_append_right _ (List.mem_append_left _ h0_)))) hown hK hI i_h0.1 k_108 rfl 4 (by decide) (hts (.fieldLink RX12 16 "DeadlineShareModel" "row" "[J") (List.mem_cons_of_mem _ (List.mem_append_left _ (List.mem_of_getElem? (i := 3) rfl)))) (fun _ h9 => h9) rfl dX12_runs_243 ?_
            refine lv_iload_n hx hb dX12_runs_246 rfl (lv_at hl 1 rfl) ?_
            refine lv_iconst (v := 5) hx hb dX12_runs_247 (by decide) ?_
            refine lv_iadd hx hb dX12_runs_248 ?_
            refine k_topi (y := nI (6 + 43 * p1 + 5)) ((nI_add (6 + 43 * p1) 5).trans (congrArg nI (by omega))) ?_
            refine lv_dup2_11 hx hb dX12_runs_249 rfl rfl ?_
            refine k_lald hx hb hK hI i_1.1 1 k_107 rfl (vp_in_nI (by omega) (by omega)) dX12_runs_250 ?_
            refine k_topl (y := q_105 (6 + 43 * p1 + 5)) (congrArg q_105 (nI_clamp (by omega))) ?_
            refine lv_lconst (v := 1) hx hb dX12_runs_251 (by decide) ?_
            refine lv_ladd hx hb dX12_runs_252 ?_
            refine lv_topl (fun v_122 ev_122 => ?_)
            have tv_122 := l_ad (q_105 (6 + 43 * p1 + 5)) 1
            rw [← ev_122, show Int64.toInt 1 = 1 from by decide] at tv_122
            refine k_last hx hb hK hI hS i_1.1 1 k_107 rfl (vp_in_nI (by omega) (by omega)) (cl_32 i_1) dX12_runs_253 (fun f_123 H locs e_124 hI hS => ?_)
            generalize eq_125 : vp_updL q_105 (Int32.toNatClampNeg (nI (6 + 43 * p1 + 5))) v_122 = q_125 at e_124
            have k_127 : f_123 (gr g h0 4) = .inl (gc g 1, 906, .inr (.inl q_125)) := by rw [e_124]; exact va_up_self _ _ _
            have k_128 : f_123 h0 = .inr (12, [.int x_6, .int x_7, .ref (gr g h0 2), .ref (gr g h0 3), .ref (gr g h0 4), .ref (gr g h0 5), .ref (gr g h0 6), .ref (gr g h0 7), .ref (gr g h0 8), .ref (gr g h0 9), .int x_8, .ref (gr g h0 11), .int x_9, .int x_10, .int x_11, .int x_12, .long x_13, .int x_14, .int x_15, .ref (gr g h0 19), .ref (gr g h0 20), .ref (gr g h0 21), .ref (gr g h0 22), .int x_16, .long x_17, .long x_18, .long x_19]) := by rw [e_124, va_up_ne _ _ (ik_ne i_h0 i_1 (by decide))]; exact k_108
            have kp_126 := Kp.put kp_106 i_1 (by decide) e_124
            have u_129 : vp_updL q_105 (6 + 43 * p1 + 5) v_122 = q_125 := by rw [← eq_125, show Int32.toNatClampNeg (nI (6 + 43 * p1 + 5)) = 6 + 43 * p1 + 5 from (nI_clamp (by omega))]
            have ok_130 : RowOK q_125 := by rw [← u_129]; exact rk_upd ok_110 (by refine ⟨⟨by omega, by omega, by omega, by omega, by omega⟩, fun t9 ht9 => ⟨by omega, by omega, by omega, by omega, by omega, by omega⟩, fun t9 k9 ht9 hk9 => ⟨by omega, by omega, by omega⟩, by omega⟩)
            have d_131 := rk_hd ok_130
            have n_132 : (q_125 0).toInt = (q_105 0).toInt := by rw [← u_129, pk_uLn (by omega)]
            have n_133 : (q_125 1).toInt = (q_105 1).toInt := by rw [← u_129, pk_uLn (by omega)]
            have n_134 : (q_125 3).toInt = (q_105 3).toInt := by rw [← u_129, pk_uLn (by omega)]
            have n_135 : (q_125 4).toInt = (q_105 4).toInt := by rw [← u_129, pk_uLn (by omega)]
            have n_136 : (q_125 5).toInt = (q_105 5).toInt := by rw [← u_129, pk_uLn (by omega)]
            refine lv_aload_n hx hb dX12_runs_254 rfl (lv_at hl 2 rfl) ?_
            refine k_get (ci := 12) (v := .ref (gr g h0 4)) (C := RX12) (T := TX12) (N := 27) hx hb hts (fun _ h0_ => List.mem_cons_of_mem _ (List.mem_append_right _ (List.mem_append_right _ (List.mem_append_left _ h0_)))) hown hK hI i_h0.1 k_128 rfl 4 (by decide) (hts (.fieldLink RX12 16 "DeadlineShareModel" "row" "[J") (List.mem_cons_of_mem _ (List.mem_append_left _ (List.mem_of_getElem? (i := 3) rfl)))) (fun _ h9 => h9) rfl dX12_runs_255 ?_
            refine lv_iload_n hx hb dX12_runs_258 rfl (lv_at hl 1 rfl) ?_
            refine lv_bipush (v := 6) hx hb dX12_runs_259 (by decide) ?_
            refine lv_iadd hx hb dX12_runs_261 ?_
            refine k_topi (y := nI (6 + 43 * p1 + 6)) ((nI_add (6 + 43 * p1) 6).trans (congrArg nI (by omega))) ?_
            refine lv_dup2_11 hx hb dX12_runs_262 rfl rfl ?_
            refine k_lald hx hb hK hI i_1.1 1 k_127 rfl (vp_in_nI (by omega) (by omega)) dX12_runs_263 ?_
            refine k_topl (y := q_125 (6 + 43 * p1 + 6)) (congrArg q_125 (nI_clamp (by omega))) ?_
            refine lv_aload_n hx hb dX12_runs_264 rfl (lv_at hl 2 rfl) ?_
            refine va_calll (va_runV (As := []) (rest := [.long (q_125 (6 + 43 * p1 + 6)), .int (nI (6 + 43 * p1 + 6)), .ref (gr g h0 4)]) ⟨hx, hb, hml, hown, hts⟩ (c_X12_heavy l dC dI g A hG f_123 h0 q_125 i_h0 k_127 ok_130) (cwV 0 hts (gi_V (fun w_ h0_ => ⟨List.mem_cons_of_mem _ (List.mem_append_right _ (List.mem_append_right _ (List.mem_append_right _ (List.mem_append_left _ h0_)))), (tb_c_X12_heavy w_ h0_).2⟩) (List.mem_cons_of_mem _ (List.mem_append_left _ (List.mem_of_getElem? (i := 5) rfl))) (List.mem_cons_of_mem _ (List.mem_append_left _ (List.mem_of_getElem? (i := 6) rfl))) (List.mem_cons_of_mem _ (List.mem_append_left _ (List.mem_of_getElem? (i := 7) rfl))) (List.mem_cons_of_mem _ (List.mem_append_left _ (List.mem_of_getElem? (i := 2) rfl)))) rfl rfl rfl (by decide +kernel) ⟨Nat.le_of_ble_eq_true rfl, Nat.le_of_ble_eq_true rfl⟩) ⟨fun a U g mk q => ⟨q.1, q.2.calling rfl rfl⟩, k_recv hK hI i_h0.1 k_128 (ci := 12) rfl, fun U hU hW => ⟨rfl, kIn.of hI hK hE hS hU hW⟩⟩ rfl rfl hl.1 rfl (lv_room (Nat.le_of_ble_eq_true rfl)) dX12_runs_265 ⟨Nat.le_of_ble_eq_true rfl, Nat.le_of_ble_eq_true rfl⟩) hS (fun q _ h => h) (fun q h => h) (fun r_140 u t H1 locs ht hvm w_139 hB hz1 hk1 hS => ?_)
            have hI : Iv dC dI g A f_123 t.heap := hB
            rw [ht] at hI
            generalize H1 = H at hI hS ⊢
            refine W.widen (k := 0) (n := 0) (Nat.le_of_ble_eq_true rfl) (Nat.le_of_ble_eq_true rfl) ?_
            have w_139 : 0 ≤ r_140.toInt ∧ r_140.toInt ≤ 96 ∧ ∀ t : Nat, (t : Int) < (q_125 0).toInt → (q_125 (6 + 43 * t + 2)).toInt = 1 → 1 ≤ r_140.toInt := w_139
            refine lv_aload_n hx hb dX12_runs_268 rfl (lv_at hl 2 rfl) ?_
            refine lv_iload_n hx hb dX12_runs_269 rfl (lv_at hl 3 rfl) ?_
            refine va_calll (va_runV (As := [.int (nI p1)]) (rest := [.long r_140, .long (q_125 (6 + 43 * p1 + 6)), .int (nI (6 + 43 * p1 + 6)), .ref (gr g h0 4)]) ⟨hx, hb, hml, hown, hts⟩ (c_X12_virtual l dC dI g A hG f_123 h0 p1 q_125 i_h0 k_127 ok_130 (by first | omega | decide | (simp only [k_c0, k_c1, k_cm1]; omega))) (cwV 1 hts (gi_V (fun w_ h0_ => ⟨List.mem_cons_of_mem _ (List.mem_append_right _ (List.mem_append_right _ (List.mem_append_right _ (List.mem_append_right _ (List.mem_append_left _ h0_))))), (tb_c_X12_virtual w_ h0_).2⟩) (List.mem_cons_of_mem _ (List.mem_append_left _ (List.mem_of_getElem? (i := 8) rfl))) (List.mem_cons_of_mem _ (List.mem_append_left _ (List.mem_of_getElem? (i := 9) rfl))) (List.mem_cons_of_mem _ (List.mem_append_left _ (List.mem_of_getElem? (i := 10) rfl))) (List.mem_cons_of_mem _ (List.mem_append_left _ (List.mem_of_getElem? (i := 2) rfl)))) rfl rfl rfl (by decide +kernel) ⟨Nat.le_of_ble_eq_true rfl, Nat.le_of_ble_eq_true rfl⟩) ⟨fun a U g mk q => ⟨q.1, q.2.calling rfl rfl⟩, k_recv hK hI i_h0.1 k_128 (ci := 12) rfl, fun U hU hW => ⟨rfl, kIn.of hI hK hE hS hU hW⟩⟩ rfl rfl hl.1 rfl (lv_room (Nat.le_of_ble_eq_true rfl)) dX12_runs_270 ⟨Nat.le_of_ble_eq_true rfl, Nat.le_of_ble_eq_true rfl⟩) hS (fun q _ h => h) (fun q h => h) (fun r_142 u t H1 locs ht hvm w_141 hB hz1 hk1 hS => ?_)
            have hI : Iv dC dI g A f_123 t.heap := hB
            rw [ht] at hI
            generalize H1 = H at hI hS ⊢
            refine W.widen (k := 0) (n := 0) (Nat.le_of_ble_eq_true rfl) (Nat.le_of_ble_eq_true rfl) ?_
            refine lv_lmul hx hb dX12_runs_273 ?_
            refine lv_topl (fun v_143 ev_143 => ?_)
            refine lv_aload_n hx hb dX12_runs_274 rfl (lv_at hl 2 rfl) ?_
            refine va_calll (va_runV (As := []) (rest := [.long v_143, .long (q_125 (6 + 43 * p1 + 6)), .int (nI (6 + 43 * p1 + 6)), .ref (gr g h0 4)]) ⟨hx, hb, hml, hown, hts⟩ (c_X12_sum l dC dI g A hG f_123 h0 q_125 i_h0 k_127 ok_130) (cwV 0 hts (gi_V (fun w_ h0_ => ⟨List.mem_cons_of_mem _ (List.mem_append_right _ (List.mem_append_right _ (List.mem_append_right _ (List.mem_append_right _ (List.mem_append_right _ (List.mem_append_left _ h0_)))))), (tb_c_X12_sum w_ h0_).2⟩) (List.mem_cons_of_mem _ (List.mem_append_left _ (List.mem_of_getElem? (i := 11) rfl))) (List.mem_cons_of_mem _ (List.mem_append_left _ (List.mem_of_getElem? (i := 12) rfl))) (List.mem_cons_of_mem _ (List.mem_append_left _ (List.mem_of_getElem? (i := 13) rfl))) (List.mem_cons_of_mem _ (List.mem_append_left _ (List.mem_of_getElem? (i := 2) rfl)))) rfl rfl rfl (by decide +kernel) ⟨Nat.le_of_ble_eq_true rfl, Nat.le_of_ble_eq_true rfl⟩) ⟨fun a U g mk q => ⟨q.1, q.2.calling rfl rfl⟩, k_recv hK hI i_h0.1 k_128 (ci := 12) rfl, fun U hU hW => ⟨rfl, kIn.of hI hK hE hS hU hW⟩⟩ rfl rfl hl.1 rfl (lv_room (Nat.le_of_ble_eq_true rfl)) dX12_runs_275 ⟨Nat.le_of_ble_eq_true rfl, Nat.le_of_ble_eq_true rfl⟩) hS (fun q _ h => h) (fun q h => h) (fun r_145 u t H1 locs ht hvm w_144 hB hz1 hk1 hS => ?_)
            have hI : Iv dC dI g A f_123 t.heap := hB
            rw [ht] at hI
            generalize H1 = H at hI hS ⊢
            refine W.widen (k := 0) (n := 0) (Nat.le_of_ble_eq_true rfl) (Nat.le_of_ble_eq_true rfl) ?_
            refine W.lcmp hx hb dX12_runs_278 ?_
            have J_287 : ∀ (y_146 : Int64) (H : Heap) (locs : List Loc) (ls : Array Slot), Iv dC dI g A f_123 H → va_S A s.heap H locs → lv_has ls 5 [(3, .int (nI y_85)), (2, .int (nI (6 + 43 * p1))), (0, .ref h0), (1, .int (nI p1))] → W p l e (headSpec wq_c_X12_runs ({ frames := 3, cells := 0, slots := 0, locals := 64 } : Room)).room s m ([.ref h0, .int (nI p1)].toArray) below meth c H locs 0 0 (MQ below (va_Qv (fun (_ : Unit) => True) (fun (_ : Unit) t => ∃ f1 : Nat → va_E, Iv dC dI g A f1 t.heap ∧ Kp g [32] f f1 ∧ ∃ (q1 : Nat → Int64), (f1 (gr g h0 4) = .inl (gc g 1, 906, .inr (.inl q1))) ∧ (RowOK q1) ∧ ((q1 0).toInt = (q 0).toInt) ∧ ((q1 1).toInt = (q 1).toInt)) A) ([.ref h0, .int (nI p1)].toArray) s 0 0 A) (F0 m 287 ls [.long y_146, .long (q_125 (6 + 43 * p1 + 6)), .int (nI (6 + 43 * p1 + 6)), .ref (gr g h0 4)]) := by
              intro y_146 H locs ls hI hS  hl
              refine lv_ladd hx hb dX12_runs_287 ?_
              refine lv_topl (fun v_147 ev_147 => ?_)
              have tv_147 := l_ad (q_125 (6 + 43 * p1 + 6)) y_146
              rw [← ev_147] at tv_147
              refine k_last hx hb hK hI hS i_1.1 1 k_127 rfl (vp_in_nI (by omega) (by omega)) (cl_32 i_1) dX12_runs_288 (fun f_148 H locs e_149 hI hS => ?_)
              generalize eq_150 : vp_updL q_125 (Int32.toNatClampNeg (nI (6 + 43 * p1 + 6))) v_147 = q_150 at e_149
              have k_152 : f_148 (gr g h0 4) = .inl (gc g 1, 906, .inr (.inl q_150)) := by rw [e_149]; exact va_up_self _ _ _
              have k_153 : f_148 h0 = .inr (12, [.int x_6, .int x_7, .ref (gr g h0 2), .ref (gr g h0 3), .ref (gr g h0 4), .ref (gr g h0 5), .ref (gr g h0 6), .ref (gr g h0 7), .ref (gr g h0 8), .ref (gr g h0 9), .int x_8, .ref (gr g h0 11), .int x_9, .int x_10, .int x_11, .int x_12, .long x_13, .int x_14, .int x_15, .ref (gr g h0 19), .ref (gr g h0 20), .ref (gr g h0 21), .ref (gr g h0 22), .int x_16, .long x_17, .long x_18, .long x_19]) := by rw [e_149, va_up_ne _ _ (ik_ne i_h0 i_1 (by decide))]; exact k_128
              have kp_151 := Kp.put kp_126 i_1 (by decide) e_149
              have u_154 : vp_updL q_125 (6 + 43 * p1 + 6) v_147 = q_150 := by rw [← eq_150, show Int32.toNatClampNeg (nI (6 + 43 * p1 + 6)) = 6 + 43 * p1 + 6 from (nI_clamp (by omega))]
              have ok_155 : RowOK q_150 := by rw [← u_154]; exact rk_upd ok_130 (by refine ⟨⟨by omega, by omega, by omega, by omega, by omega⟩, fun t9 ht9 => ⟨by omega, by omega, by omega, by omega, by omega, by omega⟩, fun t9 k9 ht9 hk9 => ⟨by omega, by omega, by omega⟩, by omega⟩)
              have d_156 := rk_hd ok_155
              have n_157 : (q_150 0).toInt = (q_125 0).toInt := by rw [← u_154, pk_uLn (by omega)]
              have n_158 : (q_150 1).toInt = (q_125 1).toInt := by rw [← u_154, pk_uLn (by omega)]
              have n_159 : (q_150 3).toInt = (q_125 3).toInt := by rw [← u_154, pk_uLn (by omega)]
              have n_160 : (q_150 4).toInt = (q_125 4).toInt := by rw [← u_154, pk_uLn (by omega)]
              have n_161 : (q_150 5).toInt = (q_125 5).toInt := by rw [← u_154, pk_uLn (by omega)]
              refine lv_aload_n hx hb dX12_runs_289 rfl (lv_at hl 2 rfl) ?_
              refine k_get (ci := 12) (v := .ref (gr g h0 4)) (C := RX12) (T := TX12) (N := 27) hx hb hts (fun _ h0_ => List.mem_cons_of_mem _ (List.mem_append_right _ (List.mem_append_right _ (List.mem_append_left _ h0_)))) hown hK hI i_h0.1 k_153 rfl 4 (by decide) (hts (.fieldLink RX12 16 "DeadlineShareModel" "row" "[J") (List.mem_cons_of_mem _ (List.mem_append_left _ (List.mem_of_getElem? (i := 3) rfl)))) (fun _ h9 => h9) rfl dX12_runs_290 ?_
              refine lv_iload_n hx hb dX12_runs_293 rfl (lv_at hl 1 rfl) ?_
              refine lv_iconst (v := 3) hx hb dX12_runs_294 (by decide) ?_
              refine lv_iadd hx hb dX12_runs_295 ?_
              refine k_topi (y := nI (6 + 43 * p1 + 3)) ((nI_add (6 + 43 * p1) 3).trans (congrArg nI (by omega))) ?_
              refine lv_aload_n hx hb dX12_runs_296 rfl (lv_at hl 2 rfl) ?_
              refine k_get (ci := 12) (v := .ref (gr g h0 4)) (C := RX12) (T := TX12) (N := 27) hx hb hts (fun _ h0_ => List.mem_cons_of_mem _ (List.mem_append_right _ (List.mem_append_right _ (List.mem_append_left _ h0_)))) hown hK hI i_h0.1 k_153 rfl 4 (by decide) (hts (.fieldLink RX12 16 "DeadlineShareModel" "row" "[J") (List.mem_cons_of_mem _ (List.mem_append_left _ (List.mem_of_getElem? (i := 3) rfl)))) (fun _ h9 => h9) rfl dX12_runs_297 ?_
              refine lv_iload_n hx hb dX12_runs_300 rfl (lv_at hl 1 rfl) ?_
              refine lv_iconst (v := 1) hx hb dX12_runs_301 (by decide) ?_
              refine lv_iadd hx hb dX12_runs_302 ?_
              refine k_topi (y := nI (6 + 43 * p1 + 1)) ((nI_add (6 + 43 * p1) 1).trans (congrArg nI (by omega))) ?_
              refine k_lald hx hb hK hI i_1.1 1 k_152 rfl (vp_in_nI (by omega) (by omega)) dX12_runs_303 ?_
              refine k_topl (y := q_150 (6 + 43 * p1 + 1)) (congrArg q_150 (nI_clamp (by omega))) ?_
              refine k_last hx hb hK hI hS i_1.1 1 k_152 rfl (vp_in_nI (by omega) (by omega)) (cl_32 i_1) dX12_runs_304 (fun f_166 H locs e_167 hI hS => ?_)
              generalize eq_168 : vp_updL q_150 (Int32.toNatClampNeg (nI (6 + 43 * p1 + 3))) (q_150 (6 + 43 * p1 + 1)) = q_168 at e_167
              have k_170 : f_166 (gr g h0 4) = .inl (gc g 1, 906, .inr (.inl q_168)) := by rw [e_167]; exact va_up_self _ _ _
              have k_171 : f_166 h0 = .inr (12, [.int x_6, .int x_7, .ref (gr g h0 2), .ref (gr g h0 3), .ref (gr g h0 4), .ref (gr g h0 5), .ref (gr g h0 6), .ref (gr g h0 7), .ref (gr g h0 8), .ref (gr g h0 9), .int x_8, .ref (gr g h0 11), .int x_9, .int x_10, .int x_11, .int x_12, .long x_13, .int x_14, .int x_15, .ref (gr g h0 19), .ref (gr g h0 20), .ref (gr g h0 21), .ref (gr g h0 22), .int x_16, .long x_17, .long x_18, .long x_19]) := by rw [e_167, va_up_ne _ _ (ik_ne i_h0 i_1 (by decide))]; exact k_153
              have kp_169 := Kp.put kp_151 i_1 (by decide) e_167
              have u_172 : vp_updL q_150 (6 + 43 * p1 + 3) (q_150 (6 + 43 * p1 + 1)) = q_168 := by rw [← eq_168, show Int32.toNatClampNeg (nI (6 + 43 * p1 + 3)) = 6 + 43 * p1 + 3 from (nI_clamp (by omega))]
              have ok_173 : RowOK q_168 := by rw [← u_172]; exact rk_upd ok_155 (by refine ⟨⟨by omega, by omega, by omega, by omega, by omega⟩, fun t9 ht9 => ⟨by omega, by omega, by omega, by omega, by omega, by omega⟩, fun t9 k9 ht9 hk9 => ⟨by omega, by omega, by omega⟩, by omega⟩)
              have d_174 := rk_hd ok_173
              have n_175 : (q_168 0).toInt = (q_150 0).toInt := by rw [← u_172, pk_uLn (by omega)]
              have n_176 : (q_168 1).toInt = (q_150 1).toInt := by rw [← u_172, pk_uLn (by omega)]
              have n_177 : (q_168 3).toInt = (q_150 3).toInt := by rw [← u_172, pk_uLn (by omega)]
              have n_178 : (q_168 4).toInt = (q_150 4).toInt := by rw [← u_172, pk_uLn (by omega)]
              have n_179 : (q_168 5).toInt = (q_150 5).toInt := by rw [← u_172, pk_uLn (by omega)]
              refine lv_aload_n hx hb dX12_runs_305 rfl (lv_at hl 2 rfl) ?_
              refine k_get (ci := 12) (v := .ref (gr g h0 4)) (C := RX12) (T := TX12) (N := 27) hx hb hts (fun _ h0_ => List.mem_cons_of_mem _ (List.mem_append_right _ (List.mem_append_right _ (List.mem_append_left _ h0_)))) hown hK hI i_h0.1 k_171 rfl 4 (by decide) (hts (.fieldLink RX12 16 "DeadlineShareModel" "row" "[J") (List.mem_cons_of_mem _ (List.mem_append_left _ (List.mem_of_getElem? (i := 3) rfl)))) (fun _ h9 => h9) rfl dX12_runs_306 ?_
              refine lv_iconst (v := 4) hx hb dX12_runs_309 (by decide) ?_
              refine lv_ldc2 hx hb hown (hts (.constantLong RX12 65 (-1)) (List.mem_cons_of_mem _ (List.mem_append_left _ (List.mem_of_getElem? (i := 14) rfl)))) dX12_runs_310 ?_
              refine k_last hx hb hK hI hS i_1.1 1 k_170 rfl (by unfold vp_in; decide) (cl_32 i_1) dX12_runs_313 (fun f_182 H locs e_183 hI hS => ?_)
              generalize eq_184 : vp_updL q_168 (Int32.toNatClampNeg 4) (-1) = q_184 at e_183
              have k_186 : f_182 (gr g h0 4) = .inl (gc g 1, 906, .inr (.inl q_184)) := by rw [e_183]; exact va_up_self _ _ _
              have k_187 : f_182 h0 = .inr (12, [.int x_6, .int x_7, .ref (gr g h0 2), .ref (gr g h0 3), .ref (gr g h0 4), .ref (gr g h0 5), .ref (gr g h0 6), .ref (gr g h0 7), .ref (gr g h0 8), .ref (gr g h0 9), .int x_8, .ref (gr g h0 11), .int x_9, .int x_10, .int x_11, .int x_12, .long x_13, .int x_14, .int x_15, .ref (gr g h0 19), .ref (gr g h0 20), .ref (gr g h0 21), .ref (gr g h0 22), .int x_16, .long x_17, .long x_18, .long x_19]) := by rw [e_183, va_up_ne _ _ (ik_ne i_h0 i_1 (by decide))]; exact k_171
              have kp_185 := Kp.put kp_169 i_1 (by decide) e_183
              have u_188 : vp_updL q_168 4 (-1) = q_184 := by rw [← eq_184, show Int32.toNatClampNeg 4 = 4 from (show Int32.toNatClampNeg 4 = 4 by decide)]
              have ok_189 : RowOK q_184 := by rw [← u_188]; exact rk_upd ok_173 (by rw [show Int64.toInt (-1) = (-1) from by decide]; refine ⟨⟨by omega, by omega, by omega, by omega, by omega⟩, fun t9 ht9 => ⟨by omega, by omega, by omega, by omega, by omega, by omega⟩, fun t9 k9 ht9 hk9 => ⟨by omega, by omega, by omega⟩, by omega⟩)
              have d_190 := rk_hd ok_189
              have n_191 : (q_184 0).toInt = (q_168 0).toInt := by rw [← u_188, pk_uLn (by omega)]
              have n_192 : (q_184 1).toInt = (q_168 1).toInt := by rw [← u_188, pk_uLn (by omega)]
              have n_193 : (q_184 3).toInt = (q_168 3).toInt := by rw [← u_188, pk_uLn (by omega)]
              have n_194 : (q_184 4).toInt = Int64.toInt (-1) := by rw [← u_188, pk_uLs]
              have n_195 : (q_184 5).toInt = (q_168 5).toInt := by rw [← u_188, pk_uLn (by omega)]
              exact W.vret hx hb hr (fun t ht hW => ⟨⟨(), rfl, trivial, ⟨f_182, k_ret ht hI, kp_185, q_184, k_186, ok_189, (by first | omega | decide), (by first | omega | decide)⟩⟩, hS.F ht⟩) hS.2.2 dX12_runs_314
            refine lv_if_ge (tgt := 286) hx hb dX12_runs_279 (by decide) (fun c_196 => ?_) (fun c_196 => ?_)
            · have c_196 := lc_le rfl rfl ((lg_cmp_ge _ _).mp c_196)
              refine lv_lconst (v := 0) hx hb dX12_runs_286 (by decide) ?_
              exact J_287 0 _ _ _ hI hS  (lv_sub hl [0, 1, 2, 3] rfl)
            · have c_196 := ln_le rfl rfl (fun h9 => c_196 ((lg_cmp_ge _ _).mpr h9))
              refine lv_lconst (v := 1) hx hb dX12_runs_282 (by decide) ?_
              refine lv_goto (tgt := 287) hx hb dX12_runs_283 (by decide) ?_
              exact J_287 1 _ _ _ hI hS  (lv_sub hl [0, 1, 2, 3] rfl)
        · have c_99 := ln_le rfl (lN_toInt (n := y_85) (by omega)) (fun h9 => c_99 ((lg_cmp_ge _ _).mpr h9))
          refine lv_iload_n hx hb dX12_runs_86 rfl (lv_at hl 0 rfl) ?_
          refine va_calli (va_runS (As := [.int (nI y_85)]) (rest := []) ⟨hx, hb, hml, hown, hts⟩ (c_X12_at l dC dI g A hG f_86 y_85) (va_cwS 1 hts (gi_S (fun w_ h0_ => ⟨List.mem_cons_of_mem _ (List.mem_append_right _ (List.mem_append_left _ h0_)), (tb_c_X12_at w_ h0_).2⟩) (List.mem_cons_of_mem _ (List.mem_append_left _ (List.mem_of_getElem? (i := 0) rfl))) (List.mem_cons_of_mem _ (List.mem_append_left _ (List.mem_of_getElem? (i := 1) rfl))) (List.mem_cons_of_mem _ (List.mem_append_left _ (List.mem_of_getElem? (i := 2) rfl)))) rfl rfl rfl (by decide +kernel) ⟨Nat.le_of_ble_eq_true rfl, Nat.le_of_ble_eq_true rfl⟩) ⟨fun a U g mk q => ⟨q.1, q.2.calling rfl rfl⟩, fun U hU hW => ⟨rfl, kIn.of hI hK hE hS hU hW⟩⟩ rfl rfl hl.1 rfl (lv_room (Nat.le_of_ble_eq_true rfl)) dX12_runs_87 ⟨Nat.le_of_ble_eq_true rfl, Nat.le_of_ble_eq_true rfl⟩) hS (fun q _ h => h) (fun q h => h) (fun r_198 u t H1 locs ht hvm w_197 hB hz1 hk1 hS => ?_)
          have hI : Iv dC dI g A f_86 t.heap := hB
          rw [ht] at hI
          generalize H1 = H at hI hS ⊢
          refine W.widen (k := 0) (n := 0) (Nat.le_of_ble_eq_true rfl) (Nat.le_of_ble_eq_true rfl) ?_
          have w_197 : r_198 = nI (6 + 43 * y_85) := w_197
          refine k_topi (y := nI (6 + 43 * y_85)) w_197 ?_
          refine lv_istore (lv' := [(4, .int (nI (6 + 43 * y_85))), (3, .int (nI y_85)), (2, .int (nI (6 + 43 * p1))), (0, .ref h0), (1, .int (nI p1))]) hx hb dX12_runs_90 hl (by decide) rfl (fun ls hl => ?_)
          refine lv_iload_n hx hb dX12_runs_92 rfl (lv_at hl 1 rfl) ?_
          refine lv_iload_n hx hb dX12_runs_93 rfl (lv_at hl 4 rfl) ?_
          have J_211 : ∀ (q_200 : Nat → Int64) (f_199 : Nat → va_E) (H : Heap) (locs : List Loc) (ls : Array Slot), Iv dC dI g A f_199 H → va_S A s.heap H locs → f_199 (gr g h0 4) = .inl (gc g 1, 906, .inr (.inl q_200)) → RowOK q_200 → f_199 h0 = .inr (12, [.int x_6, .int x_7, .ref (gr g h0 2), .ref (gr g h0 3), .ref (gr g h0 4), .ref (gr g h0 5), .ref (gr g h0 6), .ref (gr g h0 7), .ref (gr g h0 8), .ref (gr g h0 9), .int x_8, .ref (gr g h0 11), .int x_9, .int x_10, .int x_11, .int x_12, .long x_13, .int x_14, .int x_15, .ref (gr g h0 19), .ref (gr g h0 20), .ref (gr g h0 21), .ref (gr g h0 22), .int x_16, .long x_17, .long x_18, .long x_19]) → Kp g [32] f f_199 → ((q_200 0).toInt = (q 0).toInt) → ((q_200 1).toInt = (q 1).toInt) → lv_has ls 5 [(4, .int (nI (6 + 43 * y_85))), (3, .int (nI y_85)), (2, .int (nI (6 + 43 * p1))), (0, .ref h0), (1, .int (nI p1))] → W p l e (headSpec wq_c_X12_runs ({ frames := 3, cells := 0, slots := 0, locals := 64 } : Room)).room s m ([.ref h0, .int (nI p1)].toArray) below meth c H locs 0 0 (MQ below (va_Qv (fun (_ : Unit) => True) (fun (_ : Unit) t => ∃ f1 : Nat → va_E, Iv dC dI g A f1 t.heap ∧ Kp g [32] f f1 ∧ ∃ (q1 : Nat → Int64), (f1 (gr g h0 4) = .inl (gc g 1, 906, .inr (.inl q1))) ∧ (RowOK q1) ∧ ((q1 0).toInt = (q 0).toInt) ∧ ((q1 1).toInt = (q 1).toInt)) A) ([.ref h0, .int (nI p1)].toArray) s 0 0 A) (F0 m 211 ls []) := by
            intro q_200 f_199 H locs ls hI hS k_201 ok_202 k_203 kp_204 t_205 t_206 hl
            have d_207 := rk_hd ok_202
            refine lv_iinc (v := nI (y_85 + 1)) (lv' := [(3, .int (nI (y_85 + 1))), (4, .int (nI (6 + 43 * y_85))), (2, .int (nI (6 + 43 * p1))), (0, .ref h0), (1, .int (nI p1))]) hx hb dX12_runs_211 hl (k := 1) rfl (nI_1 _) (by decide) rfl (fun ls hl => ?_)
            refine lv_goto (tgt := 74) hx hb dX12_runs_214 (by decide) ?_
            exact ih (y_85 + 1) q_200 f_199 _ _ _ (by omega) hI hS k_201 ok_202 k_203 kp_204 (by first | omega | decide) (by first | omega | decide) (by first | omega | decide) (lv_sub hl [0, 2, 3, 4] rfl)
          refine lv_icmp_ne (tgt := 111) hx hb dX12_runs_94 (by decide) (fun c_208 => ?_) (fun c_208 => ?_)
          · have c_208 := kn_eq (nI_toInt (n := y_85) (by omega)) (nI_toInt (n := p1) (by omega)) c_208
            refine lv_aload_n hx hb dX12_runs_111 rfl (lv_at hl 3 rfl) ?_
            refine lv_iload_n hx hb dX12_runs_112 rfl (lv_at hl 1 rfl) ?_
            refine va_calli (va_runV (As := [.int (nI y_85)]) (rest := []) ⟨hx, hb, hml, hown, hts⟩ (c_X12_isOn l dC dI g A hG f_86 h0 y_85 q_87 i_h0 k_88 ok_89 (by first | omega | decide | (simp only [k_c0, k_c1, k_cm1]; omega))) (cwV 1 hts (gi_V (fun w_ h0_ => ⟨List.mem_cons_of_mem _ (List.mem_append_right _ (List.mem_append_right _ (List.mem_append_right _ (List.mem_append_right _ (List.mem_append_right _ (List.mem_append_right _ (List.mem_append_left _ h0_))))))), (tb_c_X12_isOn w_ h0_).2⟩) (List.mem_cons_of_mem _ (List.mem_append_left _ (List.mem_of_getElem? (i := 15) rfl))) (List.mem_cons_of_mem _ (List.mem_append_left _ (List.mem_of_getElem? (i := 16) rfl))) (List.mem_cons_of_mem _ (List.mem_append_left _ (List.mem_of_getElem? (i := 17) rfl))) (List.mem_cons_of_mem _ (List.mem_append_left _ (List.mem_of_getElem? (i := 2) rfl)))) rfl rfl rfl (by decide +kernel) ⟨Nat.le_of_ble_eq_true rfl, Nat.le_of_ble_eq_true rfl⟩) ⟨fun a U g mk q => ⟨q.1, q.2.calling rfl rfl⟩, k_recv hK hI i_h0.1 k_90 (ci := 12) rfl, fun U hU hW => ⟨rfl, kIn.of hI hK hE hS hU hW⟩⟩ rfl rfl hl.1 rfl (lv_room (Nat.le_of_ble_eq_true rfl)) dX12_runs_113 ⟨Nat.le_of_ble_eq_true rfl, Nat.le_of_ble_eq_true rfl⟩) hS (fun q _ h => h) (fun q h => h) (fun r_210 u t H1 locs ht hvm w_209 hB hz1 hk1 hS => ?_)
            have hI : Iv dC dI g A f_86 t.heap := hB
            rw [ht] at hI
            generalize H1 = H at hI hS ⊢
            refine W.widen (k := 0) (n := 0) (Nat.le_of_ble_eq_true rfl) (Nat.le_of_ble_eq_true rfl) ?_
            have w_209 : (r_210.toInt = 0 ∧ (q_87 (6 + 43 * y_85 + 2)).toInt ≠ 1) ∨ (r_210.toInt = 1 ∧ (q_87 (6 + 43 * y_85 + 2)).toInt = 1) := w_209
            refine lv_if_eq (tgt := 211) hx hb dX12_runs_116 (by decide) (fun c_211 => ?_) (fun c_211 => ?_)
            · have c_211 := kc_eq rfl (by decide : Int32.toInt 0 = 0) c_211
              exact J_211 q_87 f_86 _ _ _ hI hS k_88 ok_89 k_90 kp_91 (by first | omega | decide) (by first | omega | decide) (lv_sub hl [0, 1, 2, 3, 4] rfl)
            · have c_211 := kn_eq rfl (by decide : Int32.toInt 0 = 0) c_211
              refine lv_aload_n hx hb dX12_runs_119 rfl (lv_at hl 3 rfl) ?_
              refine k_get (ci := 12) (v := .ref (gr g h0 4)) (C := RX12) (T := TX12) (N := 27) hx hb hts (fun _ h0_ => List.mem_cons_of_mem _ (List.mem_append_right _ (List.mem_append_right _ (List.mem_append_left _ h0_)))) hown hK hI i_h0.1 k_90 rfl 4 (by decide) (hts (.fieldLink RX12 16 "DeadlineShareModel" "row" "[J") (List.mem_cons_of_mem _ (List.mem_append_left _ (List.mem_of_getElem? (i := 3) rfl)))) (fun _ h9 => h9) rfl dX12_runs_120 ?_
              refine lv_iload hx hb dX12_runs_123 (lv_at hl 0 rfl) ?_
              refine lv_bipush (v := 7) hx hb dX12_runs_125 (by decide) ?_
              refine lv_iadd hx hb dX12_runs_127 ?_
              refine k_topi (y := nI (6 + 43 * y_85 + 7)) ((nI_add (6 + 43 * y_85) 7).trans (congrArg nI (by omega))) ?_
              refine lv_dup2_11 hx hb dX12_runs_128 rfl rfl ?_
              refine k_lald hx hb hK hI i_1.1 1 k_88 rfl (vp_in_nI (by omega) (by omega)) dX12_runs_129 ?_
              refine k_topl (y := q_87 (6 + 43 * y_85 + 7)) (congrArg q_87 (nI_clamp (by omega))) ?_
              refine lv_aload_n hx hb dX12_runs_130 rfl (lv_at hl 3 rfl) ?_
              refine k_get (ci := 12) (v := .ref (gr g h0 4)) (C := RX12) (T := TX12) (N := 27) hx hb hts (fun _ h0_ => List.mem_cons_of_mem _ (List.mem_append_right _ (List.mem_append_right _ (List.mem_append_left _ h0_)))) hown hK hI i_h0.1 k_90 rfl 4 (by decide) (hts (.fieldLink RX12 16 "DeadlineShareModel" "row" "[J") (List.mem_cons_of_mem _ (List.mem_append_left _ (List.mem_of_getElem? (i := 3) rfl)))) (fun _ h9 => h9) rfl dX12_runs_131 ?_
              refine lv_iload hx hb dX12_runs_134 (lv_at hl 0 rfl) ?_
              refine lv_bipush (v := 7) hx hb dX12_runs_136 (by decide) ?_
              refine lv_iadd hx hb dX12_runs_138 ?_
              refine k_topi (y := nI (6 + 43 * y_85 + 7)) ((nI_add (6 + 43 * y_85) 7).trans (congrArg nI (by omega))) ?_
              refine k_lald hx hb hK hI i_1.1 1 k_88 rfl (vp_in_nI (by omega) (by omega)) dX12_runs_139 ?_
              refine k_topl (y := q_87 (6 + 43 * y_85 + 7)) (congrArg q_87 (nI_clamp (by omega))) ?_
              refine lv_ldc2 hx hb hown (hts (.constantLong RX12 272 (999)) (List.mem_cons_of_mem _ (List.mem_append_left _ (List.mem_of_getElem? (i := 18) rfl)))) dX12_runs_140 ?_
              refine W.lcmp hx hb dX12_runs_143 ?_
              have J_152 : ∀ (y_216 : Int64) (H : Heap) (locs : List Loc) (ls : Array Slot), Iv dC dI g A f_86 H → va_S A s.heap H locs → lv_has ls 5 [(4, .int (nI (6 + 43 * y_85))), (3, .int (nI y_85)), (2, .int (nI (6 + 43 * p1))), (0, .ref h0), (1, .int (nI p1))] → W p l e (headSpec wq_c_X12_runs ({ frames := 3, cells := 0, slots := 0, locals := 64 } : Room)).room s m ([.ref h0, .int (nI p1)].toArray) below meth c H locs 0 0 (MQ below (va_Qv (fun (_ : Unit) => True) (fun (_ : Unit) t => ∃ f1 : Nat → va_E, Iv dC dI g A f1 t.heap ∧ Kp g [32] f f1 ∧ ∃ (q1 : Nat → Int64), (f1 (gr g h0 4) = .inl (gc g 1, 906, .inr (.inl q1))) ∧ (RowOK q1) ∧ ((q1 0).toInt = (q 0).toInt) ∧ ((q1 1).toInt = (q 1).toInt)) A) ([.ref h0, .int (nI p1)].toArray) s 0 0 A) (F0 m 152 ls [.long y_216, .long (q_87 (6 + 43 * y_85 + 7)), .int (nI (6 + 43 * y_85 + 7)), .ref (gr g h0 4)]) := by
                intro y_216 H locs ls hI hS  hl
                refine lv_ladd hx hb dX12_runs_152 ?_
                refine lv_topl (fun v_217 ev_217 => ?_)
                have tv_217 := l_ad (q_87 (6 + 43 * y_85 + 7)) y_216
                rw [← ev_217] at tv_217
                refine k_last hx hb hK hI hS i_1.1 1 k_88 rfl (vp_in_nI (by omega) (by omega)) (cl_32 i_1) dX12_runs_153 (fun f_218 H locs e_219 hI hS => ?_)
                generalize eq_220 : vp_updL q_87 (Int32.toNatClampNeg (nI (6 + 43 * y_85 + 7))) v_217 = q_220 at e_219
                have k_222 : f_218 (gr g h0 4) = .inl (gc g 1, 906, .inr (.inl q_220)) := by rw [e_219]; exact va_up_self _ _ _
                have k_223 : f_218 h0 = .inr (12, [.int x_6, .int x_7, .ref (gr g h0 2), .ref (gr g h0 3), .ref (gr g h0 4), .ref (gr g h0 5), .ref (gr g h0 6), .ref (gr g h0 7), .ref (gr g h0 8), .ref (gr g h0 9), .int x_8, .ref (gr g h0 11), .int x_9, .int x_10, .int x_11, .int x_12, .long x_13, .int x_14, .int x_15, .ref (gr g h0 19), .ref (gr g h0 20), .ref (gr g h0 21), .ref (gr g h0 22), .int x_16, .long x_17, .long x_18, .long x_19]) := by rw [e_219, va_up_ne _ _ (ik_ne i_h0 i_1 (by decide))]; exact k_90
                have kp_221 := Kp.put kp_91 i_1 (by decide) e_219
                have u_224 : vp_updL q_87 (6 + 43 * y_85 + 7) v_217 = q_220 := by rw [← eq_220, show Int32.toNatClampNeg (nI (6 + 43 * y_85 + 7)) = 6 + 43 * y_85 + 7 from (nI_clamp (by omega))]
                have ok_225 : RowOK q_220 := by rw [← u_224]; exact rk_upd ok_89 (by refine ⟨⟨by omega, by omega, by omega, by omega, by omega⟩, fun t9 ht9 => ⟨by omega, by omega, by omega, by omega, by omega, by omega⟩, fun t9 k9 ht9 hk9 => ⟨by omega, by omega, by omega⟩, by omega⟩)
                have d_226 := rk_hd ok_225
                have n_227 : (q_220 0).toInt = (q_87 0).toInt := by rw [← u_224, pk_uLn (by omega)]
                have n_228 : (q_220 1).toInt = (q_87 1).toInt := by rw [← u_224, pk_uLn (by omega)]
                have n_229 : (q_220 3).toInt = (q_87 3).toInt := by rw [← u_224, pk_uLn (by omega)]
                have n_230 : (q_220 4).toInt = (q_87 4).toInt := by rw [← u_224, pk_uLn (by omega)]
                have n_231 : (q_220 5).toInt = (q_87 5).toInt := by rw [← u_224, pk_uLn (by omega)]
                refine lv_aload_n hx hb dX12_runs_154 rfl (lv_at hl 3 rfl) ?_
                refine k_get (ci := 12) (v := .ref (gr g h0 4)) (C := RX12) (T := TX12) (N := 27) hx hb hts (fun _ h0_ => List.mem_cons_of_mem _ (List.mem_append_right _ (List.mem_append_right _ (List.mem_append_left _ h0_)))) hown hK hI i_h0.1 k_223 rfl 4 (by decide) (hts (.fieldLink RX12 16 "DeadlineShareModel" "row" "[J") (List.mem_cons_of_mem _ (List.mem_append_left _ (List.mem_of_getElem? (i := 3) rfl)))) (fun _ h9 => h9) rfl dX12_runs_155 ?_
                refine lv_iload hx hb dX12_runs_158 (lv_at hl 0 rfl) ?_
                refine lv_bipush (v := 8) hx hb dX12_runs_160 (by decide) ?_
                refine lv_iadd hx hb dX12_runs_162 ?_
                refine k_topi (y := nI (6 + 43 * y_85 + 8)) ((nI_add (6 + 43 * y_85) 8).trans (congrArg nI (by omega))) ?_
                refine lv_aload_n hx hb dX12_runs_163 rfl (lv_at hl 3 rfl) ?_
                refine k_get (ci := 12) (v := .ref (gr g h0 4)) (C := RX12) (T := TX12) (N := 27) hx hb hts (fun _ h0_ => List.mem_cons_of_mem _ (List.mem_append_right _ (List.mem_append_right _ (List.mem_append_left _ h0_)))) hown hK hI i_h0.1 k_223 rfl 4 (by decide) (hts (.fieldLink RX12 16 "DeadlineShareModel" "row" "[J") (List.mem_cons_of_mem _ (List.mem_append_left _ (List.mem_of_getElem? (i := 3) rfl)))) (fun _ h9 => h9) rfl dX12_runs_164 ?_
                refine lv_iload hx hb dX12_runs_167 (lv_at hl 0 rfl) ?_
                refine lv_bipush (v := 7) hx hb dX12_runs_169 (by decide) ?_
                refine lv_iadd hx hb dX12_runs_171 ?_
                refine k_topi (y := nI (6 + 43 * y_85 + 7)) ((nI_add (6 + 43 * y_85) 7).trans (congrArg nI (by omega))) ?_
                refine k_lald hx hb hK hI i_1.1 1 k_222 rfl (vp_in_nI (by omega) (by omega)) dX12_runs_172 ?_
                refine k_topl (y := q_220 (6 + 43 * y_85 + 7)) (congrArg q_220 (nI_clamp (by omega))) ?_
                refine lv_aload_n hx hb dX12_runs_173 rfl (lv_at hl 3 rfl) ?_
                refine k_get (ci := 12) (v := .ref (gr g h0 4)) (C := RX12) (T := TX12) (N := 27) hx hb hts (fun _ h0_ => List.mem_cons_of_mem _ (List.mem_append_right _ (List.mem_append_right _ (List.mem_append_left _ h0_)))) hown hK hI i_h0.1 k_223 rfl 4 (by decide) (hts (.fieldLink RX12 16 "DeadlineShareModel" "row" "[J") (List.mem_cons_of_mem _ (List.mem_append_left _ (List.mem_of_getElem? (i := 3) rfl)))) (fun _ h9 => h9) rfl dX12_runs_174 ?_
                refine lv_iload hx hb dX12_runs_177 (lv_at hl 0 rfl) ?_
                refine lv_bipush (v := 8) hx hb dX12_runs_179 (by decide) ?_
                refine lv_iadd hx hb dX12_runs_181 ?_
                refine k_topi (y := nI (6 + 43 * y_85 + 8)) ((nI_add (6 + 43 * y_85) 8).trans (congrArg nI (by omega))) ?_
                refine k_lald hx hb hK hI i_1.1 1 k_222 rfl (vp_in_nI (by omega) (by omega)) dX12_runs_182 ?_
                refine k_topl (y := q_220 (6 + 43 * y_85 + 8)) (congrArg q_220 (nI_clamp (by omega))) ?_
                refine W.lcmp hx hb dX12_runs_183 ?_
                have J_210 : ∀ (y_238 : Int64) (H : Heap) (locs : List Loc) (ls : Array Slot), Iv dC dI g A f_218 H → va_S A s.heap H locs → lv_has ls 5 [(4, .int (nI (6 + 43 * y_85))), (3, .int (nI y_85)), (2, .int (nI (6 + 43 * p1))), (0, .ref h0), (1, .int (nI p1))] → W p l e (headSpec wq_c_X12_runs ({ frames := 3, cells := 0, slots := 0, locals := 64 } : Room)).room s m ([.ref h0, .int (nI p1)].toArray) below meth c H locs 0 0 (MQ below (va_Qv (fun (_ : Unit) => True) (fun (_ : Unit) t => ∃ f1 : Nat → va_E, Iv dC dI g A f1 t.heap ∧ Kp g [32] f f1 ∧ ∃ (q1 : Nat → Int64), (f1 (gr g h0 4) = .inl (gc g 1, 906, .inr (.inl q1))) ∧ (RowOK q1) ∧ ((q1 0).toInt = (q 0).toInt) ∧ ((q1 1).toInt = (q 1).toInt)) A) ([.ref h0, .int (nI p1)].toArray) s 0 0 A) (F0 m 210 ls [.long y_238, .int (nI (6 + 43 * y_85 + 8)), .ref (gr g h0 4)]) := by
                  intro y_238 H locs ls hI hS  hl
                  refine k_last hx hb hK hI hS i_1.1 1 k_222 rfl (vp_in_nI (by omega) (by omega)) (cl_32 i_1) dX12_runs_210 (fun f_239 H locs e_240 hI hS => ?_)
                  generalize eq_241 : vp_updL q_220 (Int32.toNatClampNeg (nI (6 + 43 * y_85 + 8))) y_238 = q_241 at e_240
                  have k_243 : f_239 (gr g h0 4) = .inl (gc g 1, 906, .inr (.inl q_241)) := by rw [e_240]; exact va_up_self _ _ _
                  have k_244 : f_239 h0 = .inr (12, [.int x_6, .int x_7, .ref (gr g h0 2), .ref (gr g h0 3), .ref (gr g h0 4), .ref (gr g h0 5), .ref (gr g h0 6), .ref (gr g h0 7), .ref (gr g h0 8), .ref (gr g h0 9), .int x_8, .ref (gr g h0 11), .int x_9, .int x_10, .int x_11, .int x_12, .long x_13, .int x_14, .int x_15, .ref (gr g h0 19), .ref (gr g h0 20), .ref (gr g h0 21), .ref (gr g h0 22), .int x_16, .long x_17, .long x_18, .long x_19]) := by rw [e_240, va_up_ne _ _ (ik_ne i_h0 i_1 (by decide))]; exact k_223
                  have kp_242 := Kp.put kp_221 i_1 (by decide) e_240
                  have u_245 : vp_updL q_220 (6 + 43 * y_85 + 8) y_238 = q_241 := by rw [← eq_241, show Int32.toNatClampNeg (nI (6 + 43 * y_85 + 8)) = 6 + 43 * y_85 + 8 from (nI_clamp (by omega))]
                  have ok_246 : RowOK q_241 := by rw [← u_245]; exact rk_upd ok_225 (by refine ⟨⟨by omega, by omega, by omega, by omega, by omega⟩, fun t9 ht9 => ⟨by omega, by omega, by omega, by omega, by omega, by omega⟩, fun t9 k9 ht9 hk9 => ⟨by omega, by omega, by omega⟩, by omega⟩)
                  have d_247 := rk_hd ok_246
                  have n_248 : (q_241 0).toInt = (q_220 0).toInt := by rw [← u_245, pk_uLn (by omega)]
                  have n_249 : (q_241 1).toInt = (q_220 1).toInt := by rw [← u_245, pk_uLn (by omega)]
                  have n_250 : (q_241 3).toInt = (q_220 3).toInt := by rw [← u_245, pk_uLn (by omega)]
                  have n_251 : (q_241 4).toInt = (q_220 4).toInt := by rw [← u_245, pk_uLn (by omega)]
                  have n_252 : (q_241 5).toInt = (q_220 5).toInt := by rw [← u_245, pk_uLn (by omega)]
                  exact J_211 q_241 f_239 _ _ _ hI hS k_243 ok_246 k_244 kp_242 (by first | omega | decide) (by first | omega | decide) (lv_sub hl [0, 1, 2, 3, 4] rfl)
                refine lv_if_le (tgt := 200) hx hb dX12_runs_184 (by decide) (fun c_253 => ?_) (fun c_253 => ?_)
                · have c_253 := lc_le rfl rfl ((lg_cmp_le _ _).mp c_253)
                  refine lv_aload_n hx hb dX12_runs_200 rfl (lv_at hl 3 rfl) ?_
                  refine k_get (ci := 12) (v := .ref (gr g h0 4)) (C := RX12) (T := TX12) (N := 27) hx hb hts (fun _ h0_ => List.mem_cons_of_mem _ (List.mem_append_right _ (List.mem_append_right _ (List.mem_append_left _ h0_)))) hown hK hI i_h0.1 k_223 rfl 4 (by decide) (hts (.fieldLink RX12 16 "DeadlineShareModel" "row" "[J") (List.mem_cons_of_mem _ (List.mem_append_left _ (List.mem_of_getElem? (i := 3) rfl)))) (fun _ h9 => h9) rfl dX12_runs_201 ?_
                  refine lv_iload hx hb dX12_runs_204 (lv_at hl 0 rfl) ?_
                  refine lv_bipush (v := 8) hx hb dX12_runs_206 (by decide) ?_
                  refine lv_iadd hx hb dX12_runs_208 ?_
                  refine k_topi (y := nI (6 + 43 * y_85 + 8)) ((nI_add (6 + 43 * y_85) 8).trans (congrArg nI (by omega))) ?_
                  refine k_lald hx hb hK hI i_1.1 1 k_222 rfl (vp_in_nI (by omega) (by omega)) dX12_runs_209 ?_
                  refine k_topl (y := q_220 (6 + 43 * y_85 + 8)) (congrArg q_220 (nI_clamp (by omega))) ?_
                  exact J_210 (q_220 (6 + 43 * y_85 + 8)) _ _ _ hI hS  (lv_sub hl [0, 1, 2, 3, 4] rfl)
                · have c_253 := ln_le rfl rfl (fun h9 => c_253 ((lg_cmp_le _ _).mpr h9))
                  refine lv_aload_n hx hb dX12_runs_187 rfl (lv_at hl 3 rfl) ?_
                  refine k_get (ci := 12) (v := .ref (gr g h0 4)) (C := RX12) (T := TX12) (N := 27) hx hb hts (fun _ h0_ => List.mem_cons_of_mem _ (List.mem_append_right _ (List.mem_append_right _ (List.mem_append_left _ h0_)))) hown hK hI i_h0.1 k_223 rfl 4 (by decide) (hts (.fieldLink RX12 16 "DeadlineShareModel" "row" "[J") (List.mem_cons_of_mem _ (List.mem_append_left _ (List.mem_of_getElem? (i := 3) rfl)))) (fun _ h9 => h9) rfl dX12_runs_188 ?_
                  refine lv_iload hx hb dX12_runs_191 (lv_at hl 0 rfl) ?_
                  refine lv_bipush (v := 7) hx hb dX12_runs_193 (by decide) ?_
                  refine lv_iadd hx hb dX12_runs_195 ?_
                  refine k_topi (y := nI (6 + 43 * y_85 + 7)) ((nI_add (6 + 43 * y_85) 7).trans (congrArg nI (by omega))) ?_
                  refine k_lald hx hb hK hI i_1.1 1 k_222 rfl (vp_in_nI (by omega) (by omega)) dX12_runs_196 ?_
                  refine k_topl (y := q_220 (6 + 43 * y_85 + 7)) (congrArg q_220 (nI_clamp (by omega))) ?_
                  refine lv_goto (tgt := 210) hx hb dX12_runs_197 (by decide) ?_
                  exact J_210 (q_220 (6 + 43 * y_85 + 7)) _ _ _ hI hS  (lv_sub hl [0, 1, 2, 3, 4] rfl)
              refine lv_if_ge (tgt := 151) hx hb dX12_runs_144 (by decide) (fun c_258 => ?_) (fun c_258 => ?_)
              · have c_258 := lc_le (by decide : Int64.toInt 999 = 999) rfl ((lg_cmp_ge _ _).mp c_258)
                refine lv_lconst (v := 0) hx hb dX12_runs_151 (by decide) ?_
                exact J_152 0 _ _ _ hI hS  (lv_sub hl [0, 1, 2, 3, 4] rfl)
              · have c_258 := ln_le (by decide : Int64.toInt 999 = 999) rfl (fun h9 => c_258 ((lg_cmp_ge _ _).mpr h9))
                refine lv_lconst (v := 1) hx hb dX12_runs_147 (by decide) ?_
                refine lv_goto (tgt := 152) hx hb dX12_runs_148 (by decide) ?_
                exact J_152 1 _ _ _ hI hS  (lv_sub hl [0, 1, 2, 3, 4] rfl)
          · have c_208 := kc_eq (nI_toInt (n := y_85) (by omega)) (nI_toInt (n := p1) (by omega)) c_208
            refine lv_aload_n hx hb dX12_runs_97 rfl (lv_at hl 3 rfl) ?_
            refine k_get (ci := 12) (v := .ref (gr g h0 4)) (C := RX12) (T := TX12) (N := 27) hx hb hts (fun _ h0_ => List.mem_cons_of_mem _ (List.mem_append_right _ (List.mem_append_right _ (List.mem_append_left _ h0_)))) hown hK hI i_h0.1 k_90 rfl 4 (by decide) (hts (.fieldLink RX12 16 "DeadlineShareModel" "row" "[J") (List.mem_cons_of_mem _ (List.mem_append_left _ (List.mem_of_getElem? (i := 3) rfl)))) (fun _ h9 => h9) rfl dX12_runs_98 ?_
            refine lv_iload hx hb dX12_runs_101 (lv_at hl 0 rfl) ?_
            refine lv_bipush (v := 7) hx hb dX12_runs_103 (by decide) ?_
            refine lv_iadd hx hb dX12_runs_105 ?_
            refine k_topi (y := nI (6 + 43 * y_85 + 7)) ((nI_add (6 + 43 * y_85) 7).trans (congrArg nI (by omega))) ?_
            refine lv_lconst (v := 0) hx hb dX12_runs_106 (by decide) ?_
            refine k_last hx hb hK hI hS i_1.1 1 k_88 rfl (vp_in_nI (by omega) (by omega)) (cl_32 i_1) dX12_runs_107 (fun f_261 H locs e_262 hI hS => ?_)
            generalize eq_263 : vp_updL q_87 (Int32.toNatClampNeg (nI (6 + 43 * y_85 + 7))) 0 = q_263 at e_262
            have k_265 : f_261 (gr g h0 4) = .inl (gc g 1, 906, .inr (.inl q_263)) := by rw [e_262]; exact va_up_self _ _ _
            have k_266 : f_261 h0 = .inr (12, [.int x_6, .int x_7, .ref (gr g h0 2), .ref (gr g h0 3), .ref (gr g h0 4), .ref (gr g h0 5), .ref (gr g h0 6), .ref (gr g h0 7), .ref (gr g h0 8), .ref (gr g h0 9), .int x_8, .ref (gr g h0 11), .int x_9, .int x_10, .int x_11, .int x_12, .long x_13, .int x_14, .int x_15, .ref (gr g h0 19), .ref (gr g h0 20), .ref (gr g h0 21), .ref (gr g h0 22), .int x_16, .long x_17, .long x_18, .long x_19]) := by rw [e_262, va_up_ne _ _ (ik_ne i_h0 i_1 (by decide))]; exact k_90
            have kp_264 := Kp.put kp_91 i_1 (by decide) e_262
            have u_267 : vp_updL q_87 (6 + 43 * y_85 + 7) 0 = q_263 := by rw [← eq_263, show Int32.toNatClampNeg (nI (6 + 43 * y_85 + 7)) = 6 + 43 * y_85 + 7 from (nI_clamp (by omega))]
            have ok_268 : RowOK q_263 := by rw [← u_267]; exact rk_upd ok_89 (by rw [show Int64.toInt 0 = 0 from by decide]; refine ⟨⟨by omega, by omega, by omega, by omega, by omega⟩, fun t9 ht9 => ⟨by omega, by omega, by omega, by omega, by omega, by omega⟩, fun t9 k9 ht9 hk9 => ⟨by omega, by omega, by omega⟩, by omega⟩)
            have d_269 := rk_hd ok_268
            have n_270 : (q_263 0).toInt = (q_87 0).toInt := by rw [← u_267, pk_uLn (by omega)]
            have n_271 : (q_263 1).toInt = (q_87 1).toInt := by rw [← u_267, pk_uLn (by omega)]
            have n_272 : (q_263 3).toInt = (q_87 3).toInt := by rw [← u_267, pk_uLn (by omega)]
            have n_273 : (q_263 4).toInt = (q_87 4).toInt := by rw [← u_267, pk_uLn (by omega)]
            have n_274 : (q_263 5).toInt = (q_87 5).toInt := by rw [← u_267, pk_uLn (by omega)]
            refine lv_goto (tgt := 211) hx hb dX12_runs_108 (by decide) ?_
            exact J_211 q_263 f_261 _ _ _ hI hS k_265 ok_268 k_266 kp_264 (by first | omega | decide) (by first | omega | decide) (lv_sub hl [0, 1, 2, 3, 4] rfl)
    exact K_74 _ 0 q_73 f_71 _ _ _ (Nat.lt_succ_self _) hI hS k_75 ok_78 k_76 kp_74 (by first | omega | decide) (by first | omega | decide) (by first | omega | decide) (lv_sub hl [0, 1, 2, 3] rfl)
  refine lv_if_le (tgt := 69) hx hb dX12_runs_62 (by decide) (fun c_275 => ?_) (fun c_275 => ?_)
  · have c_275 := lc_le rfl (by decide : Int64.toInt 0 = 0) ((lg_cmp_le _ _).mp c_275)
    refine lv_lconst (v := 0) hx hb dX12_runs_69 (by decide) ?_
    exact J_70 0 _ _ _ hI hS  (lv_sub hl [0, 1, 2] rfl)
  · have c_275 := ln_le rfl (by decide : Int64.toInt 0 = 0) (fun h9 => c_275 ((lg_cmp_le _ _).mpr h9))
    refine lv_lconst (v := 1) hx hb dX12_runs_65 (by decide) ?_
    refine lv_goto (tgt := 70) hx hb dX12_runs_66 (by decide) ?_
    exact J_70 1 _ _ _ hI hS  (lv_sub hl [0, 1, 2] rfl)
theorem tw_806 : q_g (.fieldLink RX12 23 "DeadlineShareModel" "paper" "[J") := ⟨(List.mem_append_right _ (List.mem_of_getElem? (i := 1103) (by decide +kernel))), good_of_word (by decide +kernel)⟩
theorem tw_807 : q_g (.code yX12_begin cX12_begin 2 none) := ⟨(List.mem_append_right _ (List.mem_of_getElem? (i := 1507) (by decide +kernel))), good_of_word (by decide +kernel)⟩
def ow_c_X12_begin : List Cond := [.fieldLink RX12 23 "DeadlineShareModel" "paper" "[J", .fieldLink RX12 16 "DeadlineShareModel" "row" "[J"]
def wq_c_X12_begin : List Cond := .code yX12_begin cX12_begin 2 none :: (ow_c_X12_begin ++ (u_ws RX12 TX12 27 ++ ([] : List Cond)))
theorem tb_c_X12_begin : ∀ w ∈ wq_c_X12_begin, q_g w := by
  unfold wq_c_X12_begin ow_c_X12_begin
  exact q_cons tw_807 (q_app (q_cons tw_806 (q_cons tw_731 q_nil)) (q_app tu_X12 q_nil))
set_option maxHeartbeats 4000000 in
set_option maxRecDepth 100000 in
theorem c_X12_begin (l : Launch) (dC : Nat → ClassId) (dI : Nat → Nat → Nat) (g : kG) (A : Nat → Prop) (hG : kWf g) (f : Nat → va_E) (h0 : Nat) (q : Nat → Int64) (pp : Nat → Int64) (i_h0 : ik g 12 h0) (hc0 : f (gr g h0 4) = .inl (gc g 1, 906, .inr (.inl q))) (hc0_ok : RowOK q) (hc1 : f (gr g h0 6) = .inl (gc g 1, 906, .inr (.inl pp))) : Met l yX12_begin wq_c_X12_begin ({ frames := 0, cells := 0, slots := 0, locals := 0 } : Room) (va_Pc [.ref h0] (fun U => kIn dC dI g A f U)) (va_Qv (fun (_ : Unit) => True) (fun (_ : Unit) t => ∃ f1 : Nat → va_E, Iv dC dI g A f1 t.heap ∧ Kp g [34] f f1 ∧ ∃ (pp1 : Nat → Int64), (f1 (gr g h0 6) = .inl (gc g 1, 906, .inr (.inl pp1))) ∧ (RowOK pp1) ∧ ((pp1 0).toInt = (q 0).toInt) ∧ ((pp1 1).toInt = (q 1).toInt)) A) 0 0 A := by
  refine Met.ofW (cc := cX12_begin) (maxL := 2) (ret := none) (by decide) rfl ?_
  intro p e s m args below meth c s₁ B hml hv
  obtain ⟨rfl, hI, hK, hE⟩ := hv
  have hx := B.exec
  have hb := B.bytes
  have hr := B.returns
  have hts := atoms_spec (ws := wq_c_X12_begin) B.pre
  have hown : s.vm.findClass RX12 = some m.cls := findClass_of_methodNamed B.named
  have hlocks := B.notSynchronized
  have hS : va_S A s.heap s.heap [] := va_S.rf
  have hk0 : Kp g [34] f f := Kp.rf
  have hl := lv_entry ([.ref h0]) (n := 2) (Nat.le_of_ble_eq_true rfl)
  rw [lg_entry_eq]
  generalize (lg_sl ([.ref h0]) ++ List.replicate (2 - (lg_sl ([.ref h0])).length) Slot.unset).toArray = ls at hl ⊢
  have hl : lv_has ls 2 [(0, .ref h0)] := hl
  have i_1 := kw_12_4 hG i_h0
  have d_2 := rk_hd hc0_ok
  have i_3 := kw_12_6 hG i_h0
  refine lv_iconst (v := 0) hx hb dX12_begin_0 (by decide) ?_
  refine lv_istore_n (lv' := [(1, .int 0), (0, .ref h0)]) hx hb dX12_begin_1 rfl hl (by decide) rfl (fun ls hl => ?_)
  have K_2 : ∀ (nn : Nat) (y_4 : Nat) (q_6 : Nat → Int64) (f_5 : Nat → va_E) (H : Heap) (locs : List Loc) (ls : Array Slot), 906 - y_4 < nn → Iv dC dI g A f_5 H → va_S A s.heap H locs → f_5 (gr g h0 6) = .inl (gc g 1, 906, .inr (.inl q_6)) → f_5 (gr g h0 4) = .inl (gc g 1, 906, .inr (.inl q)) → Kp g [34] f f_5 → (y_4 ≤ 906) → (∀ j : Nat, j < y_4 → q_6 j = q j) → lv_has ls 2 [(1, .int (nI y_4)), (0, .ref h0)] → W p l e (headSpec wq_c_X12_begin ({ frames := 0, cells := 0, slots := 0, locals := 0 } : Room)).room s m ([.ref h0].toArray) below meth c H locs 0 0 (MQ below (va_Qv (fun (_ : Unit) => True) (fun (_ : Unit) t => ∃ f1 : Nat → va_E, Iv dC dI g A f1 t.heap ∧ Kp g [34] f f1 ∧ ∃ (pp1 : Nat → Int64), (f1 (gr g h0 6) = .inl (gc g 1, 906, .inr (.inl pp1))) ∧ (RowOK pp1) ∧ ((pp1 0).toInt = (q 0).toInt) ∧ ((pp1 1).toInt = (q 1).toInt)) A) ([.ref h0].toArray) s 0 0 A) (F0 m 2 ls []) := by
    intro nn
    induction nn with
    | zero => intro y_4 q_6 f_5 H locs ls m_12; exact absurd m_12 (Nat.not_lt_zero _)
    | succ nn ih =>
      intro y_4 q_6 f_5 H locs ls m_12 hI hS k_7 k_8 kp_9 t_10 t_11 hl
      refine lv_iload_n hx hb dX12_begin_2 rfl (lv_at hl 0 rfl) ?_
      refine lv_sipush (v := 906) hx hb dX12_begin_3 (by decide) ?_
      refine lv_icmp_ge (tgt := 27) hx hb dX12_begin_6 (by decide) (fun c_13 => ?_) (fun c_13 => ?_)
      · have c_13 := kc_le (by decide : Int32.toInt 906 = 906) (nI_toInt (n := y_4) (by omega)) c_13
        exact W.vret hx hb hr (fun t ht hW => ⟨⟨(), rfl, trivial, ⟨f_5, k_ret ht hI, kp_9, q_6, k_7, (rk_congr hc0_ok (fun i9 h9 => t_11 i9 (by omega))), (by rw [t_11 0 (by omega)]), (by rw [t_11 1 (by omega)])⟩⟩, hS.F ht⟩) hS.2.2 dX12_begin_27
      · have c_13 := kn_le (by decide : Int32.toInt 906 = 906) (nI_toInt (n := y_4) (by omega)) c_13
        refine lv_aload_n hx hb dX12_begin_9 rfl (lv_at hl 1 rfl) ?_
        obtain ⟨x_15, x_16, x_17, x_18, x_19, x_20, x_21, x_22, x_23, x_24, x_25, x_26, x_27, x_28, k_14, b_29, b_30, b_31, b_32, b_33, b_34⟩ := op_12 hI i_h0
        refine k_get (ci := 12) (v := .ref (gr g h0 6)) (C := RX12) (T := TX12) (N := 27) hx hb hts (fun _ h0_ => List.mem_cons_of_mem _ (List.mem_append_right _ (List.mem_append_left _ h0_))) hown hK hI i_h0.1 k_14 rfl 6 (by decide) (hts (.fieldLink RX12 23 "DeadlineShareModel" "paper" "[J") (List.mem_cons_of_mem _ (List.mem_append_left _ (List.mem_of_getElem? (i := 0) rfl)))) (fun _ h9 => h9) rfl dX12_begin_10 ?_
        refine lv_iload_n hx hb dX12_begin_13 rfl (lv_at hl 0 rfl) ?_
        refine lv_aload_n hx hb dX12_begin_14 rfl (lv_at hl 1 rfl) ?_
        refine k_get (ci := 12) (v := .ref (gr g h0 4)) (C := RX12) (T := TX12) (N := 27) hx hb hts (fun _ h0_ => List.mem_cons_of_mem _ (List.mem_append_right _ (List.mem_append_left _ h0_))) hown hK hI i_h0.1 k_14 rfl 4 (by decide) (hts (.fieldLink RX12 16 "DeadlineShareModel" "row" "[J") (List.mem_cons_of_mem _ (List.mem_append_left _ (List.mem_of_getElem? (i := 1) rfl)))) (fun _ h9 => h9) rfl dX12_begin_15 ?_
        refine lv_iload_n hx hb dX12_begin_18 rfl (lv_at hl 0 rfl) ?_
        refine k_lald hx hb hK hI i_1.1 1 k_8 rfl (vp_in_nI (by omega) (by omega)) dX12_begin_19 ?_
        refine k_topl (y := q y_4) (congrArg q (nI_clamp (by omega))) ?_
        refine k_last hx hb hK hI hS i_3.1 1 k_7 rfl (vp_in_nI (by omega) (by omega)) (cl_34 i_3) dX12_begin_20 (fun f_39 H locs e_40 hI hS => ?_)
        generalize eq_41 : vp_updL q_6 (Int32.toNatClampNeg (nI y_4)) (q y_4) = q_41 at e_40
        have k_43 : f_39 (gr g h0 6) = .inl (gc g 1, 906, .inr (.inl q_41)) := by rw [e_40]; exact va_up_self _ _ _
        have k_44 : f_39 (gr g h0 4) = .inl (gc g 1, 906, .inr (.inl q)) := by rw [e_40, va_up_ne _ _ (ik_ne i_1 i_3 (by decide))]; exact k_8
        have k_45 : f_39 h0 = .inr (12, [.int x_15, .int x_16, .ref (gr g h0 2), .ref (gr g h0 3), .ref (gr g h0 4), .ref (gr g h0 5), .ref (gr g h0 6), .ref (gr g h0 7), .ref (gr g h0 8), .ref (gr g h0 9), .int x_17, .ref (gr g h0 11), .int x_18, .int x_19, .int x_20, .int x_21, .long x_22, .int x_23, .int x_24, .ref (gr g h0 19), .ref (gr g h0 20), .ref (gr g h0 21), .ref (gr g h0 22), .int x_25, .long x_26, .long x_27, .long x_28]) := by rw [e_40, va_up_ne _ _ (ik_ne i_h0 i_3 (by decide))]; exact k_14
        have kp_42 := Kp.put kp_9 i_3 (by decide) e_40
        have u_46 : vp_updL q_6 y_4 (q y_4) = q_41 := by rw [← eq_41, show Int32.toNatClampNeg (nI y_4) = y_4 from (nI_clamp (by omega))]
        refine lv_iinc (v := nI (y_4 + 1)) (lv' := [(1, .int (nI (y_4 + 1))), (0, .ref h0)]) hx hb dX12_begin_21 hl (k := 0) rfl (nI_1 _) (by decide) rfl (fun ls hl => ?_)
        refine lv_goto (tgt := 2) hx hb dX12_begin_24 (by decide) ?_
        exact ih (y_4 + 1) q_41 f_39 _ _ _ (by omega) hI hS k_43 k_44 kp_42 (by first | omega | decide) (fun j9 h9 => by rw [← u_46]; exact if h8 : j9 = y_4 then (by subst h8; exact pk_uLs) else (by rw [pk_uLn (by omega)]; exact t_11 j9 (by omega))) (lv_sub hl [0, 1] rfl)
  exact K_2 _ 0 pp f _ _ _ (Nat.lt_succ_self _) hI hS hc1 hc0 hk0 (by first | omega | decide) (fun j9 h9 => absurd h9 (Nat.not_lt_zero j9)) (lv_sub hl [0, 1] rfl)
theorem tw_808 : q_g (.code yX12_over cX12_over 2 none) := ⟨(List.mem_append_right _ (List.mem_of_getElem? (i := 1511) (by decide +kernel))), good_of_word (by decide +kernel)⟩
def ow_c_X12_over : List Cond := [.fieldLink RX12 16 "DeadlineShareModel" "row" "[J", .fieldLink RX12 23 "DeadlineShareModel" "paper" "[J"]
def wq_c_X12_over : List Cond := .code yX12_over cX12_over 2 none :: (ow_c_X12_over ++ (u_ws RX12 TX12 27 ++ ([] : List Cond)))
theorem tb_c_X12_over : ∀ w ∈ wq_c_X12_over, q_g w := by
  unfold wq_c_X12_over ow_c_X12_over
  exact q_cons tw_808 (q_app (q_cons tw_731 (q_cons tw_806 q_nil)) (q_app tu_X12 q_nil))
set_option maxHeartbeats 4000000 in
set_option maxRecDepth 100000 in
theorem c_X12_over (l : Launch) (dC : Nat → ClassId) (dI : Nat → Nat → Nat) (g : kG) (A : Nat → Prop) (hG : kWf g) (f : Nat → va_E) (h0 : Nat) (q : Nat → Int64) (pp : Nat → Int64) (i_h0 : ik g 12 h0) (hc0 : f (gr g h0 4) = .inl (gc g 1, 906, .inr (.inl q))) (hc1 : f (gr g h0 6) = .inl (gc g 1, 906, .inr (.inl pp))) (hc1_ok : RowOK pp) : Met l yX12_over wq_c_X12_over ({ frames := 0, cells := 0, slots := 0, locals := 0 } : Room) (va_Pc [.ref h0] (fun U => kIn dC dI g A f U)) (va_Qv (fun (_ : Unit) => True) (fun (_ : Unit) t => ∃ f1 : Nat → va_E, Iv dC dI g A f1 t.heap ∧ Kp g [32] f f1 ∧ ∃ (q1 : Nat → Int64), (f1 (gr g h0 4) = .inl (gc g 1, 906, .inr (.inl q1))) ∧ (RowOK q1) ∧ ((q1 0).toInt = (pp 0).toInt) ∧ ((q1 1).toInt = (pp 1).toInt)) A) 0 0 A := by
  refine Met.ofW (cc := cX12_over) (maxL := 2) (ret := none) (by decide) rfl ?_
  intro p e s m args below meth c s₁ B hml hv
  obtain ⟨rfl, hI, hK, hE⟩ := hv
  have hx := B.exec
  have hb := B.bytes
  have hr := B.returns
  have hts := atoms_spec (ws := wq_c_X12_over) B.pre
  have hown : s.vm.findClass RX12 = some m.cls := findClass_of_methodNamed B.named
  have hlocks := B.notSynchronized
  have hS : va_S A s.heap s.heap [] := va_S.rf
  have hk0 : Kp g [32] f f := Kp.rf
  have hl := lv_entry ([.ref h0]) (n := 2) (Nat.le_of_ble_eq_true rfl)
  rw [lg_entry_eq]
  generalize (lg_sl ([.ref h0]) ++ List.replicate (2 - (lg_sl ([.ref h0])).length) Slot.unset).toArray = ls at hl ⊢
  have hl : lv_has ls 2 [(0, .ref h0)] := hl
  have i_1 := kw_12_4 hG i_h0
  have i_2 := kw_12_6 hG i_h0
  have d_3 := rk_hd hc1_ok
  refine lv_iconst (v := 0) hx hb dX12_over_0 (by decide) ?_
  refine lv_istore_n (lv' := [(1, .int 0), (0, .ref h0)]) hx hb dX12_over_1 rfl hl (by decide) rfl (fun ls hl => ?_)
  have K_2 : ∀ (nn : Nat) (y_4 : Nat) (q_6 : Nat → Int64) (f_5 : Nat → va_E) (H : Heap) (locs : List Loc) (ls : Array Slot), 906 - y_4 < nn → Iv dC dI g A f_5 H → va_S A s.heap H locs → f_5 (gr g h0 4) = .inl (gc g 1, 906, .inr (.inl q_6)) → f_5 (gr g h0 6) = .inl (gc g 1, 906, .inr (.inl pp)) → Kp g [32] f f_5 → (y_4 ≤ 906) → (∀ j : Nat, j < y_4 → q_6 j = pp j) → lv_has ls 2 [(1, .int (nI y_4)), (0, .ref h0)] → W p l e (headSpec wq_c_X12_over ({ frames := 0, cells := 0, slots := 0, locals := 0 } : Room)).room s m ([.ref h0].toArray) below meth c H locs 0 0 (MQ below (va_Qv (fun (_ : Unit) => True) (fun (_ : Unit) t => ∃ f1 : Nat → va_E, Iv dC dI g A f1 t.heap ∧ Kp g [32] f f1 ∧ ∃ (q1 : Nat → Int64), (f1 (gr g h0 4) = .inl (gc g 1, 906, .inr (.inl q1))) ∧ (RowOK q1) ∧ ((q1 0).toInt = (pp 0).toInt) ∧ ((q1 1).toInt = (pp 1).toInt)) A) ([.ref h0].toArray) s 0 0 A) (F0 m 2 ls []) := by
    intro nn
    induction nn with
    | zero => intro y_4 q_6 f_5 H locs ls m_12; exact absurd m_12 (Nat.not_lt_zero _)
    | succ nn ih =>
      intro y_4 q_6 f_5 H locs ls m_12 hI hS k_7 k_8 kp_9 t_10 t_11 hl
      refine lv_iload_n hx hb dX12_over_2 rfl (lv_at hl 0 rfl) ?_
      refine lv_sipush (v := 906) hx hb dX12_over_3 (by decide) ?_
      refine lv_icmp_ge (tgt := 27) hx hb dX12_over_6 (by decide) (fun c_13 => ?_) (fun c_13 => ?_)
      · have c_13 := kc_le (by decide : Int32.toInt 906 = 906) (nI_toInt (n := y_4) (by omega)) c_13
        exact W.vret hx hb hr (fun t ht hW => ⟨⟨(), rfl, trivial, ⟨f_5, k_ret ht hI, kp_9, q_6, k_7, (rk_congr hc1_ok (fun i9 h9 => t_11 i9 (by omega))), (by rw [t_11 0 (by omega)]), (by rw [t_11 1 (by omega)])⟩⟩, hS.F ht⟩) hS.2.2 dX12_over_27
      · have c_13 := kn_le (by decide : Int32.toInt 906 = 906) (nI_toInt (n := y_4) (by omega)) c_13
        refine lv_aload_n hx hb dX12_over_9 rfl (lv_at hl 1 rfl) ?_
        obtain ⟨x_15, x_16, x_17, x_18, x_19, x_20, x_21, x_22, x_23, x_24, x_25, x_26, x_27, x_28, k_14, b_29, b_30, b_31, b_32, b_33, b_34⟩ := op_12 hI i_h0
        refine k_get (ci := 12) (v := .ref (gr g h0 4)) (C := RX12) (T := TX12) (N := 27) hx hb hts (fun _ h0_ => List.mem_cons_of_mem _ (List.mem_append_right _ (List.mem_append_left _ h0_))) hown hK hI i_h0.1 k_14 rfl 4 (by decide) (hts (.fieldLink RX12 16 "DeadlineShareModel" "row" "[J") (List.mem_cons_of_mem _ (List.mem_append_left _ (List.mem_of_getElem? (i := 0) rfl)))) (fun _ h9 => h9) rfl dX12_over_10 ?_
        refine lv_iload_n hx hb dX12_over_13 rfl (lv_at hl 0 rfl) ?_
        refine lv_aload_n hx hb dX12_over_14 rfl (lv_at hl 1 rfl) ?_
        refine k_get (ci := 12) (v := .ref (gr g h0 6)) (C := RX12) (T := TX12) (N := 27) hx hb hts (fun _ h0_ => List.mem_cons_of_mem _ (List.mem_append_right _ (List.mem_append_left _ h0_))) hown hK hI i_h0.1 k_14 rfl 6 (by decide) (hts (.fieldLink RX12 23 "DeadlineShareModel" "paper" "[J") (List.mem_cons_of_mem _ (List.mem_append_left _ (List.mem_of_getElem? (i := 1) rfl)))) (fun _ h9 => h9) rfl dX12_over_15 ?_
        refine lv_iload_n hx hb dX12_over_18 rfl (lv_at hl 0 rfl) ?_
        refine k_lald hx hb hK hI i_2.1 1 k_8 rfl (vp_in_nI (by omega) (by omega)) dX12_over_19 ?_
        refine k_topl (y := pp y_4) (congrArg pp (nI_clamp (by omega))) ?_
        refine k_last hx hb hK hI hS i_1.1 1 k_7 rfl (vp_in_nI (by omega) (by omega)) (cl_32 i_1) dX12_over_20 (fun f_39 H locs e_40 hI hS => ?_)
        generalize eq_41 : vp_updL q_6 (Int32.toNatClampNeg (nI y_4)) (pp y_4) = q_41 at e_40
        have k_43 : f_39 (gr g h0 4) = .inl (gc g 1, 906, .inr (.inl q_41)) := by rw [e_40]; exact va_up_self _ _ _
        have k_44 : f_39 (gr g h0 6) = .inl (gc g 1, 906, .inr (.inl pp)) := by rw [e_40, va_up_ne _ _ (ik_ne i_2 i_1 (by decide))]; exact k_8
        have k_45 : f_39 h0 = .inr (12, [.int x_15, .int x_16, .ref (gr g h0 2), .ref (gr g h0 3), .ref (gr g h0 4), .ref (gr g h0 5), .ref (gr g h0 6), .ref (gr g h0 7), .ref (gr g h0 8), .ref (gr g h0 9), .int x_17, .ref (gr g h0 11), .int x_18, .int x_19, .int x_20, .int x_21, .long x_22, .int x_23, .int x_24, .ref (gr g h0 19), .ref (gr g h0 20), .ref (gr g h0 21), .ref (gr g h0 22), .int x_25, .long x_26, .long x_27, .long x_28]) := by rw [e_40, va_up_ne _ _ (ik_ne i_h0 i_1 (by decide))]; exact k_14
        have kp_42 := Kp.put kp_9 i_1 (by decide) e_40
        have u_46 : vp_updL q_6 y_4 (pp y_4) = q_41 := by rw [← eq_41, show Int32.toNatClampNeg (nI y_4) = y_4 from (nI_clamp (by omega))]
        refine lv_iinc (v := nI (y_4 + 1)) (lv' := [(1, .int (nI (y_4 + 1))), (0, .ref h0)]) hx hb dX12_over_21 hl (k := 0) rfl (nI_1 _) (by decide) rfl (fun ls hl => ?_)
        refine lv_goto (tgt := 2) hx hb dX12_over_24 (by decide) ?_
        exact ih (y_4 + 1) q_41 f_39 _ _ _ (by omega) hI hS k_43 k_44 kp_42 (by first | omega | decide) (fun j9 h9 => by rw [← u_46]; exact if h8 : j9 = y_4 then (by subst h8; exact pk_uLs) else (by rw [pk_uLn (by omega)]; exact t_11 j9 (by omega))) (lv_sub hl [0, 1] rfl)
  exact K_2 _ 0 q f _ _ _ (Nat.lt_succ_self _) hI hS hc0 hc1 hk0 (by first | omega | decide) (fun j9 h9 => absurd h9 (Nat.not_lt_zero j9)) (lv_sub hl [0, 1] rfl)
theorem tw_809 : q_g (.fieldLink RX12 128 "DeadlineShareModel" "taped" "I") := ⟨(List.mem_append_right _ (List.mem_of_getElem? (i := 1109) (by decide +kernel))), good_of_word (by decide +kernel)⟩
theorem tw_810 : q_g (.fieldLink RX12 36 "DeadlineShareModel" "tape" "[I") := ⟨(List.mem_append_right _ (List.mem_of_getElem? (i := 1108) (by decide +kernel))), good_of_word (by decide +kernel)⟩
theorem tw_811 : q_g (.code yX12_four cX12_four 3 none) := ⟨(List.mem_append_right _ (List.mem_of_getElem? (i := 1208) (by decide +kernel))), good_of_word (by decide +kernel)⟩
def ow_c_X12_four : List Cond := [.fieldLink RX12 36 "DeadlineShareModel" "tape" "[I", .fieldLink RX12 128 "DeadlineShareModel" "taped" "I"]
def wq_c_X12_four : List Cond := .code yX12_four cX12_four 3 none :: (ow_c_X12_four ++ (u_ws RX12 TX12 27 ++ ([] : List Cond)))
theorem tb_c_X12_four : ∀ w ∈ wq_c_X12_four, q_g w := by
  unfold wq_c_X12_four ow_c_X12_four
  exact q_cons tw_811 (q_app (q_cons tw_810 (q_cons tw_809 q_nil)) (q_app tu_X12 q_nil))
set_option maxHeartbeats 4000000 in
set_option maxRecDepth 100000 in
theorem c_X12_four (l : Launch) (dC : Nat → ClassId) (dI : Nat → Nat → Nat) (g : kG) (A : Nat → Prop) (hG : kWf g) (f : Nat → va_E) (h0 : Nat) (p1 : Int32) (z0 : Int32) (z1 : Int32) (z10 : Int32) (z12 : Int32) (z13 : Int32) (z14 : Int32) (z15 : Int32) (z16 : Int64) (z17 : Int32) (z18 : Int32) (z23 : Int32) (z24 : Int64) (z25 : Int64) (z26 : Int64) (i_h0 : ik g 12 h0) (hc0 : f h0 = .inr (12, [.int z0, .int z1, .ref (gr g h0 2), .ref (gr g h0 3), .ref (gr g h0 4), .ref (gr g h0 5), .ref (gr g h0 6), .ref (gr g h0 7), .ref (gr g h0 8), .ref (gr g h0 9), .int z10, .ref (gr g h0 11), .int z12, .int z13, .int z14, .int z15, .long z16, .int z17, .int z18, .ref (gr g h0 19), .ref (gr g h0 20), .ref (gr g h0 21), .ref (gr g h0 22), .int z23, .long z24, .long z25, .long z26])) (hc0_10 : 0 ≤ z10.toInt ∧ z10.toInt ≤ 10) (hc0_12 : 0 ≤ z12.toInt ∧ z12.toInt ≤ 200) (hc0_23 : 0 ≤ z23.toInt ∧ z23.toInt ≤ 8) (hr4 : z12.toInt ≤ 196) : Met l yX12_four wq_c_X12_four ({ frames := 0, cells := 0, slots := 0, locals := 0 } : Room) (va_Pc [.ref h0, .int p1] (fun U => kIn dC dI g A f U)) (va_Qv (fun (_ : Unit) => True) (fun (_ : Unit) t => ∃ f1 : Nat → va_E, Iv dC dI g A f1 t.heap ∧ Kp g [12, 38] f f1 ∧ ∃ (w12 : Int32), (f1 h0 = .inr (12, [.int z0, .int z1, .ref (gr g h0 2), .ref (gr g h0 3), .ref (gr g h0 4), .ref (gr g h0 5), .ref (gr g h0 6), .ref (gr g h0 7), .ref (gr g h0 8), .ref (gr g h0 9), .int z10, .ref (gr g h0 11), .int w12, .int z13, .int z14, .int z15, .long z16, .int z17, .int z18, .ref (gr g h0 19), .ref (gr g h0 20), .ref (gr g h0 21), .ref (gr g h0 22), .int z23, .long z24, .long z25, .long z26])) ∧ (w12.toInt = z12.toInt + 4)) A) 0 0 A := by
  refine Met.ofW (cc := cX12_four) (maxL := 3) (ret := none) (by decide) rfl ?_
  intro p e s m args below meth c s₁ B hml hv
  obtain ⟨rfl, hI, hK, hE⟩ := hv
  have hx := B.exec
  have hb := B.bytes
  have hr := B.returns
  have hts := atoms_spec (ws := wq_c_X12_four) B.pre
  have hown : s.vm.findClass RX12 = some m.cls := findClass_of_methodNamed B.named
  have hlocks := B.notSynchronized
  have hS : va_S A s.heap s.heap [] := va_S.rf
  have hk0 : Kp g [12, 38] f f := Kp.rf
  have hl := lv_entry ([.ref h0, .int p1]) (n := 3) (Nat.le_of_ble_eq_true rfl)
  rw [lg_entry_eq]
  generalize (lg_sl ([.ref h0, .int p1]) ++ List.replicate (3 - (lg_sl ([.ref h0, .int p1])).length) Slot.unset).toArray = ls at hl ⊢
  have hl : lv_has ls 3 [(0, .ref h0), (1, .int p1)] := hl
  refine lv_bipush (v := 24) hx hb dX12_four_0 (by decide) ?_
  refine lv_istore_n (lv' := [(2, .int 24), (0, .ref h0), (1, .int p1)]) hx hb dX12_four_2 rfl hl (by decide) rfl (fun ls hl => ?_)
  have K_3 : ∀ (nn : Nat) (y_1 : Int32) (y_3 : Int32) (f_2 : Nat → va_E) (H : Heap) (locs : List Loc) (ls : Array Slot), (y_1.toInt + 8).toNat < nn → Iv dC dI g A f_2 H → va_S A s.heap H locs → f_2 h0 = .inr (12, [.int z0, .int z1, .ref (gr g h0 2), .ref (gr g h0 3), .ref (gr g h0 4), .ref (gr g h0 5), .ref (gr g h0 6), .ref (gr g h0 7), .ref (gr g h0 8), .ref (gr g h0 9), .int z10, .ref (gr g h0 11), .int y_3, .int z13, .int z14, .int z15, .long z16, .int z17, .int z18, .ref (gr g h0 19), .ref (gr g h0 20), .ref (gr g h0 21), .ref (gr g h0 22), .int z23, .long z24, .long z25, .long z26]) → Kp g [12, 38] f f_2 → (y_3.toInt = z12.toInt + 3 - y_1.toInt / 8) → (y_1.toInt = 24 ∨ y_1.toInt = 16 ∨ y_1.toInt = 8 ∨ y_1.toInt = 0 ∨ y_1.toInt = -8) → (0 ≤ y_3.toInt ∧ y_3.toInt ≤ 200) → lv_has ls 3 [(2, .int y_1), (0, .ref h0), (1, .int p1)] → W p l e (headSpec wq_c_X12_four ({ frames := 0, cells := 0, slots := 0, locals := 0 } : Room)).room s m ([.ref h0, .int p1].toArray) below meth c H locs 0 0 (MQ below (va_Qv (fun (_ : Unit) => True) (fun (_ : Unit) t => ∃ f1 : Nat → va_E, Iv dC dI g A f1 t.heap ∧ Kp g [12, 38] f f1 ∧ ∃ (w12 : Int32), (f1 h0 = .inr (12, [.int z0, .int z1, .ref (gr g h0 2), .ref (gr g h0 3), .ref (gr g h0 4), .ref (gr g h0 5), .ref (gr g h0 6), .ref (gr g h0 7), .ref (gr g h0 8), .ref (gr g h0 9), .int z10, .ref (gr g h0 11), .int w12, .int z13, .int z14, .int z15, .long z16, .int z17, .int z18, .ref (gr g h0 19), .ref (gr g h0 20), .ref (gr g h0 21), .ref (gr g h0 22), .int z23, .long z24, .long z25, .long z26])) ∧ (w12.toInt = z12.toInt + 4)) A) ([.ref h0, .int p1].toArray) s 0 0 A) (F0 m 3 ls []) := by
    intro nn
    induction nn with
    | zero => intro y_1 y_3 f_2 H locs ls m_9; exact absurd m_9 (Nat.not_lt_zero _)
    | succ nn ih =>
      intro y_1 y_3 f_2 H locs ls m_9 hI hS k_4 kp_5 t_6 t_7 t_8 hl
      have g_10 := Int32.toInt_lt y_1
      have g_11 := Int32.le_toInt y_1
      refine lv_iload_n hx hb dX12_four_3 rfl (lv_at hl 0 rfl) ?_
      refine lv_if_lt (tgt := 39) hx hb dX12_four_4 (by decide) (fun c_12 => ?_) (fun c_12 => ?_)
      · have c_12 := kc_lt rfl (by decide : Int32.toInt 0 = 0) c_12
        exact W.vret hx hb hr (fun t ht hW => ⟨⟨(), rfl, trivial, ⟨f_2, k_ret ht hI, kp_5, y_3, k_4, (by first | omega | decide)⟩⟩, hS.F ht⟩) hS.2.2 dX12_four_39
      · have c_12 := kn_lt rfl (by decide : Int32.toInt 0 = 0) c_12
        refine lv_aload_n hx hb dX12_four_7 rfl (lv_at hl 1 rfl) ?_
        refine k_get (ci := 12) (v := .ref (gr g h0 11)) (C := RX12) (T := TX12) (N := 27) hx hb hts (fun _ h0_ => List.mem_cons_of_mem _ (List.mem_append_right _ (List.mem_append_left _ h0_))) hown hK hI i_h0.1 k_4 rfl 11 (by decide) (hts (.fieldLink RX12 36 "DeadlineShareModel" "tape" "[I") (List.mem_cons_of_mem _ (List.mem_append_left _ (List.mem_of_getElem? (i := 0) rfl)))) (fun _ h9 => h9) rfl dX12_four_8 ?_
        have i_14 := kw_12_11 hG i_h0
        refine lv_aload_n hx hb dX12_four_11 rfl (lv_at hl 1 rfl) ?_
        refine k_get (ci := 12) (v := .int y_3) (C := RX12) (T := TX12) (N := 27) hx hb hts (fun _ h0_ => List.mem_cons_of_mem _ (List.mem_append_right _ (List.mem_append_left _ h0_))) hown hK hI i_h0.1 k_4 rfl 12 (by decide) (hts (.fieldLink RX12 128 "DeadlineShareModel" "taped" "I") (List.mem_cons_of_mem _ (List.mem_append_left _ (List.mem_of_getElem? (i := 1) rfl)))) (fun _ h9 => h9) rfl dX12_four_12 ?_
        refine lv_iload_n hx hb dX12_four_15 rfl (lv_at hl 2 rfl) ?_
        refine lv_iload_n hx hb dX12_four_16 rfl (lv_at hl 0 rfl) ?_
        refine lv_ishr hx hb dX12_four_17 ?_
        refine lv_topi (fun v_15 ev_15 => ?_)
        refine lv_sipush (v := 255) hx hb dX12_four_18 (by decide) ?_
        refine lv_iand hx hb dX12_four_21 ?_
        refine lv_topi (fun v_16 ev_16 => ?_)
        obtain ⟨q_18, k_17⟩ := op_38 hI i_14
        refine k_iast hx hb hK hI hS i_14.1 0 k_17 rfl (vp_in_iff.mpr (by omega)) (cl_38 i_14) dX12_four_22 (fun f_19 H locs e_20 hI hS => ?_)
        generalize eq_21 : upd q_18 (Int32.toNatClampNeg y_3) v_16 = q_21 at e_20
        have k_23 : f_19 h0 = .inr (12, [.int z0, .int z1, .ref (gr g h0 2), .ref (gr g h0 3), .ref (gr g h0 4), .ref (gr g h0 5), .ref (gr g h0 6), .ref (gr g h0 7), .ref (gr g h0 8), .ref (gr g h0 9), .int z10, .ref (gr g h0 11), .int y_3, .int z13, .int z14, .int z15, .long z16, .int z17, .int z18, .ref (gr g h0 19), .ref (gr g h0 20), .ref (gr g h0 21), .ref (gr g h0 22), .int z23, .long z24, .long z25, .long z26]) := by rw [e_20, va_up_ne _ _ (ik_ne i_h0 i_14 (by decide))]; exact k_4
        have k_24 : f_19 (gr g h0 11) = .inl (gc g 0, 200, .inl q_21) := by rw [e_20]; exact va_up_self _ _ _
        have kp_22 := Kp.put kp_5 i_14 (by decide) e_20
        refine lv_aload_n hx hb dX12_four_23 rfl (lv_at hl 1 rfl) ?_
        refine lv_dup hx hb dX12_four_24 rfl ?_
        refine k_get (ci := 12) (v := .int y_3) (C := RX12) (T := TX12) (N := 27) hx hb hts (fun _ h0_ => List.mem_cons_of_mem _ (List.mem_append_right _ (List.mem_append_left _ h0_))) hown hK hI i_h0.1 k_23 rfl 12 (by decide) (hts (.fieldLink RX12 128 "DeadlineShareModel" "taped" "I") (List.mem_cons_of_mem _ (List.mem_append_left _ (List.mem_of_getElem? (i := 1) rfl)))) (fun _ h9 => h9) rfl dX12_four_25 ?_
        refine lv_iconst (v := 1) hx hb dX12_four_28 (by decide) ?_
        refine lv_iadd hx hb dX12_four_29 ?_
        refine lv_topi (fun v_25 ev_25 => ?_)
        have tv_25 := k_ad y_3 1
        rw [← ev_25, show Int32.toInt 1 = 1 from by decide] at tv_25
        have b_26 : 0 ≤ Int32.toInt v_25 ∧ Int32.toInt v_25 ≤ 200 := by omega
        refine k_put (ci := 12) (v := .int v_25) (ty := .int) (C := RX12) (T := TX12) (N := 27) hx hb hts (fun _ h0_ => List.mem_cons_of_mem _ (List.mem_append_right _ (List.mem_append_left _ h0_))) tyX12 tyX12_ok nmX12 hown hK hI hS i_h0.1 k_23 rfl 12 (by decide) (hts (.fieldLink RX12 128 "DeadlineShareModel" "taped" "I") (List.mem_cons_of_mem _ (List.mem_append_left _ (List.mem_of_getElem? (i := 1) rfl)))) (fun _ h9 => h9) rfl (by decide +kernel) rfl rfl (Nat.le_of_ble_eq_true rfl) rfl (cl_12 i_h0 (by omega) b_26 (by omega)) dX12_four_30 (fun f_27 H locs e_28 hI hS => ?_)
        have k_30 : f_27 h0 = .inr (12, [.int z0, .int z1, .ref (gr g h0 2), .ref (gr g h0 3), .ref (gr g h0 4), .ref (gr g h0 5), .ref (gr g h0 6), .ref (gr g h0 7), .ref (gr g h0 8), .ref (gr g h0 9), .int z10, .ref (gr g h0 11), .int v_25, .int z13, .int z14, .int z15, .long z16, .int z17, .int z18, .ref (gr g h0 19), .ref (gr g h0 20), .ref (gr g h0 21), .ref (gr g h0 22), .int z23, .long z24, .long z25, .long z26]) := by rw [e_28]; exact va_up_self _ _ _
        have k_31 : f_27 (gr g h0 11) = .inl (gc g 0, 200, .inl q_21) := by rw [e_28, va_up_ne _ _ (ik_ne i_14 i_h0 (by decide))]; exact k_24
        have kp_29 := Kp.put kp_22 i_h0 (by decide) e_28
        obtain ⟨v_32, ev_32⟩ : ∃ y : Int32, y = y_1 + Int32.ofInt (-8) := ⟨_, rfl⟩
        refine lv_iinc (v := v_32) (lv' := [(2, .int v_32), (0, .ref h0), (1, .int p1)]) hx hb dX12_four_33 hl (k := 0) rfl ev_32.symm (by decide) rfl (fun ls hl => ?_)
        have tv_32 := k_ad y_1 (Int32.ofInt (-8))
        rw [← ev_32, show (Int32.ofInt (-8)).toInt = (-8) from by decide] at tv_32
        refine lv_goto (tgt := 3) hx hb dX12_four_36 (by decide) ?_
        exact ih v_32 v_25 f_27 _ _ _ (by omega) hI hS k_30 kp_29 (by first | omega | decide) (by first | omega | decide) (by first | omega | decide) (lv_sub hl [0, 1, 2] rfl)
  exact K_3 _ 24 z12 f _ _ _ (Nat.lt_succ_self _) hI hS hc0 hk0 (by first | omega | decide | (simp only [show Int32.toInt 24 = 24 from by decide]; omega)) (by first | omega | decide | (simp only [show Int32.toInt 24 = 24 from by decide]; omega)) (by first | omega | decide | (simp only [show Int32.toInt 24 = 24 from by decide]; omega)) (lv_sub hl [0, 1, 2] rfl)
theorem tw_812 : q_g (.code yX12_put cX12_put 2 none) := ⟨(List.mem_append_right _ (List.mem_of_getElem? (i := 1381) (by decide +kernel))), good_of_word (by decide +kernel)⟩
def ow_c_X12_put : List Cond := [.fieldLink RX12 36 "DeadlineShareModel" "tape" "[I", .fieldLink RX12 128 "DeadlineShareModel" "taped" "I"]
def wq_c_X12_put : List Cond := .code yX12_put cX12_put 2 none :: (ow_c_X12_put ++ (u_ws RX12 TX12 27 ++ ([] : List Cond)))
theorem tb_c_X12_put : ∀ w ∈ wq_c_X12_put, q_g w := by
  unfold wq_c_X12_put ow_c_X12_put
  exact q_cons tw_812 (q_app (q_cons tw_810 (q_cons tw_809 q_nil)) (q_app tu_X12 q_nil))
set_option maxHeartbeats 4000000 in
set_option maxRecDepth 100000 in
theorem c_X12_put (l : Launch) (dC : Nat → ClassId) (dI : Nat → Nat → Nat) (g : kG) (A : Nat → Prop) (hG : kWf g) (f : Nat → va_E) (h0 : Nat) (p1 : Int32) (z0 : Int32) (z1 : Int32) (z10 : Int32) (z12 : Int32) (z13 : Int32) (z14 : Int32) (z15 : Int32) (z16 : Int64) (z17 : Int32) (z18 : Int32) (z23 : Int32) (z24 : Int64) (z25 : Int64) (z26 : Int64) (i_h0 : ik g 12 h0) (hc0 : f h0 = .inr (12, [.int z0, .int z1, .ref (gr g h0 2), .ref (gr g h0 3), .ref (gr g h0 4), .ref (gr g h0 5), .ref (gr g h0 6), .ref (gr g h0 7), .ref (gr g h0 8), .ref (gr g h0 9), .int z10, .ref (gr g h0 11), .int z12, .int z13, .int z14, .int z15, .long z16, .int z17, .int z18, .ref (gr g h0 19), .ref (gr g h0 20), .ref (gr g h0 21), .ref (gr g h0 22), .int z23, .long z24, .long z25, .long z26])) (hc0_10 : 0 ≤ z10.toInt ∧ z10.toInt ≤ 10) (hc0_12 : 0 ≤ z12.toInt ∧ z12.toInt ≤ 200) (hc0_23 : 0 ≤ z23.toInt ∧ z23.toInt ≤ 8) (hr4 : z12.toInt ≤ 199) : Met l yX12_put wq_c_X12_put ({ frames := 0, cells := 0, slots := 0, locals := 0 } : Room) (va_Pc [.ref h0, .int p1] (fun U => kIn dC dI g A f U)) (va_Qv (fun (_ : Unit) => True) (fun (_ : Unit) t => ∃ f1 : Nat → va_E, Iv dC dI g A f1 t.heap ∧ Kp g [12, 38] f f1 ∧ ∃ (w12 : Int32), (f1 h0 = .inr (12, [.int z0, .int z1, .ref (gr g h0 2), .ref (gr g h0 3), .ref (gr g h0 4), .ref (gr g h0 5), .ref (gr g h0 6), .ref (gr g h0 7), .ref (gr g h0 8), .ref (gr g h0 9), .int z10, .ref (gr g h0 11), .int w12, .int z13, .int z14, .int z15, .long z16, .int z17, .int z18, .ref (gr g h0 19), .ref (gr g h0 20), .ref (gr g h0 21), .ref (gr g h0 22), .int z23, .long z24, .long z25, .long z26])) ∧ (w12.toInt = z12.toInt + 1)) A) 0 0 A := by
  refine Met.ofW (cc := cX12_put) (maxL := 2) (ret := none) (by decide) rfl ?_
  intro p e s m args below meth c s₁ B hml hv
  obtain ⟨rfl, hI, hK, hE⟩ := hv
  have hx := B.exec
  have hb := B.bytes
  have hr := B.returns
  have hts := atoms_spec (ws := wq_c_X12_put) B.pre
  have hown : s.vm.findClass RX12 = some m.cls := findClass_of_methodNamed B.named
  have hlocks := B.notSynchronized
  have hS : va_S A s.heap s.heap [] := va_S.rf
  have hk0 : Kp g [12, 38] f f := Kp.rf
  have hl := lv_entry ([.ref h0, .int p1]) (n := 2) (Nat.le_of_ble_eq_true rfl)
  rw [lg_entry_eq]
  generalize (lg_sl ([.ref h0, .int p1]) ++ List.replicate (2 - (lg_sl ([.ref h0, .int p1])).length) Slot.unset).toArray = ls at hl ⊢
  have hl : lv_has ls 2 [(0, .ref h0), (1, .int p1)] := hl
  refine lv_aload_n hx hb dX12_put_0 rfl (lv_at hl 0 rfl) ?_
  refine k_get (ci := 12) (v := .ref (gr g h0 11)) (C := RX12) (T := TX12) (N := 27) hx hb hts (fun _ h0_ => List.mem_cons_of_mem _ (List.mem_append_right _ (List.mem_append_left _ h0_))) hown hK hI i_h0.1 hc0 rfl 11 (by decide) (hts (.fieldLink RX12 36 "DeadlineShareModel" "tape" "[I") (List.mem_cons_of_mem _ (List.mem_append_left _ (List.mem_of_getElem? (i := 0) rfl)))) (fun _ h9 => h9) rfl dX12_put_1 ?_
  have i_2 := kw_12_11 hG i_h0
  refine lv_aload_n hx hb dX12_put_4 rfl (lv_at hl 0 rfl) ?_
  refine k_get (ci := 12) (v := .int z12) (C := RX12) (T := TX12) (N := 27) hx hb hts (fun _ h0_ => List.mem_cons_of_mem _ (List.mem_append_right _ (List.mem_append_left _ h0_))) hown hK hI i_h0.1 hc0 rfl 12 (by decide) (hts (.fieldLink RX12 128 "DeadlineShareModel" "taped" "I") (List.mem_cons_of_mem _ (List.mem_append_left _ (List.mem_of_getElem? (i := 1) rfl)))) (fun _ h9 => h9) rfl dX12_put_5 ?_
  refine lv_iload_n hx hb dX12_put_8 rfl (lv_at hl 1 rfl) ?_
  obtain ⟨q_4, k_3⟩ := op_38 hI i_2
  refine k_iast hx hb hK hI hS i_2.1 0 k_3 rfl (vp_in_iff.mpr (by omega)) (cl_38 i_2) dX12_put_9 (fun f_5 H locs e_6 hI hS => ?_)
  generalize eq_7 : upd q_4 (Int32.toNatClampNeg z12) p1 = q_7 at e_6
  have k_9 : f_5 h0 = .inr (12, [.int z0, .int z1, .ref (gr g h0 2), .ref (gr g h0 3), .ref (gr g h0 4), .ref (gr g h0 5), .ref (gr g h0 6), .ref (gr g h0 7), .ref (gr g h0 8), .ref (gr g h0 9), .int z10, .ref (gr g h0 11), .int z12, .int z13, .int z14, .int z15, .long z16, .int z17, .int z18, .ref (gr g h0 19), .ref (gr g h0 20), .ref (gr g h0 21), .ref (gr g h0 22), .int z23, .long z24, .long z25, .long z26]) := by rw [e_6, va_up_ne _ _ (ik_ne i_h0 i_2 (by decide))]; exact hc0
  have k_10 : f_5 (gr g h0 11) = .inl (gc g 0, 200, .inl q_7) := by rw [e_6]; exact va_up_self _ _ _
  have kp_8 := Kp.put hk0 i_2 (by decide) e_6
  refine lv_aload_n hx hb dX12_put_10 rfl (lv_at hl 0 rfl) ?_
  refine lv_dup hx hb dX12_put_11 rfl ?_
  refine k_get (ci := 12) (v := .int z12) (C := RX12) (T := TX12) (N := 27) hx hb hts (fun _ h0_ => List.mem_cons_of_mem _ (List.mem_append_right _ (List.mem_append_left _ h0_))) hown hK hI i_h0.1 k_9 rfl 12 (by decide) (hts (.fieldLink RX12 128 "DeadlineShareModel" "taped" "I") (List.mem_cons_of_mem _ (List.mem_append_left _ (List.mem_of_getElem? (i := 1) rfl)))) (fun _ h9 => h9) rfl dX12_put_12 ?_
  refine lv_iconst (v := 1) hx hb dX12_put_15 (by decide) ?_
  refine lv_iadd hx hb dX12_put_16 ?_
  refine lv_topi (fun v_11 ev_11 => ?_)
  have tv_11 := k_ad z12 1
  rw [← ev_11, show Int32.toInt 1 = 1 from by decide] at tv_11
  have b_12 : 0 ≤ Int32.toInt v_11 ∧ Int32.toInt v_11 ≤ 200 := by omega
  refine k_put (ci := 12) (v := .int v_11) (ty := .int) (C := RX12) (T := TX12) (N := 27) hx hb hts (fun _ h0_ => List.mem_cons_of_mem _ (List.mem_append_right _ (List.mem_append_left _ h0_))) tyX12 tyX12_ok nmX12 hown hK hI hS i_h0.1 k_9 rfl 12 (by decide) (hts (.fieldLink RX12 128 "DeadlineShareModel" "taped" "I") (List.mem_cons_of_mem _ (List.mem_append_left _ (List.mem_of_getElem? (i := 1) rfl)))) (fun _ h9 => h9) rfl (by decide +kernel) rfl rfl (Nat.le_of_ble_eq_true rfl) rfl (cl_12 i_h0 (by omega) b_12 (by omega)) dX12_put_17 (fun f_13 H locs e_14 hI hS => ?_)
  have k_16 : f_13 h0 = .inr (12, [.int z0, .int z1, .ref (gr g h0 2), .ref (gr g h0 3), .ref (gr g h0 4), .ref (gr g h0 5), .ref (gr g h0 6), .ref (gr g h0 7), .ref (gr g h0 8), .ref (gr g h0 9), .int z10, .ref (gr g h0 11), .int v_11, .int z13, .int z14, .int z15, .long z16, .int z17, .int z18, .ref (gr g h0 19), .ref (gr g h0 20), .ref (gr g h0 21), .ref (gr g h0 22), .int z23, .long z24, .long z25, .long z26]) := by rw [e_14]; exact va_up_self _ _ _
  have k_17 : f_13 (gr g h0 11) = .inl (gc g 0, 200, .inl q_7) := by rw [e_14, va_up_ne _ _ (ik_ne i_2 i_h0 (by decide))]; exact k_10
  have kp_15 := Kp.put kp_8 i_h0 (by decide) e_14
  exact W.vret hx hb hr (fun t ht hW => ⟨⟨(), rfl, trivial, ⟨f_13, k_ret ht hI, kp_15, v_11, k_16, (by first | omega | decide)⟩⟩, hS.F ht⟩) hS.2.2 dX12_put_20
theorem tw_813 : q_g (.selects RX12 yX12_put yX12_put) := ⟨(List.mem_append_left _ (List.mem_of_getElem? (i := 46) (by decide +kernel))), good_of_word (by decide +kernel)⟩
theorem tw_814 : q_g (.instanceMethod yX12_put) := ⟨(List.mem_append_right _ (List.mem_of_getElem? (i := 1380) (by decide +kernel))), good_of_word (by decide +kernel)⟩
theorem tw_815 : q_g (.methodLink RX12 235 yX12_put) := ⟨(List.mem_append_right _ (List.mem_of_getElem? (i := 1378) (by decide +kernel))), good_of_word (by decide +kernel)⟩
theorem tw_816 : q_g (.constantLong RX12 233 (31)) := ⟨(List.mem_append_right _ (List.mem_of_getElem? (i := 1386) (by decide +kernel))), good_of_word (by decide +kernel)⟩
theorem tw_817 : q_g (.code yX12_putWord cX12_putWord 5 none) := ⟨(List.mem_append_right _ (List.mem_of_getElem? (i := 1385) (by decide +kernel))), good_of_word (by decide +kernel)⟩
def ow_c_X12_putWord : List Cond := [.constantLong RX12 233 (31), .methodLink RX12 235 yX12_put, .instanceMethod yX12_put, .selects RX12 yX12_put yX12_put, .initialized RX12]
def wq_c_X12_putWord : List Cond := .code yX12_putWord cX12_putWord 5 none :: (ow_c_X12_putWord ++ (wq_c_X12_put ++ ([] : List Cond)))
theorem tb_c_X12_putWord : ∀ w ∈ wq_c_X12_putWord, q_g w := by
  unfold wq_c_X12_putWord ow_c_X12_putWord
  exact q_cons tw_817 (q_app (q_cons tw_816 (q_cons tw_815 (q_cons tw_814 (q_cons tw_813 (q_cons tw_728 q_nil))))) (q_app tb_c_X12_put q_nil))
set_option maxHeartbeats 4000000 in
set_option maxRecDepth 100000 in
theorem c_X12_putWord (l : Launch) (dC : Nat → ClassId) (dI : Nat → Nat → Nat) (g : kG) (A : Nat → Prop) (hG : kWf g) (f : Nat → va_E) (h0 : Nat) (p1 : Int64) (z0 : Int32) (z1 : Int32) (z10 : Int32) (z12 : Int32) (z13 : Int32) (z14 : Int32) (z15 : Int32) (z16 : Int64) (z17 : Int32) (z18 : Int32) (z23 : Int32) (z24 : Int64) (z25 : Int64) (z26 : Int64) (i_h0 : ik g 12 h0) (hc0 : f h0 = .inr (12, [.int z0, .int z1, .ref (gr g h0 2), .ref (gr g h0 3), .ref (gr g h0 4), .ref (gr g h0 5), .ref (gr g h0 6), .ref (gr g h0 7), .ref (gr g h0 8), .ref (gr g h0 9), .int z10, .ref (gr g h0 11), .int z12, .int z13, .int z14, .int z15, .long z16, .int z17, .int z18, .ref (gr g h0 19), .ref (gr g h0 20), .ref (gr g h0 21), .ref (gr g h0 22), .int z23, .long z24, .long z25, .long z26])) (hc0_10 : 0 ≤ z10.toInt ∧ z10.toInt ≤ 10) (hc0_12 : 0 ≤ z12.toInt ∧ z12.toInt ≤ 200) (hc0_23 : 0 ≤ z23.toInt ∧ z23.toInt ≤ 8) (hw9 : 1 ≤ p1.toInt) (hz9 : z12.toInt ≤ 195) : Met l yX12_putWord wq_c_X12_putWord ({ frames := 1, cells := 0, slots := 0, locals := 21 } : Room) (va_Pc [.ref h0, .long p1] (fun U => kIn dC dI g A f U)) (va_Qv (fun (_ : Unit) => True) (fun (_ : Unit) t => ∃ f1 : Nat → va_E, Iv dC dI g A f1 t.heap ∧ Kp g [12, 38] f f1 ∧ ∃ (w12 : Int32), (f1 h0 = .inr (12, [.int z0, .int z1, .ref (gr g h0 2), .ref (gr g h0 3), .ref (gr g h0 4), .ref (gr g h0 5), .ref (gr g h0 6), .ref (gr g h0 7), .ref (gr g h0 8), .ref (gr g h0 9), .int z10, .ref (gr g h0 11), .int w12, .int z13, .int z14, .int z15, .long z16, .int z17, .int z18, .ref (gr g h0 19), .ref (gr g h0 20), .ref (gr g h0 21), .ref (gr g h0 22), .int z23, .long z24, .long z25, .long z26])) ∧ (z12.toInt ≤ w12.toInt ∧ w12.toInt ≤ z12.toInt + 5)) A) 0 0 A := by
  refine Met.ofW (cc := cX12_putWord) (maxL := 5) (ret := none) (by decide) rfl ?_
  intro p e s m args below meth c s₁ B hml hv
  obtain ⟨rfl, hI, hK, hE⟩ := hv
  have hx := B.exec
  have hb := B.bytes
  have hr := B.returns
  have hts := atoms_spec (ws := wq_c_X12_putWord) B.pre
  have hown : s.vm.findClass RX12 = some m.cls := findClass_of_methodNamed B.named
  have hlocks := B.notSynchronized
  have hS : va_S A s.heap s.heap [] := va_S.rf
  have hk0 : Kp g [12, 38] f f := Kp.rf
  have hl := lv_entry ([.ref h0, .long p1]) (n := 5) (Nat.le_of_ble_eq_true rfl)
  rw [lg_entry_eq]
  generalize (lg_sl ([.ref h0, .long p1]) ++ List.replicate (5 - (lg_sl ([.ref h0, .long p1])).length) Slot.unset).toArray = ls at hl ⊢
  have hl : lv_has ls 5 [(0, .ref h0), (1, .long p1)] := hl
  refine lv_bipush (v := 20) hx hb dX12_putWord_0 (by decide) ?_
  refine lv_istore_n (lv' := [(3, .int 20), (0, .ref h0), (1, .long p1)]) hx hb dX12_putWord_2 rfl hl (by decide) rfl (fun ls hl => ?_)
  have K_3 : ∀ (nn : Nat) (y_1 : Int32) (H : Heap) (locs : List Loc) (ls : Array Slot), y_1.toInt.toNat < nn → Iv dC dI g A f H → va_S A s.heap H locs → (y_1.toInt = 20 ∨ y_1.toInt = 15 ∨ y_1.toInt = 10 ∨ y_1.toInt = 5 ∨ y_1.toInt = 0) → lv_has ls 5 [(3, .int y_1), (0, .ref h0), (1, .long p1)] → W p l e (headSpec wq_c_X12_putWord ({ frames := 1, cells := 0, slots := 0, locals := 21 } : Room)).room s m ([.ref h0, .long p1].toArray) below meth c H locs 0 0 (MQ below (va_Qv (fun (_ : Unit) => True) (fun (_ : Unit) t => ∃ f1 : Nat → va_E, Iv dC dI g A f1 t.heap ∧ Kp g [12, 38] f f1 ∧ ∃ (w12 : Int32), (f1 h0 = .inr (12, [.int z0, .int z1, .ref (gr g h0 2), .ref (gr g h0 3), .ref (gr g h0 4), .ref (gr g h0 5), .ref (gr g h0 6), .ref (gr g h0 7), .ref (gr g h0 8), .ref (gr g h0 9), .int z10, .ref (gr g h0 11), .int w12, .int z13, .int z14, .int z15, .long z16, .int z17, .int z18, .ref (gr g h0 19), .ref (gr g h0 20), .ref (gr g h0 21), .ref (gr g h0 22), .int z23, .long z24, .long z25, .long z26])) ∧ (z12.toInt ≤ w12.toInt ∧ w12.toInt ≤ z12.toInt + 5)) A) ([.ref h0, .long p1].toArray) s 0 0 A) (F0 m 3 ls []) := by
    intro nn
    induction nn with
    | zero => intro y_1 H locs ls m_3; exact absurd m_3 (Nat.not_lt_zero _)
    | succ nn ih =>
      intro y_1 H locs ls m_3 hI hS t_2 hl
      have g_4 := Int32.toInt_lt y_1
      have g_5 := Int32.le_toInt y_1
      refine lv_lload_n hx hb dX12_putWord_3 rfl (lv_at hl 2 rfl) ?_
      refine lv_iload_n hx hb dX12_putWord_4 rfl (lv_at hl 0 rfl) ?_
      refine lv_lshr hx hb dX12_putWord_5 rfl ?_
      refine lv_topl (fun v_6 ev_6 => ?_)
      have tv_6 : y_1.toInt = 0 → v_6.toInt = p1.toInt := fun h9 => by rw [ev_6, show y_1 = 0 from Int32.toInt_inj.mp (h9.trans (by decide)), l_s0]
      refine lv_lconst (v := 0) hx hb dX12_putWord_6 (by decide) ?_
      refine W.lcmp hx hb dX12_putWord_7 ?_
      refine lv_if_ne (tgt := 17) hx hb dX12_putWord_8 (by decide) (fun c_7 => ?_) (fun c_7 => ?_)
      · have c_7 := ln_eq rfl (by decide : Int64.toInt 0 = 0) (fun h9 => c_7 ((lg_cmp_eq _ _).mpr h9))
        refine lv_iload_n hx hb dX12_putWord_17 rfl (lv_at hl 0 rfl) ?_
        refine lv_istore (lv' := [(4, .int y_1), (3, .int y_1), (0, .ref h0), (1, .long p1)]) hx hb dX12_putWord_18 hl (by decide) rfl (fun ls hl => ?_)
        have K_20 : ∀ (nn : Nat) (y_8 : Int32) (y_10 : Int32) (f_9 : Nat → va_E) (H : Heap) (locs : List Loc) (ls : Array Slot), (y_8.toInt + 5).toNat < nn → Iv dC dI g A f_9 H → va_S A s.heap H locs → f_9 h0 = .inr (12, [.int z0, .int z1, .ref (gr g h0 2), .ref (gr g h0 3), .ref (gr g h0 4), .ref (gr g h0 5), .ref (gr g h0 6), .ref (gr g h0 7), .ref (gr g h0 8), .ref (gr g h0 9), .int z10, .ref (gr g h0 11), .int y_10, .int z13, .int z14, .int z15, .long z16, .int z17, .int z18, .ref (gr g h0 19), .ref (gr g h0 20), .ref (gr g h0 21), .ref (gr g h0 22), .int z23, .long z24, .long z25, .long z26]) → Kp g [12, 38] f f_9 → (5 * y_10.toInt = 5 * z12.toInt + y_1.toInt - y_8.toInt) → ((y_8.toInt = 20 ∨ y_8.toInt = 15 ∨ y_8.toInt = 10 ∨ y_8.toInt = 5 ∨ y_8.toInt = 0 ∨ y_8.toInt = -5) ∧ y_8.toInt ≤ y_1.toInt) → lv_has ls 5 [(4, .int y_8), (3, .int y_1), (0, .ref h0), (1, .long p1)] → W p l e (headSpec wq_c_X12_putWord ({ frames := 1, cells := 0, slots := 0, locals := 21 } : Room)).room s m ([.ref h0, .long p1].toArray) below meth c H locs 0 0 (MQ below (va_Qv (fun (_ : Unit) => True) (fun (_ : Unit) t => ∃ f1 : Nat → va_E, Iv dC dI g A f1 t.heap ∧ Kp g [12, 38] f f1 ∧ ∃ (w12 : Int32), (f1 h0 = .inr (12, [.int z0, .int z1, .ref (gr g h0 2), .ref (gr g h0 3), .ref (gr g h0 4), .ref (gr g h0 5), .ref (gr g h0 6), .ref (gr g h0 7), .ref (gr g h0 8), .ref (gr g h0 9), .int z10, .ref (gr g h0 11), .int w12, .int z13, .int z14, .int z15, .long z16, .int z17, .int z18, .ref (gr g h0 19), .ref (gr g h0 20), .ref (gr g h0 21), .ref (gr g h0 22), .int z23, .long z24, .long z25, .long z26])) ∧ (z12.toInt ≤ w12.toInt ∧ w12.toInt ≤ z12.toInt + 5)) A) ([.ref h0, .long p1].toArray) s 0 0 A) (F0 m 20 ls []) := by
          intro nn_20
          induction nn_20 with
          | zero => intro y_8 y_10 f_9 H locs ls m_15; exact absurd m_15 (Nat.not_lt_zero _)
          | succ nn_20 ih_20 =>
            intro y_8 y_10 f_9 H locs ls m_15 hI hS k_11 kp_12 t_13 t_14 hl
            have g_16 := Int32.toInt_lt y_8
            have g_17 := Int32.le_toInt y_8
            refine lv_iload hx hb dX12_putWord_20 (lv_at hl 0 rfl) ?_
            refine lv_if_lt (tgt := 47) hx hb dX12_putWord_22 (by decide) (fun c_18 => ?_) (fun c_18 => ?_)
            · have c_18 := kc_lt rfl (by decide : Int32.toInt 0 = 0) c_18
              exact W.vret hx hb hr (fun t ht hW => ⟨⟨(), rfl, trivial, ⟨f_9, k_ret ht hI, kp_12, y_10, k_11, (by first | omega | decide)⟩⟩, hS.F ht⟩) hS.2.2 dX12_putWord_47
            · have c_18 := kn_lt rfl (by decide : Int32.toInt 0 = 0) c_18
              refine lv_aload_n hx hb dX12_putWord_25 rfl (lv_at hl 2 rfl) ?_
              refine lv_bipush (v := 96) hx hb dX12_putWord_26 (by decide) ?_
              refine lv_lload_n hx hb dX12_putWord_28 rfl (lv_at hl 3 rfl) ?_
              refine lv_iload hx hb dX12_putWord_29 (lv_at hl 0 rfl) ?_
              refine lv_lshr hx hb dX12_putWord_31 rfl ?_
              refine lv_topl (fun v_19 ev_19 => ?_)
              refine lv_ldc2 hx hb hown (hts (.constantLong RX12 233 (31)) (List.mem_cons_of_mem _ (List.mem_append_left _ (List.mem_of_getElem? (i := 0) rfl)))) dX12_putWord_32 ?_
              refine lv_land hx hb dX12_putWord_35 ?_
              refine lv_topl (fun v_20 ev_20 => ?_)
              refine lv_l2i (v := v_20.toInt32) hx hb dX12_putWord_36 rfl ?_
              refine lv_topi (fun v_21 ev_21 => ?_)
              have tv_21 := k_l2i v_20
              rw [← ev_21] at tv_21
              refine lv_iadd hx hb dX12_putWord_37 ?_
              refine lv_topi (fun v_22 ev_22 => ?_)
              have tv_22 := k_ad 96 v_21
              rw [← ev_22, show Int32.toInt 96 = 96 from by decide] at tv_22
              refine va_callv (va_runV (As := [.int v_22]) (rest := []) ⟨hx, hb, hml, hown, hts⟩ (c_X12_put l dC dI g A hG f_9 h0 v_22 z0 z1 z10 y_10 z13 z14 z15 z16 z17 z18 z23 z24 z25 z26 i_h0 k_11 (by first | omega | (simp only [k_c0]; omega)) (by first | omega | (simp only [k_c0]; omega)) (by first | omega | (simp only [k_c0]; omega)) (by first | omega | decide | (simp only [k_c0, k_c1, k_cm1]; omega))) (cwV 1 hts (gi_V (fun w_ h0_ => ⟨List.mem_cons_of_mem _ (List.mem_append_right _ (List.mem_append_left _ h0_)), (tb_c_X12_put w_ h0_).2⟩) (List.mem_cons_of_mem _ (List.mem_append_left _ (List.mem_of_getElem? (i := 1) rfl))) (List.mem_cons_of_mem _ (List.mem_append_left _ (List.mem_of_getElem? (i := 2) rfl))) (List.mem_cons_of_mem _ (List.mem_append_left _ (List.mem_of_getElem? (i := 3) rfl))) (List.mem_cons_of_mem _ (List.mem_append_left _ (List.mem_of_getElem? (i := 4) rfl)))) rfl rfl rfl (by decide +kernel) ⟨Nat.le_of_ble_eq_true rfl, Nat.le_of_ble_eq_true rfl⟩) ⟨fun a U g mk q => ⟨q.1, q.2.calling rfl rfl⟩, k_recv hK hI i_h0.1 k_11 (ci := 12) rfl, fun U hU hW => ⟨rfl, kIn.of hI hK hE hS hU hW⟩⟩ rfl rfl hl.1 rfl (lv_room (Nat.le_of_ble_eq_true rfl)) dX12_putWord_38 ⟨Nat.le_of_ble_eq_true rfl, Nat.le_of_ble_eq_true rfl⟩) hS (fun q _ h => h) (fun q h => h) (fun u t H1 locs ht hvm _ hB hz1 hk1 hS => ?_)
              obtain ⟨f_23, hI, kc_25, w12_26, k_27, z_28⟩ := hB
              rw [ht] at hI
              have k_27 : f_23 h0 = .inr (12, [.int z0, .int z1, .ref (gr g h0 2), .ref (gr g h0 3), .ref (gr g h0 4), .ref (gr g h0 5), .ref (gr g h0 6), .ref (gr g h0 7), .ref (gr g h0 8), .ref (gr g h0 9), .int z10, .ref (gr g h0 11), .int w12_26, .int z13, .int z14, .int z15, .long z16, .int z17, .int z18, .ref (gr g h0 19), .ref (gr g h0 20), .ref (gr g h0 21), .ref (gr g h0 22), .int z23, .long z24, .long z25, .long z26]) := k_27
              have z_28 : w12_26.toInt = y_10.toInt + 1 := z_28
              have kp_29 := Kp.call kp_12 kc_25 (by decide)
              generalize H1 = H at hI hS ⊢
              refine W.widen (k := 0) (n := 0) (Nat.le_of_ble_eq_true rfl) (Nat.le_of_ble_eq_true rfl) ?_
              obtain ⟨v_30, ev_30⟩ : ∃ y : Int32, y = y_8 + Int32.ofInt (-5) := ⟨_, rfl⟩
              refine lv_iinc (v := v_30) (lv' := [(4, .int v_30), (3, .int y_1), (0, .ref h0), (1, .long p1)]) hx hb dX12_putWord_41 hl (k := 0) rfl ev_30.symm (by decide) rfl (fun ls hl => ?_)
              have tv_30 := k_ad y_8 (Int32.ofInt (-5))
              rw [← ev_30, show (Int32.ofInt (-5)).toInt = (-5) from by decide] at tv_30
              refine lv_goto (tgt := 20) hx hb dX12_putWord_44 (by decide) ?_
              exact ih_20 v_30 w12_26 f_23 _ _ _ (by omega) hI hS k_27 kp_29 (by first | omega | decide) (by first | omega | decide) (lv_sub hl [0, 1, 2, 3] rfl)
        exact K_20 _ y_1 z12 f _ _ _ (Nat.lt_succ_self _) hI hS hc0 hk0 (by first | omega | decide) (by first | omega | decide) (lv_sub hl [0, 1, 2, 3] rfl)
      · have c_7 := lc_eq rfl (by decide : Int64.toInt 0 = 0) ((lg_cmp_eq _ _).mp c_7)
        obtain ⟨v_31, ev_31⟩ : ∃ y : Int32, y = y_1 + Int32.ofInt (-5) := ⟨_, rfl⟩
        refine lv_iinc (v := v_31) (lv' := [(3, .int v_31), (0, .ref h0), (1, .long p1)]) hx hb dX12_putWord_11 hl (k := 0) rfl ev_31.symm (by decide) rfl (fun ls hl => ?_)
        have tv_31 := k_ad y_1 (Int32.ofInt (-5))
        rw [← ev_31, show (Int32.ofInt (-5)).toInt = (-5) from by decide] at tv_31
        refine lv_goto (tgt := 3) hx hb dX12_putWord_14 (by decide) ?_
        exact ih v_31 _ _ _ (by omega) hI hS (by first | omega | decide) (lv_sub hl [0, 1, 2] rfl)
  exact K_3 _ 20 _ _ _ (Nat.lt_succ_self _) hI hS (by first | omega | decide | (simp only [show Int32.toInt 20 = 20 from by decide]; omega)) (lv_sub hl [0, 1, 2] rfl)
theorem tw_818 : q_g (.code yX12_isSmall cX12_isSmall 1 (some .boolean)) := ⟨(List.mem_append_right _ (List.mem_of_getElem? (i := 1348) (by decide +kernel))), good_of_word (by decide +kernel)⟩
def ow_c_X12_isSmall : List Cond := []
def wq_c_X12_isSmall : List Cond := .code yX12_isSmall cX12_isSmall 1 (some .boolean) :: (ow_c_X12_isSmall ++ ([] : List Cond))
theorem tb_c_X12_isSmall : ∀ w ∈ wq_c_X12_isSmall, q_g w := by
  unfold wq_c_X12_isSmall ow_c_X12_isSmall
  exact q_cons tw_818 (q_app q_nil q_nil)
set_option maxHeartbeats 4000000 in
set_option maxRecDepth 100000 in
theorem c_X12_isSmall (l : Launch) (dC : Nat → ClassId) (dI : Nat → Nat → Nat) (g : kG) (A : Nat → Prop) (hG : kWf g) (f : Nat → va_E) (p1 : Int32) : Met l yX12_isSmall wq_c_X12_isSmall ({ frames := 0, cells := 0, slots := 0, locals := 0 } : Room) (va_Pc [.int p1] (fun U => kIn dC dI g A f U)) (va_Qi (fun (r : Int32) (_ : Unit) => True) (fun (_ : Unit) t => Iv dC dI g A f t.heap) A) 0 0 A := by
  refine Met.ofW (cc := cX12_isSmall) (maxL := 1) (ret := (some .boolean)) (by decide) rfl ?_
  intro p e s m args below meth c s₁ B hml hv
  obtain ⟨rfl, hI, hK, hE⟩ := hv
  have hx := B.exec
  have hb := B.bytes
  have hr := B.returns
  have hts := atoms_spec (ws := wq_c_X12_isSmall) B.pre
  have hown : s.vm.findClass RX12 = some m.cls := findClass_of_methodNamed B.named
  have hlocks := B.notSynchronized
  have hS : va_S A s.heap s.heap [] := va_S.rf
  have hl := lv_entry ([.int p1]) (n := 1) (Nat.le_of_ble_eq_true rfl)
  rw [lg_entry_eq]
  generalize (lg_sl ([.int p1]) ++ List.replicate (1 - (lg_sl ([.int p1])).length) Slot.unset).toArray = ls at hl ⊢
  have hl : lv_has ls 1 [(0, .int p1)] := hl
  refine lv_iload_n hx hb dX12_isSmall_0 rfl (lv_at hl 0 rfl) ?_
  refine lv_bipush (v := 97) hx hb dX12_isSmall_1 (by decide) ?_
  refine lv_icmp_lt (tgt := 16) hx hb dX12_isSmall_3 (by decide) (fun c_1 => ?_) (fun c_1 => ?_)
  · have c_1 := kc_lt rfl (by decide : Int32.toInt 97 = 97) c_1
    refine lv_iconst (v := 0) hx hb dX12_isSmall_16 (by decide) ?_
    exact W.zret (v := 0) hx hb hr rfl (fun t ht hW => ⟨⟨0, (), rfl, trivial, k_ret ht hI⟩, hS.F ht⟩) hS.2.2 dX12_isSmall_17
  · have c_1 := kn_lt rfl (by decide : Int32.toInt 97 = 97) c_1
    refine lv_iload_n hx hb dX12_isSmall_6 rfl (lv_at hl 0 rfl) ?_
    refine lv_bipush (v := 122) hx hb dX12_isSmall_7 (by decide) ?_
    refine lv_icmp_gt (tgt := 16) hx hb dX12_isSmall_9 (by decide) (fun c_2 => ?_) (fun c_2 => ?_)
    · have c_2 := kc_lt (by decide : Int32.toInt 122 = 122) rfl c_2
      refine lv_iconst (v := 0) hx hb dX12_isSmall_16 (by decide) ?_
      exact W.zret (v := 0) hx hb hr rfl (fun t ht hW => ⟨⟨0, (), rfl, trivial, k_ret ht hI⟩, hS.F ht⟩) hS.2.2 dX12_isSmall_17
    · have c_2 := kn_lt (by decide : Int32.toInt 122 = 122) rfl c_2
      refine lv_iconst (v := 1) hx hb dX12_isSmall_12 (by decide) ?_
      refine lv_goto (tgt := 17) hx hb dX12_isSmall_13 (by decide) ?_
      exact W.zret (v := 1) hx hb hr rfl (fun t ht hW => ⟨⟨1, (), rfl, trivial, k_ret ht hI⟩, hS.F ht⟩) hS.2.2 dX12_isSmall_17
theorem tw_819 : q_g (.code yX12_isDigit cX12_isDigit 1 (some .boolean)) := ⟨(List.mem_append_right _ (List.mem_of_getElem? (i := 1351) (by decide +kernel))), good_of_word (by decide +kernel)⟩
def ow_c_X12_isDigit : List Cond := []
def wq_c_X12_isDigit : List Cond := .code yX12_isDigit cX12_isDigit 1 (some .boolean) :: (ow_c_X12_isDigit ++ ([] : List Cond))
theorem tb_c_X12_isDigit : ∀ w ∈ wq_c_X12_isDigit, q_g w := by
  unfold wq_c_X12_isDigit ow_c_X12_isDigit
  exact q_cons tw_819 (q_app q_nil q_nil)
set_option maxHeartbeats 4000000 in
set_option maxRecDepth 100000 in
theorem c_X12_isDigit (l : Launch) (dC : Nat → ClassId) (dI : Nat → Nat → Nat) (g : kG) (A : Nat → Prop) (hG : kWf g) (f : Nat → va_E) (p1 : Int32) : Met l yX12_isDigit wq_c_X12_isDigit ({ frames := 0, cells := 0, slots := 0, locals := 0 } : Room) (va_Pc [.int p1] (fun U => kIn dC dI g A f U)) (va_Qi (fun (r : Int32) (_ : Unit) => True) (fun (_ : Unit) t => Iv dC dI g A f t.heap) A) 0 0 A := by
  refine Met.ofW (cc := cX12_isDigit) (maxL := 1) (ret := (some .boolean)) (by decide) rfl ?_
  intro p e s m args below meth c s₁ B hml hv
  obtain ⟨rfl, hI, hK, hE⟩ := hv
  have hx := B.exec
  have hb := B.bytes
  have hr := B.returns
  have hts := atoms_spec (ws := wq_c_X12_isDigit) B.pre
  have hown : s.vm.findClass RX12 = some m.cls := findClass_of_methodNamed B.named
  have hlocks := B.notSynchronized
  have hS : va_S A s.heap s.heap [] := va_S.rf
  have hl := lv_entry ([.int p1]) (n := 1) (Nat.le_of_ble_eq_true rfl)
  rw [lg_entry_eq]
  generalize (lg_sl ([.int p1]) ++ List.replicate (1 - (lg_sl ([.int p1])).length) Slot.unset).toArray = ls at hl ⊢
  have hl : lv_has ls 1 [(0, .int p1)] := hl
  refine lv_iload_n hx hb dX12_isDigit_0 rfl (lv_at hl 0 rfl) ?_
  refine lv_bipush (v := 48) hx hb dX12_isDigit_1 (by decide) ?_
  refine lv_icmp_lt (tgt := 16) hx hb dX12_isDigit_3 (by decide) (fun c_1 => ?_) (fun c_1 => ?_)
  · have c_1 := kc_lt rfl (by decide : Int32.toInt 48 = 48) c_1
    refine lv_iconst (v := 0) hx hb dX12_isDigit_16 (by decide) ?_
    exact W.zret (v := 0) hx hb hr rfl (fun t ht hW => ⟨⟨0, (), rfl, trivial, k_ret ht hI⟩, hS.F ht⟩) hS.2.2 dX12_isDigit_17
  · have c_1 := kn_lt rfl (by decide : Int32.toInt 48 = 48) c_1
    refine lv_iload_n hx hb dX12_isDigit_6 rfl (lv_at hl 0 rfl) ?_
    refine lv_bipush (v := 57) hx hb dX12_isDigit_7 (by decide) ?_
    refine lv_icmp_gt (tgt := 16) hx hb dX12_isDigit_9 (by decide) (fun c_2 => ?_) (fun c_2 => ?_)
    · have c_2 := kc_lt (by decide : Int32.toInt 57 = 57) rfl c_2
      refine lv_iconst (v := 0) hx hb dX12_isDigit_16 (by decide) ?_
      exact W.zret (v := 0) hx hb hr rfl (fun t ht hW => ⟨⟨0, (), rfl, trivial, k_ret ht hI⟩, hS.F ht⟩) hS.2.2 dX12_isDigit_17
    · have c_2 := kn_lt (by decide : Int32.toInt 57 = 57) rfl c_2
      refine lv_iconst (v := 1) hx hb dX12_isDigit_12 (by decide) ?_
      refine lv_goto (tgt := 17) hx hb dX12_isDigit_13 (by decide) ?_
      exact W.zret (v := 1) hx hb hr rfl (fun t ht hW => ⟨⟨1, (), rfl, trivial, k_ret ht hI⟩, hS.F ht⟩) hS.2.2 dX12_isDigit_17
theorem tw_820 : q_g (.constantLong RX12 227 (4)) := ⟨(List.mem_append_right _ (List.mem_of_getElem? (i := 1373) (by decide +kernel))), good_of_word (by decide +kernel)⟩
theorem tw_821 : q_g (.code yX12_firstOf cX12_firstOf 4 (some .int)) := ⟨(List.mem_append_right _ (List.mem_of_getElem? (i := 1372) (by decide +kernel))), good_of_word (by decide +kernel)⟩
def ow_c_X12_firstOf : List Cond := [.fieldLink RX12 16 "DeadlineShareModel" "row" "[J", .constantLong RX12 227 (4)]
def wq_c_X12_firstOf : List Cond := .code yX12_firstOf cX12_firstOf 4 (some .int) :: (ow_c_X12_firstOf ++ (u_ws RX12 TX12 27 ++ ([] : List Cond)))
theorem tb_c_X12_firstOf : ∀ w ∈ wq_c_X12_firstOf, q_g w := by
  unfold wq_c_X12_firstOf ow_c_X12_firstOf
  exact q_cons tw_821 (q_app (q_cons tw_731 (q_cons tw_820 q_nil)) (q_app tu_X12 q_nil))
set_option maxHeartbeats 4000000 in
set_option maxRecDepth 100000 in
theorem c_X12_firstOf (l : Launch) (dC : Nat → ClassId) (dI : Nat → Nat → Nat) (g : kG) (A : Nat → Prop) (hG : kWf g) (f : Nat → va_E) (h0 : Nat) (p1 : Nat) (p2 : Nat) (q : Nat → Int64) (i_h0 : ik g 12 h0) (hc0 : f (gr g h0 4) = .inl (gc g 1, 906, .inr (.inl q))) (hc0_ok : RowOK q) (ha : p1 ≤ 479) (hs : p2 ≤ 8) : Met l yX12_firstOf wq_c_X12_firstOf ({ frames := 0, cells := 0, slots := 0, locals := 0 } : Room) (va_Pc [.ref h0, .int (nI p1), .int (nI p2)] (fun U => kIn dC dI g A f U)) (va_Qi (fun (r : Int32) (_ : Unit) => ∃ k : Nat, r = nI k ∧ k ≤ p2 ∧ ∀ j : Nat, k ≤ j → j < p2 → (q (p1 + 16 + j)).toInt ≠ 4) (fun (_ : Unit) t => Iv dC dI g A f t.heap) A) 0 0 A := by
  refine Met.ofW (cc := cX12_firstOf) (maxL := 4) (ret := (some .int)) (by decide) rfl ?_
  intro p e s m args below meth c s₁ B hml hv
  obtain ⟨rfl, hI, hK, hE⟩ := hv
  have hx := B.exec
  have hb := B.bytes
  have hr := B.returns
  have hts := atoms_spec (ws := wq_c_X12_firstOf) B.pre
  have hown : s.vm.findClass RX12 = some m.cls := findClass_of_methodNamed B.named
  have hlocks := B.notSynchronized
  have hS : va_S A s.heap s.heap [] := va_S.rf
  have hl := lv_entry ([.ref h0, .int (nI p1), .int (nI p2)]) (n := 4) (Nat.le_of_ble_eq_true rfl)
  rw [lg_entry_eq]
  generalize (lg_sl ([.ref h0, .int (nI p1), .int (nI p2)]) ++ List.replicate (4 - (lg_sl ([.ref h0, .int (nI p1), .int (nI p2)])).length) Slot.unset).toArray = ls at hl ⊢
  have hl : lv_has ls 4 [(0, .ref h0), (1, .int (nI p1)), (2, .int (nI p2))] := hl
  have i_1 := kw_12_4 hG i_h0
  have d_2 := rk_hd hc0_ok
  refine lv_iload_n hx hb dX12_firstOf_0 rfl (lv_at hl 2 rfl) ?_
  refine lv_istore_n (lv' := [(3, .int (nI p2)), (0, .ref h0), (1, .int (nI p1)), (2, .int (nI p2))]) hx hb dX12_firstOf_1 rfl hl (by decide) rfl (fun ls hl => ?_)
  have K_2 : ∀ (nn : Nat) (y_3 : Nat) (H : Heap) (locs : List Loc) (ls : Array Slot), y_3 < nn → Iv dC dI g A f H → va_S A s.heap H locs → (y_3 ≤ p2) → (∀ j : Nat, y_3 ≤ j → j < p2 → (q (p1 + 16 + j)).toInt ≠ 4) → lv_has ls 4 [(3, .int (nI y_3)), (0, .ref h0), (1, .int (nI p1)), (2, .int (nI p2))] → W p l e (headSpec wq_c_X12_firstOf ({ frames := 0, cells := 0, slots := 0, locals := 0 } : Room)).room s m ([.ref h0, .int (nI p1), .int (nI p2)].toArray) below meth c H locs 0 0 (MQ below (va_Qi (fun (r : Int32) (_ : Unit) => ∃ k : Nat, r = nI k ∧ k ≤ p2 ∧ ∀ j : Nat, k ≤ j → j < p2 → (q (p1 + 16 + j)).toInt ≠ 4) (fun (_ : Unit) t => Iv dC dI g A f t.heap) A) ([.ref h0, .int (nI p1), .int (nI p2)].toArray) s 0 0 A) (F0 m 2 ls []) := by
    intro nn
    induction nn with
    | zero => intro y_3 H locs ls m_6; exact absurd m_6 (Nat.not_lt_zero _)
    | succ nn ih =>
      intro y_3 H locs ls m_6 hI hS t_4 t_5 hl
      refine lv_iload_n hx hb dX12_firstOf_2 rfl (lv_at hl 0 rfl) ?_
      refine lv_if_le (tgt := 32) hx hb dX12_firstOf_3 (by decide) (fun c_7 => ?_) (fun c_7 => ?_)
      · have c_7 := kc_le (nI_toInt (n := y_3) (by omega)) (by decide : Int32.toInt 0 = 0) c_7
        refine lv_iload_n hx hb dX12_firstOf_32 rfl (lv_at hl 0 rfl) ?_
        exact W.iret (v := (nI y_3)) hx hb hr (fun t ht hW => ⟨⟨nI y_3, (), rfl, ⟨y_3, rfl, by omega, t_5⟩, k_ret ht hI⟩, hS.F ht⟩) hS.2.2 dX12_firstOf_33
      · have c_7 := kn_le (nI_toInt (n := y_3) (by omega)) (by decide : Int32.toInt 0 = 0) c_7
        refine lv_aload_n hx hb dX12_firstOf_6 rfl (lv_at hl 1 rfl) ?_
        obtain ⟨x_9, x_10, x_11, x_12, x_13, x_14, x_15, x_16, x_17, x_18, x_19, x_20, x_21, x_22, k_8, b_23, b_24, b_25, b_26, b_27, b_28⟩ := op_12 hI i_h0
        refine k_get (ci := 12) (v := .ref (gr g h0 4)) (C := RX12) (T := TX12) (N := 27) hx hb hts (fun _ h0_ => List.mem_cons_of_mem _ (List.mem_append_right _ (List.mem_append_left _ h0_))) hown hK hI i_h0.1 k_8 rfl 4 (by decide) (hts (.fieldLink RX12 16 "DeadlineShareModel" "row" "[J") (List.mem_cons_of_mem _ (List.mem_append_left _ (List.mem_of_getElem? (i := 0) rfl)))) (fun _ h9 => h9) rfl dX12_firstOf_7 ?_
        refine lv_iload_n hx hb dX12_firstOf_10 rfl (lv_at hl 2 rfl) ?_
        refine lv_bipush (v := 16) hx hb dX12_firstOf_11 (by decide) ?_
        refine lv_iadd hx hb dX12_firstOf_13 ?_
        refine k_topi (y := nI (p1 + 16)) ((nI_add p1 16).trans (congrArg nI (by omega))) ?_
        refine lv_iload_n hx hb dX12_firstOf_14 rfl (lv_at hl 0 rfl) ?_
        refine lv_iadd hx hb dX12_firstOf_15 ?_
        refine k_topi (y := nI (p1 + 16 + y_3)) ((nI_add (p1 + 16) y_3).trans (congrArg nI (by omega))) ?_
        refine lv_iconst (v := 1) hx hb dX12_firstOf_16 (by decide) ?_
        refine lv_isub hx hb dX12_firstOf_17 ?_
        refine k_topi (y := nI (p1 + 16 + (y_3 - 1))) ((pk_sub (a := p1 + 16 + y_3) (b := 1) (by omega)).trans (congrArg nI (by omega))) ?_
        refine k_lald hx hb hK hI i_1.1 1 hc0 rfl (vp_in_nI (by omega) (by omega)) dX12_firstOf_18 ?_
        refine k_topl (y := q (p1 + 16 + (y_3 - 1))) (congrArg q (nI_clamp (by omega))) ?_
        refine lv_ldc2 hx hb hown (hts (.constantLong RX12 227 (4)) (List.mem_cons_of_mem _ (List.mem_append_left _ (List.mem_of_getElem? (i := 1) rfl)))) dX12_firstOf_19 ?_
        refine W.lcmp hx hb dX12_firstOf_22 ?_
        refine lv_if_eq (tgt := 32) hx hb dX12_firstOf_23 (by decide) (fun c_31 => ?_) (fun c_31 => ?_)
        · have c_31 := lc_eq rfl (by decide : Int64.toInt 4 = 4) ((lg_cmp_eq _ _).mp c_31)
          refine lv_iload_n hx hb dX12_firstOf_32 rfl (lv_at hl 0 rfl) ?_
          exact W.iret (v := (nI y_3)) hx hb hr (fun t ht hW => ⟨⟨nI y_3, (), rfl, ⟨y_3, rfl, by omega, t_5⟩, k_ret ht hI⟩, hS.F ht⟩) hS.2.2 dX12_firstOf_33
        · have c_31 := ln_eq rfl (by decide : Int64.toInt 4 = 4) (fun h9 => c_31 ((lg_cmp_eq _ _).mpr h9))
          refine lv_iinc (v := nI (y_3 - 1)) (lv' := [(3, .int (nI (y_3 - 1))), (0, .ref h0), (1, .int (nI p1)), (2, .int (nI p2))]) hx hb dX12_firstOf_26 hl (k := 0) rfl (k_m1 (by omega)) (by decide) rfl (fun ls hl => ?_)
          refine lv_goto (tgt := 2) hx hb dX12_firstOf_29 (by decide) ?_
          exact ih (y_3 - 1) _ _ _ (by omega) hI hS (by first | omega | decide) (fun j9 h9 h8 => by exact if h7 : j9 = y_3 - 1 then (by subst h7; omega) else (by exact t_5 j9 (by omega) h8)) (lv_sub hl [0, 1, 2, 3] rfl)
  exact K_2 _ p2 _ _ _ (Nat.lt_succ_self _) hI hS (by first | omega | decide) (fun j9 h9 h8 => absurd h9 (by omega)) (lv_sub hl [0, 1, 2, 3] rfl)
theorem tw_822 : q_g (.constantLong RX12 122 (2)) := ⟨(List.mem_append_right _ (List.mem_of_getElem? (i := 1195) (by decide +kernel))), good_of_word (by decide +kernel)⟩
theorem tw_823 : q_g (.selects RX12 yX12_firstOf yX12_firstOf) := ⟨(List.mem_append_left _ (List.mem_of_getElem? (i := 45) (by decide +kernel))), good_of_word (by decide +kernel)⟩
theorem tw_824 : q_g (.instanceMethod yX12_firstOf) := ⟨(List.mem_append_right _ (List.mem_of_getElem? (i := 1371) (by decide +kernel))), good_of_word (by decide +kernel)⟩
theorem tw_825 : q_g (.methodLink RX12 229 yX12_firstOf) := ⟨(List.mem_append_right _ (List.mem_of_getElem? (i := 1369) (by decide +kernel))), good_of_word (by decide +kernel)⟩
theorem tw_826 : q_g (.selects RX12 yX12_weighs yX12_weighs) := ⟨(List.mem_append_left _ (List.mem_of_getElem? (i := 37) (by decide +kernel))), good_of_word (by decide +kernel)⟩
theorem tw_827 : q_g (.instanceMethod yX12_weighs) := ⟨(List.mem_append_right _ (List.mem_of_getElem? (i := 1297) (by decide +kernel))), good_of_word (by decide +kernel)⟩
theorem tw_828 : q_g (.methodLink RX12 157 yX12_weighs) := ⟨(List.mem_append_right _ (List.mem_of_getElem? (i := 1295) (by decide +kernel))), good_of_word (by decide +kernel)⟩
theorem tw_829 : q_g (.selects RX12 yX12_slices yX12_slices) := ⟨(List.mem_append_left _ (List.mem_of_getElem? (i := 38) (by decide +kernel))), good_of_word (by decide +kernel)⟩
theorem tw_830 : q_g (.instanceMethod yX12_slices) := ⟨(List.mem_append_right _ (List.mem_of_getElem? (i := 1305) (by decide +kernel))), good_of_word (by decide +kernel)⟩
theorem tw_831 : q_g (.methodLink RX12 161 yX12_slices) := ⟨(List.mem_append_right _ (List.mem_of_getElem? (i := 1303) (by decide +kernel))), good_of_word (by decide +kernel)⟩
theorem tw_832 : q_g (.selects RX12 yX12_leaves yX12_leaves) := ⟨(List.mem_append_left _ (List.mem_of_getElem? (i := 35) (by decide +kernel))), good_of_word (by decide +kernel)⟩
theorem tw_833 : q_g (.instanceMethod yX12_leaves) := ⟨(List.mem_append_right _ (List.mem_of_getElem? (i := 1285) (by decide +kernel))), good_of_word (by decide +kernel)⟩
theorem tw_834 : q_g (.methodLink RX12 154 yX12_leaves) := ⟨(List.mem_append_right _ (List.mem_of_getElem? (i := 1283) (by decide +kernel))), good_of_word (by decide +kernel)⟩
theorem tw_835 : q_g (.code yX12_goOn cX12_goOn 12 none) := ⟨(List.mem_append_right _ (List.mem_of_getElem? (i := 1368) (by decide +kernel))), good_of_word (by decide +kernel)⟩
def ow_c_X12_goOn : List Cond := [.methodLink RX12 87 yX12_at, .static yX12_at, .initialized RX12, .methodLink RX12 154 yX12_leaves, .instanceMethod yX12_leaves, .selects RX12 yX12_leaves yX12_leaves, .fieldLink RX12 16 "DeadlineShareModel" "row" "[J", .methodLink RX12 161 yX12_slices, .instanceMethod yX12_slices, .selects RX12 yX12_slices yX12_slices, .methodLink RX12 157 yX12_weighs, .instanceMethod yX12_weighs, .selects RX12 yX12_weighs yX12_weighs, .methodLink RX12 229 yX12_firstOf, .instanceMethod yX12_firstOf, .selects RX12 yX12_firstOf yX12_firstOf, .constantLong RX12 122 (2)]
def wq_c_X12_goOn : List Cond := .code yX12_goOn cX12_goOn 12 none :: (ow_c_X12_goOn ++ (wq_c_X12_at ++ (wq_c_X12_leaves ++ (u_ws RX12 TX12 27 ++ (wq_c_X12_slices ++ (wq_c_X12_weighs ++ (wq_c_X12_firstOf ++ ([] : List Cond))))))))
theorem tb_c_X12_goOn : ∀ w ∈ wq_c_X12_goOn, q_g w := by
  unfold wq_c_X12_goOn ow_c_X12_goOn
  exact q_cons tw_835 (q_app (q_cons tw_734 (q_cons tw_733 (q_cons tw_728 (q_cons tw_834 (q_cons tw_833 (q_cons tw_832 (q_cons tw_731 (q_cons tw_831 (q_cons tw_830 (q_cons tw_829 (q_cons tw_828 (q_cons tw_827 (q_cons tw_826 (q_cons tw_825 (q_cons tw_824 (q_cons tw_823 (q_cons tw_822 q_nil))))))))))))))))) (q_app tb_c_X12_at (q_app tb_c_X12_leaves (q_app tu_X12 (q_app tb_c_X12_slices (q_app tb_c_X12_weighs (q_app tb_c_X12_firstOf q_nil)))))))
set_option maxHeartbeats 4000000 in
set_option maxRecDepth 100000 in
theorem c_X12_goOn (l : Launch) (dC : Nat → ClassId) (dI : Nat → Nat → Nat) (g : kG) (A : Nat → Prop) (hG : kWf g) (f : Nat → va_E) (h0 : Nat) (p1 : Nat) (p2 : Nat) (p3 : Int64) (q : Nat → Int64) (i_h0 : ik g 12 h0) (hc0 : f (gr g h0 4) = .inl (gc g 1, 906, .inr (.inl q))) (hc0_ok : RowOK q) (ht : (p1 : Int) < (q 0).toInt) (hs : p2 ≤ 8) : Met l yX12_goOn wq_c_X12_goOn ({ frames := 5, cells := 0, slots := 0, locals := 111 } : Room) (va_Pc [.ref h0, .int (nI p1), .int (nI p2), .long p3] (fun U => kIn dC dI g A f U)) (va_Qv (fun (_ : Unit) => True) (fun (_ : Unit) t => ∃ f1 : Nat → va_E, Iv dC dI g A f1 t.heap ∧ Kp g [32] f f1 ∧ ∃ (q1 : Nat → Int64), (f1 (gr g h0 4) = .inl (gc g 1, 906, .inr (.inl q1))) ∧ (RowOK q1) ∧ ((q1 0).toInt = (q 0).toInt) ∧ ((q1 1).toInt = (q 1).toInt)) A) 0 0 A := by
  refine Met.ofW (cc := cX12_goOn) (maxL := 12) (ret := none) (by decide) rfl ?_
  intro p e s m args below meth c s₁ B hml hv
  obtain ⟨rfl, hI, hK, hE⟩ := hv
  have hx := B.exec
  have hb := B.bytes
  have hr := B.returns
  have hts := atoms_spec (ws := wq_c_X12_goOn) B.pre
  have hown : s.vm.findClass RX12 = some m.cls := findClass_of_methodNamed B.named
  have hlocks := B.notSynchronized
  have hS : va_S A s.heap s.heap [] := va_S.rf
  have hk0 : Kp g [32] f f := Kp.rf
  have hl := lv_entry ([.ref h0, .int (nI p1), .int (nI p2), .long p3]) (n := 12) (Nat.le_of_ble_eq_true rfl)
  rw [lg_entry_eq]
  generalize (lg_sl ([.ref h0, .int (nI p1), .int (nI p2), .long p3]) ++ List.replicate (12 - (lg_sl ([.ref h0, .int (nI p1), .int (nI p2), .long p3])).length) Slot.unset).toArray = ls at hl ⊢
  have hl : lv_has ls 12 [(0, .ref h0), (1, .int (nI p1)), (2, .int (nI p2)), (3, .long p3)] := hl
  have i_1 := kw_12_4 hG i_h0
  have d_2 := rk_hd hc0_ok
  refine lv_iload_n hx hb dX12_goOn_0 rfl (lv_at hl 1 rfl) ?_
  refine va_calli (va_runS (As := [.int (nI p1)]) (rest := []) ⟨hx, hb, hml, hown, hts⟩ (c_X12_at l dC dI g A hG f p1) (va_cwS 1 hts (gi_S (fun w_ h0_ => ⟨List.mem_cons_of_mem _ (List.mem_append_right _ (List.mem_append_left _ h0_)), (tb_c_X12_at w_ h0_).2⟩) (List.mem_cons_of_mem _ (List.mem_append_left _ (List.mem_of_getElem? (i := 0) rfl))) (List.mem_cons_of_mem _ (List.mem_append_left _ (List.mem_of_getElem? (i := 1) rfl))) (List.mem_cons_of_mem _ (List.mem_append_left _ (List.mem_of_getElem? (i := 2) rfl)))) rfl rfl rfl (by decide +kernel) ⟨Nat.le_of_ble_eq_true rfl, Nat.le_of_ble_eq_true rfl⟩) ⟨fun a U g mk q => ⟨q.1, q.2.calling rfl rfl⟩, fun U hU hW => ⟨rfl, kIn.of hI hK hE hS hU hW⟩⟩ rfl rfl hl.1 rfl (lv_room (Nat.le_of_ble_eq_true rfl)) dX12_goOn_1 ⟨Nat.le_of_ble_eq_true rfl, Nat.le_of_ble_eq_true rfl⟩) hS (fun q _ h => h) (fun q h => h) (fun r_4 u t H1 locs ht hvm w_3 hB hz1 hk1 hS => ?_)
  have hI : Iv dC dI g A f t.heap := hB
  rw [ht] at hI
  generalize H1 = H at hI hS ⊢
  refine W.widen (k := 0) (n := 0) (Nat.le_of_ble_eq_true rfl) (Nat.le_of_ble_eq_true rfl) ?_
  have w_3 : r_4 = nI (6 + 43 * p1) := w_3
  refine k_topi (y := nI (6 + 43 * p1)) w_3 ?_
  refine lv_istore (lv' := [(5, .int (nI (6 + 43 * p1))), (0, .ref h0), (1, .int (nI p1)), (2, .int (nI p2)), (3, .long p3)]) hx hb dX12_goOn_4 hl (by decide) rfl (fun ls hl => ?_)
  refine lv_iload_n hx hb dX12_goOn_6 rfl (lv_at hl 3 rfl) ?_
  refine lv_istore (lv' := [(6, .int (nI p2)), (5, .int (nI (6 + 43 * p1))), (0, .ref h0), (1, .int (nI p1)), (2, .int (nI p2)), (3, .long p3)]) hx hb dX12_goOn_7 hl (by decide) rfl (fun ls hl => ?_)
  refine lv_iconst (v := 1) hx hb dX12_goOn_9 (by decide) ?_
  refine lv_istore (lv' := [(7, .int 1), (6, .int (nI p2)), (5, .int (nI (6 + 43 * p1))), (0, .ref h0), (1, .int (nI p1)), (2, .int (nI p2)), (3, .long p3)]) hx hb dX12_goOn_10 hl (by decide) rfl (fun ls hl => ?_)
  have K_12 : ∀ (nn : Nat) (y_5 : Int32) (y_6 : Nat) (q_8 : Nat → Int64) (f_7 : Nat → va_E) (H : Heap) (locs : List Loc) (ls : Array Slot), (if Int32.toInt y_5 = 0 then 0 else 1 + mu q_8 (6 + 43 * p1) y_6) < nn → Iv dC dI g A f_7 H → va_S A s.heap H locs → f_7 (gr g h0 4) = .inl (gc g 1, 906, .inr (.inl q_8)) → RowOK q_8 → Kp g [32] f f_7 → (y_6 ≤ 8) → (y_5.toInt = 0 ∨ y_5.toInt = 1) → ((q_8 0).toInt = (q 0).toInt) → ((q_8 1).toInt = (q 1).toInt) → lv_has ls 12 [(7, .int y_5), (6, .int (nI y_6)), (5, .int (nI (6 + 43 * p1))), (0, .ref h0), (1, .int (nI p1)), (2, .int (nI p2)), (3, .long p3)] → W p l e (headSpec wq_c_X12_goOn ({ frames := 5, cells := 0, slots := 0, locals := 111 } : Room)).room s m ([.ref h0, .int (nI p1), .int (nI p2), .long p3].toArray) below meth c H locs 0 0 (MQ below (va_Qv (fun (_ : Unit) => True) (fun (_ : Unit) t => ∃ f1 : Nat → va_E, Iv dC dI g A f1 t.heap ∧ Kp g [32] f f1 ∧ ∃ (q1 : Nat → Int64), (f1 (gr g h0 4) = .inl (gc g 1, 906, .inr (.inl q1))) ∧ (RowOK q1) ∧ ((q1 0).toInt = (q 0).toInt) ∧ ((q1 1).toInt = (q 1).toInt)) A) ([.ref h0, .int (nI p1), .int (nI p2), .long p3].toArray) s 0 0 A) (F0 m 12 ls []) := by
    intro nn
    induction nn with
    | zero => intro y_5 y_6 q_8 f_7 H locs ls m_16; exact absurd m_16 (Nat.not_lt_zero _)
    | succ nn ih =>
      intro y_5 y_6 q_8 f_7 H locs ls m_16 hI hS k_9 ok_10 kp_11 t_14 t_15 t_12 t_13 hl
      have d_17 := rk_hd ok_10
      refine lv_iload hx hb dX12_goOn_12 (lv_at hl 0 rfl) ?_
      have J_268 : ∀ (H : Heap) (locs : List Loc) (ls : Array Slot), Iv dC dI g A f_7 H → va_S A s.heap H locs → lv_has ls 12 [(7, .int y_5), (6, .int (nI y_6)), (5, .int (nI (6 + 43 * p1))), (0, .ref h0), (1, .int (nI p1)), (2, .int (nI p2)), (3, .long p3)] → W p l e (headSpec wq_c_X12_goOn ({ frames := 5, cells := 0, slots := 0, locals := 111 } : Room)).room s m ([.ref h0, .int (nI p1), .int (nI p2), .long p3].toArray) below meth c H locs 0 0 (MQ below (va_Qv (fun (_ : Unit) => True) (fun (_ : Unit) t => ∃ f1 : Nat → va_E, Iv dC dI g A f1 t.heap ∧ Kp g [32] f f1 ∧ ∃ (q1 : Nat → Int64), (f1 (gr g h0 4) = .inl (gc g 1, 906, .inr (.inl q1))) ∧ (RowOK q1) ∧ ((q1 0).toInt = (q 0).toInt) ∧ ((q1 1).toInt = (q 1).toInt)) A) ([.ref h0, .int (nI p1), .int (nI p2), .long p3].toArray) s 0 0 A) (F0 m 268 ls []) := by
        intro H locs ls hI hS  hl
        refine lv_iload hx hb dX12_goOn_268 (lv_at hl 0 rfl) ?_
        refine lv_if_eq (tgt := 289) hx hb dX12_goOn_270 (by decide) (fun c_18 => ?_) (fun c_18 => ?_)
        · have c_18 := kc_eq rfl (by decide : Int32.toInt 0 = 0) c_18
          exact W.vret hx hb hr (fun t ht hW => ⟨⟨(), rfl, trivial, ⟨f_7, k_ret ht hI, kp_11, q_8, k_9, ok_10, (by first | omega | decide), (by first | omega | decide)⟩⟩, hS.F ht⟩) hS.2.2 dX12_goOn_289
        · have c_18 := kn_eq rfl (by decide : Int32.toInt 0 = 0) c_18
          refine lv_aload_n hx hb dX12_goOn_273 rfl (lv_at hl 3 rfl) ?_
          refine lv_iload_n hx hb dX12_goOn_274 rfl (lv_at hl 4 rfl) ?_
          obtain ⟨x_20, x_21, x_22, x_23, x_24, x_25, x_26, x_27, x_28, x_29, x_30, x_31, x_32, x_33, k_19, b_34, b_35, b_36, b_37, b_38, b_39⟩ := op_12 hI i_h0
          refine va_callv (va_runV (As := [.int (nI p1)]) (rest := []) ⟨hx, hb, hml, hown, hts⟩ (c_X12_leaves l dC dI g A hG f_7 h0 p1 q_8 i_h0 k_9 ok_10 (by first | omega | decide | (simp only [k_c0, k_c1, k_cm1]; omega))) (cwV 1 hts (gi_V (fun w_ h0_ => ⟨List.mem_cons_of_mem _ (List.mem_append_right _ (List.mem_append_right _ (List.mem_append_left _ h0_))), (tb_c_X12_leaves w_ h0_).2⟩) (List.mem_cons_of_mem _ (List.mem_append_left _ (List.mem_of_getElem? (i := 3) rfl))) (List.mem_cons_of_mem _ (List.mem_append_left _ (List.mem_of_getElem? (i := 4) rfl))) (List.mem_cons_of_mem _ (List.mem_append_left _ (List.mem_of_getElem? (i := 5) rfl))) (List.mem_cons_of_mem _ (List.mem_append_left _ (List.mem_of_getElem? (i := 2) rfl)))) rfl rfl rfl (by decide +kernel) ⟨Nat.le_of_ble_eq_true rfl, Nat.le_of_ble_eq_true rfl⟩) ⟨fun a U g mk q => ⟨q.1, q.2.calling rfl rfl⟩, k_recv hK hI i_h0.1 k_19 (ci := 12) rfl, fun U hU hW => ⟨rfl, kIn.of hI hK hE hS hU hW⟩⟩ rfl rfl hl.1 rfl (lv_room (Nat.le_of_ble_eq_true rfl)) dX12_goOn_275 ⟨Nat.le_of_ble_eq_true rfl, Nat.le_of_ble_eq_true rfl⟩) hS (fun q _ h => h) (fun q h => h) (fun u t H1 locs ht hvm _ hB hz1 hk1 hS => ?_)
          obtain ⟨f_40, hI, kc_42, q1_43, k_44, z_45, z_46, z_47⟩ := hB
          rw [ht] at hI
          have k_48 : f_40 h0 = .inr (12, [.int x_20, .int x_21, .ref (gr g h0 2), .ref (gr g h0 3), .ref (gr g h0 4), .ref (gr g h0 5), .ref (gr g h0 6), .ref (gr g h0 7), .ref (gr g h0 8), .ref (gr g h0 9), .int x_22, .ref (gr g h0 11), .int x_23, .int x_24, .int x_25, .int x_26, .long x_27, .int x_28, .int x_29, .ref (gr g h0 19), .ref (gr g h0 20), .ref (gr g h0 21), .ref (gr g h0 22), .int x_30, .long x_31, .long x_32, .long x_33]) := Kp.at kc_42 i_h0 (by decide) k_19
          have z_45 : RowOK q1_43 := z_45
          have d_49 := rk_hd z_45
          have z_46 : (q1_43 0).toInt = (q_8 0).toInt := z_46
          have z_47 : (q1_43 1).toInt = (q_8 1).toInt := z_47
          have kp_50 := Kp.call kp_11 kc_42 (by decide)
          generalize H1 = H at hI hS ⊢
          refine W.widen (k := 0) (n := 0) (Nat.le_of_ble_eq_true rfl) (Nat.le_of_ble_eq_true rfl) ?_
          refine lv_aload_n hx hb dX12_goOn_278 rfl (lv_at hl 3 rfl) ?_
          refine k_get (ci := 12) (v := .ref (gr g h0 4)) (C := RX12) (T := TX12) (N := 27) hx hb hts (fun _ h0_ => List.mem_cons_of_mem _ (List.mem_append_right _ (List.mem_append_right _ (List.mem_append_right _ (List.mem_append_left _ h0_))))) hown hK hI i_h0.1 k_48 rfl 4 (by decide) (hts (.fieldLink RX12 16 "DeadlineShareModel" "row" "[J") (List.mem_cons_of_mem _ (List.mem_append_left _ (List.mem_of_getElem? (i := 6) rfl)))) (fun _ h9 => h9) rfl dX12_goOn_279 ?_
          refine lv_iload hx hb dX12_goOn_282 (lv_at hl 2 rfl) ?_
          refine lv_bipush (v := 13) hx hb dX12_goOn_284 (by decide) ?_
          refine lv_iadd hx hb dX12_goOn_286 ?_
          refine k_topi (y := nI (6 + 43 * p1 + 13)) ((nI_add (6 + 43 * p1) 13).trans (congrArg nI (by omega))) ?_
          refine lv_lconst (v := 0) hx hb dX12_goOn_287 (by decide) ?_
          refine k_last hx hb hK hI hS i_1.1 1 k_44 rfl (vp_in_nI (by omega) (by omega)) (cl_32 i_1) dX12_goOn_288 (fun f_53 H locs e_54 hI hS => ?_)
          generalize eq_55 : vp_updL q1_43 (Int32.toNatClampNeg (nI (6 + 43 * p1 + 13))) 0 = q_55 at e_54
          have k_57 : f_53 h0 = .inr (12, [.int x_20, .int x_21, .ref (gr g h0 2), .ref (gr g h0 3), .ref (gr g h0 4), .ref (gr g h0 5), .ref (gr g h0 6), .ref (gr g h0 7), .ref (gr g h0 8), .ref (gr g h0 9), .int x_22, .ref (gr g h0 11), .int x_23, .int x_24, .int x_25, .int x_26, .long x_27, .int x_28, .int x_29, .ref (gr g h0 19), .ref (gr g h0 20), .ref (gr g h0 21), .ref (gr g h0 22), .int x_30, .long x_31, .long x_32, .long x_33]) := by rw [e_54, va_up_ne _ _ (ik_ne i_h0 i_1 (by decide))]; exact k_48
          have k_58 : f_53 (gr g h0 4) = .inl (gc g 1, 906, .inr (.inl q_55)) := by rw [e_54]; exact va_up_self _ _ _
          have kp_56 := Kp.put kp_50 i_1 (by decide) e_54
          have u_59 : vp_updL q1_43 (6 + 43 * p1 + 13) 0 = q_55 := by rw [← eq_55, show Int32.toNatClampNeg (nI (6 + 43 * p1 + 13)) = 6 + 43 * p1 + 13 from (nI_clamp (by omega))]
          have ok_60 : RowOK q_55 := by rw [← u_59]; exact rk_upd z_45 (by rw [show Int64.toInt 0 = 0 from by decide]; refine ⟨⟨by omega, by omega, by omega, by omega, by omega⟩, fun t9 ht9 => ⟨by omega, by omega, by omega, by omega, by omega, by omega⟩, fun t9 k9 ht9 hk9 => ⟨by omega, by omega, by omega⟩, by omega⟩)
          have d_61 := rk_hd ok_60
          have n_62 : (q_55 0).toInt = (q1_43 0).toInt := by rw [← u_59, pk_uLn (by omega)]
          have n_63 : (q_55 1).toInt = (q1_43 1).toInt := by rw [← u_59, pk_uLn (by omega)]
          have n_64 : (q_55 3).toInt = (q1_43 3).toInt := by rw [← u_59, pk_uLn (by omega)]
          have n_65 : (q_55 4).toInt = (q1_43 4).toInt := by rw [← u_59, pk_uLn (by omega)]
          have n_66 : (q_55 5).toInt = (q1_43 5).toInt := by rw [← u_59, pk_uLn (by omega)]
          exact W.vret hx hb hr (fun t ht hW => ⟨⟨(), rfl, trivial, ⟨f_53, k_ret ht hI, kp_56, q_55, k_58, ok_60, (by first | omega | decide), (by first | omega | decide)⟩⟩, hS.F ht⟩) hS.2.2 dX12_goOn_289
      refine lv_if_eq (tgt := 268) hx hb dX12_goOn_14 (by decide) (fun c_67 => ?_) (fun c_67 => ?_)
      · have c_67 := kc_eq rfl (by decide : Int32.toInt 0 = 0) c_67
        exact J_268  _ _ _ hI hS  (lv_sub hl [0, 1, 2, 3, 4, 5, 6] rfl)
      · have c_67 := kn_eq rfl (by decide : Int32.toInt 0 = 0) c_67
        rw [if_neg (show ¬ (Int32.toInt y_5 = 0) by omega)] at m_16
        refine lv_iload hx hb dX12_goOn_17 (lv_at hl 1 rfl) ?_
        refine lv_i2l (v := lN (y_6)) hx hb dX12_goOn_19 (nI_l (by omega)) ?_
        refine lv_aload_n hx hb dX12_goOn_20 rfl (lv_at hl 3 rfl) ?_
        obtain ⟨x_69, x_70, x_71, x_72, x_73, x_74, x_75, x_76, x_77, x_78, x_79, x_80, x_81, x_82, k_68, b_83, b_84, b_85, b_86, b_87, b_88⟩ := op_12 hI i_h0
        refine k_get (ci := 12) (v := .ref (gr g h0 4)) (C := RX12) (T := TX12) (N := 27) hx hb hts (fun _ h0_ => List.mem_cons_of_mem _ (List.mem_append_right _ (List.mem_append_right _ (List.mem_append_right _ (List.mem_append_left _ h0_))))) hown hK hI i_h0.1 k_68 rfl 4 (by decide) (hts (.fieldLink RX12 16 "DeadlineShareModel" "row" "[J") (List.mem_cons_of_mem _ (List.mem_append_left _ (List.mem_of_getElem? (i := 6) rfl)))) (fun _ h9 => h9) rfl dX12_goOn_21 ?_
        refine lv_iload hx hb dX12_goOn_24 (lv_at hl 2 rfl) ?_
        refine lv_bipush (v := 13) hx hb dX12_goOn_26 (by decide) ?_
        refine lv_iadd hx hb dX12_goOn_28 ?_
        refine k_topi (y := nI (6 + 43 * p1 + 13)) ((nI_add (6 + 43 * p1) 13).trans (congrArg nI (by omega))) ?_
        refine k_lald hx hb hK hI i_1.1 1 k_9 rfl (vp_in_nI (by omega) (by omega)) dX12_goOn_29 ?_
        refine k_topl (y := q_8 (6 + 43 * p1 + 13)) (congrArg q_8 (nI_clamp (by omega))) ?_
        have d_91 := rk_13 ok_10 (t := p1) (by omega)
        refine W.lcmp hx hb dX12_goOn_30 ?_
        refine lv_if_ge (tgt := 268) hx hb dX12_goOn_31 (by decide) (fun c_92 => ?_) (fun c_92 => ?_)
        · have c_92 := lc_le rfl (lN_toInt (n := y_6) (by omega)) ((lg_cmp_ge _ _).mp c_92)
          exact J_268  _ _ _ hI hS  (lv_sub hl [0, 1, 2, 3, 4, 5, 6] rfl)
        · have c_92 := ln_le rfl (lN_toInt (n := y_6) (by omega)) (fun h9 => c_92 ((lg_cmp_ge _ _).mpr h9))
          refine lv_aload_n hx hb dX12_goOn_34 rfl (lv_at hl 3 rfl) ?_
          refine k_get (ci := 12) (v := .ref (gr g h0 4)) (C := RX12) (T := TX12) (N := 27) hx hb hts (fun _ h0_ => List.mem_cons_of_mem _ (List.mem_append_right _ (List.mem_append_right _ (List.mem_append_right _ (List.mem_append_left _ h0_))))) hown hK hI i_h0.1 k_68 rfl 4 (by decide) (hts (.fieldLink RX12 16 "DeadlineShareModel" "row" "[J") (List.mem_cons_of_mem _ (List.mem_append_left _ (List.mem_of_getElem? (i := 6) rfl)))) (fun _ h9 => h9) rfl dX12_goOn_35 ?_
          refine lv_iload hx hb dX12_goOn_38 (lv_at hl 2 rfl) ?_
          refine lv_bipush (v := 16) hx hb dX12_goOn_40 (by decide) ?_
          refine lv_iadd hx hb dX12_goOn_42 ?_
          refine k_topi (y := nI (6 + 43 * p1 + 16)) ((nI_add (6 + 43 * p1) 16).trans (congrArg nI (by omega))) ?_
          refine lv_iload hx hb dX12_goOn_43 (lv_at hl 1 rfl) ?_
          refine lv_iadd hx hb dX12_goOn_45 ?_
          refine k_topi (y := nI (6 + 43 * p1 + 16 + y_6)) ((nI_add (6 + 43 * p1 + 16) y_6).trans (congrArg nI (by omega))) ?_
          refine k_lald hx hb hK hI i_1.1 1 k_9 rfl (vp_in_nI (by omega) (by omega)) dX12_goOn_46 ?_
          refine k_topl (y := q_8 (6 + 43 * p1 + 16 + y_6)) (congrArg q_8 (nI_clamp (by omega))) ?_
          have d_95 := rk_k ok_10 (t := p1) (k := y_6) (by omega) (by omega)
          refine lv_l2i (v := (q_8 (6 + 43 * p1 + 16 + y_6)).toInt32) hx hb dX12_goOn_47 rfl ?_
          refine lv_topi (fun v_96 ev_96 => ?_)
          have tv_96 := k_l2i (q_8 (6 + 43 * p1 + 16 + y_6))
          rw [← ev_96] at tv_96
          refine lv_istore (lv' := [(8, .int v_96), (7, .int y_5), (6, .int (nI y_6)), (5, .int (nI (6 + 43 * p1))), (0, .ref h0), (1, .int (nI p1)), (2, .int (nI p2)), (3, .long p3)]) hx hb dX12_goOn_48 hl (by decide) rfl (fun ls hl => ?_)
          refine lv_aload_n hx hb dX12_goOn_50 rfl (lv_at hl 4 rfl) ?_
          refine k_get (ci := 12) (v := .ref (gr g h0 4)) (C := RX12) (T := TX12) (N := 27) hx hb hts (fun _ h0_ => List.mem_cons_of_mem _ (List.mem_append_right _ (List.mem_append_right _ (List.mem_append_right _ (List.mem_append_left _ h0_))))) hown hK hI i_h0.1 k_68 rfl 4 (by decide) (hts (.fieldLink RX12 16 "DeadlineShareModel" "row" "[J") (List.mem_cons_of_mem _ (List.mem_append_left _ (List.mem_of_getElem? (i := 6) rfl)))) (fun _ h9 => h9) rfl dX12_goOn_51 ?_
          refine lv_iload hx hb dX12_goOn_54 (lv_at hl 3 rfl) ?_
          refine lv_bipush (v := 24) hx hb dX12_goOn_56 (by decide) ?_
          refine lv_iadd hx hb dX12_goOn_58 ?_
          refine k_topi (y := nI (6 + 43 * p1 + 24)) ((nI_add (6 + 43 * p1) 24).trans (congrArg nI (by omega))) ?_
          refine lv_iload hx hb dX12_goOn_59 (lv_at hl 2 rfl) ?_
          refine lv_iadd hx hb dX12_goOn_61 ?_
          refine k_topi (y := nI (6 + 43 * p1 + 24 + y_6)) ((nI_add (6 + 43 * p1 + 24) y_6).trans (congrArg nI (by omega))) ?_
          refine k_lald hx hb hK hI i_1.1 1 k_9 rfl (vp_in_nI (by omega) (by omega)) dX12_goOn_62 ?_
          refine k_topl (y := q_8 (6 + 43 * p1 + 24 + y_6)) (congrArg q_8 (nI_clamp (by omega))) ?_
          have d_99 := rk_k ok_10 (t := p1) (k := y_6) (by omega) (by omega)
          refine lv_lstore (lv' := [(9, .long (q_8 (6 + 43 * p1 + 24 + y_6))), (8, .int v_96), (7, .int y_5), (6, .int (nI y_6)), (5, .int (nI (6 + 43 * p1))), (0, .ref h0), (1, .int (nI p1)), (2, .int (nI p2)), (3, .long p3)]) hx hb dX12_goOn_63 hl (by decide) rfl (fun ls hl => ?_)
          refine lv_aload_n hx hb dX12_goOn_65 rfl (lv_at hl 5 rfl) ?_
          refine k_get (ci := 12) (v := .ref (gr g h0 4)) (C := RX12) (T := TX12) (N := 27) hx hb hts (fun _ h0_ => List.mem_cons_of_mem _ (List.mem_append_right _ (List.mem_append_right _ (List.mem_append_right _ (List.mem_append_left _ h0_))))) hown hK hI i_h0.1 k_68 rfl 4 (by decide) (hts (.fieldLink RX12 16 "DeadlineShareModel" "row" "[J") (List.mem_cons_of_mem _ (List.mem_append_left _ (List.mem_of_getElem? (i := 6) rfl)))) (fun _ h9 => h9) rfl dX12_goOn_66 ?_
          refine lv_iload hx hb dX12_goOn_69 (lv_at hl 4 rfl) ?_
          refine lv_bipush (v := 14) hx hb dX12_goOn_71 (by decide) ?_
          refine lv_iadd hx hb dX12_goOn_73 ?_
          refine k_topi (y := nI (6 + 43 * p1 + 14)) ((nI_add (6 + 43 * p1) 14).trans (congrArg nI (by omega))) ?_
          refine lv_iload hx hb dX12_goOn_74 (lv_at hl 3 rfl) ?_
          refine lv_i2l (v := lN (y_6)) hx hb dX12_goOn_76 (nI_l (by omega)) ?_
          refine k_last hx hb hK hI hS i_1.1 1 k_9 rfl (vp_in_nI (by omega) (by omega)) (cl_32 i_1) dX12_goOn_77 (fun f_102 H locs e_103 hI hS => ?_)
          generalize eq_104 : vp_updL q_8 (Int32.toNatClampNeg (nI (6 + 43 * p1 + 14))) (lN (y_6)) = q_104 at e_103
          have k_106 : f_102 (gr g h0 4) = .inl (gc g 1, 906, .inr (.inl q_104)) := by rw [e_103]; exact va_up_self _ _ _
          have k_107 : f_102 h0 = .inr (12, [.int x_69, .int x_70, .ref (gr g h0 2), .ref (gr g h0 3), .ref (gr g h0 4), .ref (gr g h0 5), .ref (gr g h0 6), .ref (gr g h0 7), .ref (gr g h0 8), .ref (gr g h0 9), .int x_71, .ref (gr g h0 11), .int x_72, .int x_73, .int x_74, .int x_75, .long x_76, .int x_77, .int x_78, .ref (gr g h0 19), .ref (gr g h0 20), .ref (gr g h0 21), .ref (gr g h0 22), .int x_79, .long x_80, .long x_81, .long x_82]) := by rw [e_103, va_up_ne _ _ (ik_ne i_h0 i_1 (by decide))]; exact k_68
          have kp_105 := Kp.put kp_11 i_1 (by decide) e_103
          have u_108 : vp_updL q_8 (6 + 43 * p1 + 14) (lN (y_6)) = q_104 := by rw [← eq_104, show Int32.toNatClampNeg (nI (6 + 43 * p1 + 14)) = 6 + 43 * p1 + 14 from (nI_clamp (by omega))]
          have g_109 := lN_toInt (n := y_6) (by omega)
          have ok_110 : RowOK q_104 := by rw [← u_108]; exact rk_upd ok_10 (by refine ⟨⟨by omega, by omega, by omega, by omega, by omega⟩, fun t9 ht9 => ⟨by omega, by omega, by omega, by omega, by omega, by omega⟩, fun t9 k9 ht9 hk9 => ⟨by omega, by omega, by omega⟩, by omega⟩)
          have d_111 := rk_hd ok_110
          have n_112 : (q_104 0).toInt = (q_8 0).toInt := by rw [← u_108, pk_uLn (by omega)]
          have n_113 : (q_104 1).toInt = (q_8 1).toInt := by rw [← u_108, pk_uLn (by omega)]
          have n_114 : (q_104 3).toInt = (q_8 3).toInt := by rw [← u_108, pk_uLn (by omega)]
          have n_115 : (q_104 4).toInt = (q_8 4).toInt := by rw [← u_108, pk_uLn (by omega)]
          have n_116 : (q_104 5).toInt = (q_8 5).toInt := by rw [← u_108, pk_uLn (by omega)]
          have d_117 : (q_104 (6 + 43 * p1 + 13)).toInt = (q_8 (6 + 43 * p1 + 13)).toInt := by rw [← u_108, pk_uLn (by omega)]
          have d_118 : (q_104 (6 + 43 * p1 + 16 + y_6)).toInt = (q_8 (6 + 43 * p1 + 16 + y_6)).toInt := by rw [← u_108, pk_uLn (by omega)]
          have d_119 : (q_104 (6 + 43 * p1 + 24 + y_6)).toInt = (q_8 (6 + 43 * p1 + 24 + y_6)).toInt := by rw [← u_108, pk_uLn (by omega)]
          have d_120 : (q_104 (6 + 43 * p1 + 32 + y_6)).toInt = (q_8 (6 + 43 * p1 + 32 + y_6)).toInt := by rw [← u_108, pk_uLn (by omega)]
          refine lv_iload hx hb dX12_goOn_78 (lv_at hl 1 rfl) ?_
          refine lv_if_ne (tgt := 101) hx hb dX12_goOn_80 (by decide) (fun c_121 => ?_) (fun c_121 => ?_)
          · have c_121 := kn_eq rfl (by decide : Int32.toInt 0 = 0) c_121
            refine lv_iload hx hb dX12_goOn_101 (lv_at hl 1 rfl) ?_
            refine lv_iconst (v := 1) hx hb dX12_goOn_103 (by decide) ?_
            refine lv_icmp_ne (tgt := 144) hx hb dX12_goOn_104 (by decide) (fun c_122 => ?_) (fun c_122 => ?_)
            · have c_122 := kn_eq rfl (by decide : Int32.toInt 1 = 1) c_122
              refine lv_iload hx hb dX12_goOn_144 (lv_at hl 1 rfl) ?_
              refine lv_iconst (v := 4) hx hb dX12_goOn_146 (by decide) ?_
              refine lv_icmp_ne (tgt := 238) hx hb dX12_goOn_147 (by decide) (fun c_123 => ?_) (fun c_123 => ?_)
              · have c_123 := kn_eq rfl (by decide : Int32.toInt 4 = 4) c_123
                refine lv_iload hx hb dX12_goOn_238 (lv_at hl 1 rfl) ?_
                refine lv_iconst (v := 2) hx hb dX12_goOn_240 (by decide) ?_
                refine lv_icmp_ne (tgt := 255) hx hb dX12_goOn_241 (by decide) (fun c_124 => ?_) (fun c_124 => ?_)
                · have c_124 := kn_eq rfl (by decide : Int32.toInt 2 = 2) c_124
                  refine lv_aload_n hx hb dX12_goOn_255 rfl (lv_at hl 5 rfl) ?_
                  refine lv_iload_n hx hb dX12_goOn_256 rfl (lv_at hl 6 rfl) ?_
                  refine lv_lload hx hb dX12_goOn_257 (lv_at hl 0 rfl) ?_
                  refine va_callv (va_runV (As := [.int (nI p1), .long (q_8 (6 + 43 * p1 + 24 + y_6))]) (rest := []) ⟨hx, hb, hml, hown, hts⟩ (c_X12_slices l dC dI g A hG f_102 h0 p1 (q_8 (6 + 43 * p1 + 24 + y_6)) q_104 i_h0 k_106 ok_110 (by first | omega | decide | (simp only [k_c0, k_c1, k_cm1]; omega))) (cwV 2 hts (gi_V (fun w_ h0_ => ⟨List.mem_cons_of_mem _ (List.mem_append_right _ (List.mem_append_right _ (List.mem_append_right _ (List.mem_append_right _ (List.mem_append_left _ h0_))))), (tb_c_X12_slices w_ h0_).2⟩) (List.mem_cons_of_mem _ (List.mem_append_left _ (List.mem_of_getElem? (i := 7) rfl))) (List.mem_cons_of_mem _ (List.mem_append_left _ (List.mem_of_getElem? (i := 8) rfl))) (List.mem_cons_of_mem _ (List.mem_append_left _ (List.mem_of_getElem? (i := 9) rfl))) (List.mem_cons_of_mem _ (List.mem_append_left _ (List.mem_of_getElem? (i := 2) rfl)))) rfl rfl rfl (by decide +kernel) ⟨Nat.le_of_ble_eq_true rfl, Nat.le_of_ble_eq_true rfl⟩) ⟨fun a U g mk q => ⟨q.1, q.2.calling rfl rfl⟩, k_recv hK hI i_h0.1 k_107 (ci := 12) rfl, fun U hU hW => ⟨rfl, kIn.of hI hK hE hS hU hW⟩⟩ rfl rfl hl.1 rfl (lv_room (Nat.le_of_ble_eq_true rfl)) dX12_goOn_259 ⟨Nat.le_of_ble_eq_true rfl, Nat.le_of_ble_eq_true rfl⟩) hS (fun q _ h => h) (fun q h => h) (fun u t H1 locs ht hvm _ hB hz1 hk1 hS => ?_)
                  obtain ⟨f_125, hI, kc_127, q1_128, k_129, z_130, z_131, z_132, z_133⟩ := hB
                  rw [ht] at hI
                  have k_134 : f_125 h0 = .inr (12, [.int x_69, .int x_70, .ref (gr g h0 2), .ref (gr g h0 3), .ref (gr g h0 4), .ref (gr g h0 5), .ref (gr g h0 6), .ref (gr g h0 7), .ref (gr g h0 8), .ref (gr g h0 9), .int x_71, .ref (gr g h0 11), .int x_72, .int x_73, .int x_74, .int x_75, .long x_76, .int x_77, .int x_78, .ref (gr g h0 19), .ref (gr g h0 20), .ref (gr g h0 21), .ref (gr g h0 22), .int x_79, .long x_80, .long x_81, .long x_82]) := Kp.at kc_127 i_h0 (by decide) k_107
                  have z_130 : RowOK q1_128 := z_130
                  have d_135 := rk_hd z_130
                  have z_131 : (q1_128 0).toInt = (q_104 0).toInt := z_131
                  have z_132 : (q1_128 1).toInt = (q_104 1).toInt := z_132
                  have z_133 : ∀ j : Nat, 11 ≤ j → j < 43 → q1_128 (6 + 43 * p1 + j) = q_104 (6 + 43 * p1 + j) := z_133
                  have kp_136 := Kp.call kp_105 kc_127 (by decide)
                  generalize H1 = H at hI hS ⊢
                  refine W.widen (k := 0) (n := 0) (Nat.le_of_ble_eq_true rfl) (Nat.le_of_ble_eq_true rfl) ?_
                  refine lv_iinc (v := nI (y_6 + 1)) (lv' := [(6, .int (nI (y_6 + 1))), (9, .long (q_8 (6 + 43 * p1 + 24 + y_6))), (8, .int v_96), (7, .int y_5), (5, .int (nI (6 + 43 * p1))), (0, .ref h0), (1, .int (nI p1)), (2, .int (nI p2)), (3, .long p3)]) hx hb dX12_goOn_262 hl (k := 3) rfl (nI_1 _) (by decide) rfl (fun ls hl => ?_)
                  refine lv_goto (tgt := 12) hx hb dX12_goOn_265 (by decide) ?_
                  exact ih y_5 (y_6 + 1) q1_128 f_125 _ _ _ (by rw [if_neg (show ¬ (Int32.toInt y_5 = 0) by omega)]; have g9 := mu_next (q := q_8) (q' := q1_128) (a := 6 + 43 * p1) (k := y_6) (by omega) (by omega) (by omega) (fun j9 h9 h8 h7 => by rw [z_133 j9 (by omega) (by omega), ← u_108, pk_uLn (by omega)]); omega) hI hS k_129 z_130 kp_136 (by first | omega | decide) (by first | omega | decide) (by first | omega | decide) (by first | omega | decide) (lv_sub hl [3, 0, 4, 5, 6, 7, 8] rfl)
                · have c_124 := kc_eq rfl (by decide : Int32.toInt 2 = 2) c_124
                  refine lv_aload_n hx hb dX12_goOn_244 rfl (lv_at hl 5 rfl) ?_
                  refine lv_iload_n hx hb dX12_goOn_245 rfl (lv_at hl 6 rfl) ?_
                  refine lv_lload hx hb dX12_goOn_246 (lv_at hl 0 rfl) ?_
                  refine va_calli (va_runV (As := [.int (nI p1), .long (q_8 (6 + 43 * p1 + 24 + y_6))]) (rest := []) ⟨hx, hb, hml, hown, hts⟩ (c_X12_weighs l dC dI g A hG f_102 h0 p1 (q_8 (6 + 43 * p1 + 24 + y_6)) q_104 i_h0 k_106 ok_110 (by first | omega | decide | (simp only [k_c0, k_c1, k_cm1]; omega)) (by first | omega | decide | (simp only [k_c0, k_c1, k_cm1]; omega))) (cwV 2 hts (gi_V (fun w_ h0_ => ⟨List.mem_cons_of_mem _ (List.mem_append_right _ (List.mem_append_right _ (List.mem_append_right _ (List.mem_append_right _ (List.mem_append_right _ (List.mem_append_left _ h0_)))))), (tb_c_X12_weighs w_ h0_).2⟩) (List.mem_cons_of_mem _ (List.mem_append_left _ (List.mem_of_getElem? (i := 10) rfl))) (List.mem_cons_of_mem _ (List.mem_append_left _ (List.mem_of_getElem? (i := 11) rfl))) (List.mem_cons_of_mem _ (List.mem_append_left _ (List.mem_of_getElem? (i := 12) rfl))) (List.mem_cons_of_mem _ (List.mem_append_left _ (List.mem_of_getElem? (i := 2) rfl)))) rfl rfl rfl (by decide +kernel) ⟨Nat.le_of_ble_eq_true rfl, Nat.le_of_ble_eq_true rfl⟩) ⟨fun a U g mk q => ⟨q.1, q.2.calling rfl rfl⟩, k_recv hK hI i_h0.1 k_107 (ci := 12) rfl, fun U hU hW => ⟨rfl, kIn.of hI hK hE hS hU hW⟩⟩ rfl rfl hl.1 rfl (lv_room (Nat.le_of_ble_eq_true rfl)) dX12_goOn_248 ⟨Nat.le_of_ble_eq_true rfl, Nat.le_of_ble_eq_true rfl⟩) hS (fun q _ h => h) (fun q h => h) (fun r_139 u t H1 locs ht hvm w_138 hB hz1 hk1 hS => ?_)
                  obtain ⟨f_137, hI, kc_140, q1_141, k_142, z_143, z_144, z_145, z_146⟩ := hB
                  rw [ht] at hI
                  have k_147 : f_137 h0 = .inr (12, [.int x_69, .int x_70, .ref (gr g h0 2), .ref (gr g h0 3), .ref (gr g h0 4), .ref (gr g h0 5), .ref (gr g h0 6), .ref (gr g h0 7), .ref (gr g h0 8), .ref (gr g h0 9), .int x_71, .ref (gr g h0 11), .int x_72, .int x_73, .int x_74, .int x_75, .long x_76, .int x_77, .int x_78, .ref (gr g h0 19), .ref (gr g h0 20), .ref (gr g h0 21), .ref (gr g h0 22), .int x_79, .long x_80, .long x_81, .long x_82]) := Kp.at kc_140 i_h0 (by decide) k_107
                  have z_143 : RowOK q1_141 := z_143
                  have d_148 := rk_hd z_143
                  have z_144 : (q1_141 0).toInt = (q_104 0).toInt := z_144
                  have z_145 : (q1_141 1).toInt = (q_104 1).toInt := z_145
                  have z_146 : ∀ j : Nat, 11 ≤ j → j < 43 → q1_141 (6 + 43 * p1 + j) = q_104 (6 + 43 * p1 + j) := z_146
                  have kp_149 := Kp.call kp_105 kc_140 (by decide)
                  generalize H1 = H at hI hS ⊢
                  refine W.widen (k := 0) (n := 0) (Nat.le_of_ble_eq_true rfl) (Nat.le_of_ble_eq_true rfl) ?_
                  refine lv_pop hx hb dX12_goOn_251 rfl ?_
                  refine lv_goto (tgt := 262) hx hb dX12_goOn_252 (by decide) ?_
                  refine lv_iinc (v := nI (y_6 + 1)) (lv' := [(6, .int (nI (y_6 + 1))), (9, .long (q_8 (6 + 43 * p1 + 24 + y_6))), (8, .int v_96), (7, .int y_5), (5, .int (nI (6 + 43 * p1))), (0, .ref h0), (1, .int (nI p1)), (2, .int (nI p2)), (3, .long p3)]) hx hb dX12_goOn_262 hl (k := 3) rfl (nI_1 _) (by decide) rfl (fun ls hl => ?_)
                  refine lv_goto (tgt := 12) hx hb dX12_goOn_265 (by decide) ?_
                  exact ih y_5 (y_6 + 1) q1_141 f_137 _ _ _ (by rw [if_neg (show ¬ (Int32.toInt y_5 = 0) by omega)]; have g9 := mu_next (q := q_8) (q' := q1_141) (a := 6 + 43 * p1) (k := y_6) (by omega) (by omega) (by omega) (fun j9 h9 h8 h7 => by rw [z_146 j9 (by omega) (by omega), ← u_108, pk_uLn (by omega)]); omega) hI hS k_142 z_143 kp_149 (by first | omega | decide) (by first | omega | decide) (by first | omega | decide) (by first | omega | decide) (lv_sub hl [3, 0, 4, 5, 6, 7, 8] rfl)
              · have c_123 := kc_eq rfl (by decide : Int32.toInt 4 = 4) c_123
                refine lv_aload_n hx hb dX12_goOn_150 rfl (lv_at hl 5 rfl) ?_
                refine k_get (ci := 12) (v := .ref (gr g h0 4)) (C := RX12) (T := TX12) (N := 27) hx hb hts (fun _ h0_ => List.mem_cons_of_mem _ (List.mem_append_right _ (List.mem_append_right _ (List.mem_append_right _ (List.mem_append_left _ h0_))))) hown hK hI i_h0.1 k_107 rfl 4 (by decide) (hts (.fieldLink RX12 16 "DeadlineShareModel" "row" "[J") (List.mem_cons_of_mem _ (List.mem_append_left _ (List.mem_of_getElem? (i := 6) rfl)))) (fun _ h9 => h9) rfl dX12_goOn_151 ?_
                refine lv_iload hx hb dX12_goOn_154 (lv_at hl 4 rfl) ?_
                refine lv_bipush (v := 32) hx hb dX12_goOn_156 (by decide) ?_
                refine lv_iadd hx hb dX12_goOn_158 ?_
                refine k_topi (y := nI (6 + 43 * p1 + 32)) ((nI_add (6 + 43 * p1) 32).trans (congrArg nI (by omega))) ?_
                refine lv_iload hx hb dX12_goOn_159 (lv_at hl 3 rfl) ?_
                refine lv_iadd hx hb dX12_goOn_161 ?_
                refine k_topi (y := nI (6 + 43 * p1 + 32 + y_6)) ((nI_add (6 + 43 * p1 + 32) y_6).trans (congrArg nI (by omega))) ?_
                refine k_lald hx hb hK hI i_1.1 1 k_106 rfl (vp_in_nI (by omega) (by omega)) dX12_goOn_162 ?_
                refine k_topl (y := q_104 (6 + 43 * p1 + 32 + y_6)) (congrArg q_104 (nI_clamp (by omega))) ?_
                have d_152 := rk_k ok_110 (t := p1) (k := y_6) (by omega) (by omega)
                refine lv_lconst (v := 0) hx hb dX12_goOn_163 (by decide) ?_
                refine W.lcmp hx hb dX12_goOn_164 ?_
                refine lv_if_le (tgt := 172) hx hb dX12_goOn_165 (by decide) (fun c_153 => ?_) (fun c_153 => ?_)
                · have c_153 := lc_le rfl (by decide : Int64.toInt 0 = 0) ((lg_cmp_le _ _).mp c_153)
                  refine lv_iconst (v := 0) hx hb dX12_goOn_172 (by decide) ?_
                  refine lv_istore (lv' := [(11, .int 0), (9, .long (q_8 (6 + 43 * p1 + 24 + y_6))), (8, .int v_96), (7, .int y_5), (6, .int (nI y_6)), (5, .int (nI (6 + 43 * p1))), (0, .ref h0), (1, .int (nI p1)), (2, .int (nI p2)), (3, .long p3)]) hx hb dX12_goOn_173 hl (by decide) rfl (fun ls hl => ?_)
                  refine lv_aload_n hx hb dX12_goOn_175 rfl (lv_at hl 6 rfl) ?_
                  refine k_get (ci := 12) (v := .ref (gr g h0 4)) (C := RX12) (T := TX12) (N := 27) hx hb hts (fun _ h0_ => List.mem_cons_of_mem _ (List.mem_append_right _ (List.mem_append_right _ (List.mem_append_right _ (List.mem_append_left _ h0_))))) hown hK hI i_h0.1 k_107 rfl 4 (by decide) (hts (.fieldLink RX12 16 "DeadlineShareModel" "row" "[J") (List.mem_cons_of_mem _ (List.mem_append_left _ (List.mem_of_getElem? (i := 6) rfl)))) (fun _ h9 => h9) rfl dX12_goOn_176 ?_
                  refine lv_iload hx hb dX12_goOn_179 (lv_at hl 5 rfl) ?_
                  refine lv_bipush (v := 32) hx hb dX12_goOn_181 (by decide) ?_
                  refine lv_iadd hx hb dX12_goOn_183 ?_
                  refine k_topi (y := nI (6 + 43 * p1 + 32)) ((nI_add (6 + 43 * p1) 32).trans (congrArg nI (by omega))) ?_
                  refine lv_iload hx hb dX12_goOn_184 (lv_at hl 4 rfl) ?_
                  refine lv_iadd hx hb dX12_goOn_186 ?_
                  refine k_topi (y := nI (6 + 43 * p1 + 32 + y_6)) ((nI_add (6 + 43 * p1 + 32) y_6).trans (congrArg nI (by omega))) ?_
                  refine lv_iload hx hb dX12_goOn_187 (lv_at hl 0 rfl) ?_
                  refine lv_if_eq (tgt := 210) hx hb dX12_goOn_189 (by decide) (fun _ => ?_) (fun c => absurd (by decide) c)
                  refine lv_lload hx hb dX12_goOn_210 (lv_at hl 1 rfl) ?_
                  refine k_last hx hb hK hI hS i_1.1 1 k_106 rfl (vp_in_nI (by omega) (by omega)) (cl_32 i_1) dX12_goOn_212 (fun f_156 H locs e_157 hI hS => ?_)
                  generalize eq_158 : vp_updL q_104 (Int32.toNatClampNeg (nI (6 + 43 * p1 + 32 + y_6))) (q_8 (6 + 43 * p1 + 24 + y_6)) = q_158 at e_157
                  have k_160 : f_156 (gr g h0 4) = .inl (gc g 1, 906, .inr (.inl q_158)) := by rw [e_157]; exact va_up_self _ _ _
                  have k_161 : f_156 h0 = .inr (12, [.int x_69, .int x_70, .ref (gr g h0 2), .ref (gr g h0 3), .ref (gr g h0 4), .ref (gr g h0 5), .ref (gr g h0 6), .ref (gr g h0 7), .ref (gr g h0 8), .ref (gr g h0 9), .int x_71, .ref (gr g h0 11), .int x_72, .int x_73, .int x_74, .int x_75, .long x_76, .int x_77, .int x_78, .ref (gr g h0 19), .ref (gr g h0 20), .ref (gr g h0 21), .ref (gr g h0 22), .int x_79, .long x_80, .long x_81, .long x_82]) := by rw [e_157, va_up_ne _ _ (ik_ne i_h0 i_1 (by decide))]; exact k_107
                  have kp_159 := Kp.put kp_105 i_1 (by decide) e_157
                  have u_162 : vp_updL q_104 (6 + 43 * p1 + 32 + y_6) (q_8 (6 + 43 * p1 + 24 + y_6)) = q_158 := by rw [← eq_158, show Int32.toNatClampNeg (nI (6 + 43 * p1 + 32 + y_6)) = 6 + 43 * p1 + 32 + y_6 from (nI_clamp (by omega))]
                  have ok_163 : RowOK q_158 := by rw [← u_162]; exact rk_upd ok_110 (by refine ⟨⟨by omega, by omega, by omega, by omega, by omega⟩, fun t9 ht9 => ⟨by omega, by omega, by omega, by omega, by omega, by omega⟩, fun t9 k9 ht9 hk9 => ⟨by omega, by omega, by omega⟩, by omega⟩)
                  have d_164 := rk_hd ok_163
                  have n_165 : (q_158 0).toInt = (q_104 0).toInt := by rw [← u_162, pk_uLn (by omega)]
                  have n_166 : (q_158 1).toInt = (q_104 1).toInt := by rw [← u_162, pk_uLn (by omega)]
                  have n_167 : (q_158 3).toInt = (q_104 3).toInt := by rw [← u_162, pk_uLn (by omega)]
                  have n_168 : (q_158 4).toInt = (q_104 4).toInt := by rw [← u_162, pk_uLn (by omega)]
                  have n_169 : (q_158 5).toInt = (q_104 5).toInt := by rw [← u_162, pk_uLn (by omega)]
                  refine lv_iload hx hb dX12_goOn_213 (lv_at hl 0 rfl) ?_
                  refine lv_if_eq (tgt := 229) hx hb dX12_goOn_215 (by decide) (fun _ => ?_) (fun c => absurd (by decide) c)
                  refine lv_iload hx hb dX12_goOn_229 (lv_at hl 4 rfl) ?_
                  refine lv_iconst (v := 1) hx hb dX12_goOn_231 (by decide) ?_
                  refine lv_iadd hx hb dX12_goOn_232 ?_
                  refine k_topi (y := nI (y_6 + 1)) ((nI_add y_6 1).trans (congrArg nI (by omega))) ?_
                  refine lv_istore (lv' := [(6, .int (nI (y_6 + 1))), (11, .int 0), (9, .long (q_8 (6 + 43 * p1 + 24 + y_6))), (8, .int v_96), (7, .int y_5), (5, .int (nI (6 + 43 * p1))), (0, .ref h0), (1, .int (nI p1)), (2, .int (nI p2)), (3, .long p3)]) hx hb dX12_goOn_233 hl (by decide) rfl (fun ls hl => ?_)
                  refine lv_goto (tgt := 265) hx hb dX12_goOn_235 (by decide) ?_
                  refine lv_goto (tgt := 12) hx hb dX12_goOn_265 (by decide) ?_
                  exact ih y_5 (y_6 + 1) q_158 f_156 _ _ _ (by rw [if_neg (show ¬ (Int32.toInt y_5 = 0) by omega)]; have g9 := mu_pass (q := q_8) (q' := q_158) (a := 6 + 43 * p1) (k := y_6) (by omega) (by omega) (by omega) (fun j9 h9 h8 h7 h6 => by rw [← u_162, pk_uLn (by omega), ← u_108, pk_uLn (by omega)]) (fun j9 h9 h8 => by have g8 := rk_k ok_163 (t := p1) (k := j9) (by omega) (by omega); omega); omega) hI hS k_160 ok_163 kp_159 (by first | omega | decide) (by first | omega | decide) (by first | omega | decide) (by first | omega | decide) (lv_sub hl [4, 0, 5, 6, 7, 8, 9] rfl)
                · have c_153 := ln_le rfl (by decide : Int64.toInt 0 = 0) (fun h9 => c_153 ((lg_cmp_le _ _).mpr h9))
                  refine lv_iconst (v := 1) hx hb dX12_goOn_168 (by decide) ?_
                  refine lv_goto (tgt := 173) hx hb dX12_goOn_169 (by decide) ?_
                  refine lv_istore (lv' := [(11, .int 1), (9, .long (q_8 (6 + 43 * p1 + 24 + y_6))), (8, .int v_96), (7, .int y_5), (6, .int (nI y_6)), (5, .int (nI (6 + 43 * p1))), (0, .ref h0), (1, .int (nI p1)), (2, .int (nI p2)), (3, .long p3)]) hx hb dX12_goOn_173 hl (by decide) rfl (fun ls hl => ?_)
                  refine lv_aload_n hx hb dX12_goOn_175 rfl (lv_at hl 6 rfl) ?_
                  refine k_get (ci := 12) (v := .ref (gr g h0 4)) (C := RX12) (T := TX12) (N := 27) hx hb hts (fun _ h0_ => List.mem_cons_of_mem _ (List.mem_append_right _ (List.mem_append_right _ (List.mem_append_right _ (List.mem_append_left _ h0_))))) hown hK hI i_h0.1 k_107 rfl 4 (by decide) (hts (.fieldLink RX12 16 "DeadlineShareModel" "row" "[J") (List.mem_cons_of_mem _ (List.mem_append_left _ (List.mem_of_getElem? (i := 6) rfl)))) (fun _ h9 => h9) rfl dX12_goOn_176 ?_
                  refine lv_iload hx hb dX12_goOn_179 (lv_at hl 5 rfl) ?_
                  refine lv_bipush (v := 32) hx hb dX12_goOn_181 (by decide) ?_
                  refine lv_iadd hx hb dX12_goOn_183 ?_
                  refine k_topi (y := nI (6 + 43 * p1 + 32)) ((nI_add (6 + 43 * p1) 32).trans (congrArg nI (by omega))) ?_
                  refine lv_iload hx hb dX12_goOn_184 (lv_at hl 4 rfl) ?_
                  refine lv_iadd hx hb dX12_goOn_186 ?_
                  refine k_topi (y := nI (6 + 43 * p1 + 32 + y_6)) ((nI_add (6 + 43 * p1 + 32) y_6).trans (congrArg nI (by omega))) ?_
                  refine lv_iload hx hb dX12_goOn_187 (lv_at hl 0 rfl) ?_
                  refine lv_if_eq (tgt := 210) hx hb dX12_goOn_189 (by decide) (fun c => absurd c (by decide)) (fun _ => ?_)
                  refine lv_aload_n hx hb dX12_goOn_192 rfl (lv_at hl 6 rfl) ?_
                  refine k_get (ci := 12) (v := .ref (gr g h0 4)) (C := RX12) (T := TX12) (N := 27) hx hb hts (fun _ h0_ => List.mem_cons_of_mem _ (List.mem_append_right _ (List.mem_append_right _ (List.mem_append_right _ (List.mem_append_left _ h0_))))) hown hK hI i_h0.1 k_107 rfl 4 (by decide) (hts (.fieldLink RX12 16 "DeadlineShareModel" "row" "[J") (List.mem_cons_of_mem _ (List.mem_append_left _ (List.mem_of_getElem? (i := 6) rfl)))) (fun _ h9 => h9) rfl dX12_goOn_193 ?_
                  refine lv_iload hx hb dX12_goOn_196 (lv_at hl 5 rfl) ?_
                  refine lv_bipush (v := 32) hx hb dX12_goOn_198 (by decide) ?_
                  refine lv_iadd hx hb dX12_goOn_200 ?_
                  refine k_topi (y := nI (6 + 43 * p1 + 32)) ((nI_add (6 + 43 * p1) 32).trans (congrArg nI (by omega))) ?_
                  refine lv_iload hx hb dX12_goOn_201 (lv_at hl 4 rfl) ?_
                  refine lv_iadd hx hb dX12_goOn_203 ?_
                  refine k_topi (y := nI (6 + 43 * p1 + 32 + y_6)) ((nI_add (6 + 43 * p1 + 32) y_6).trans (congrArg nI (by omega))) ?_
                  refine k_lald hx hb hK hI i_1.1 1 k_106 rfl (vp_in_nI (by omega) (by omega)) dX12_goOn_204 ?_
                  refine k_topl (y := q_104 (6 + 43 * p1 + 32 + y_6)) (congrArg q_104 (nI_clamp (by omega))) ?_
                  have d_174 := rk_k ok_110 (t := p1) (k := y_6) (by omega) (by omega)
                  refine lv_lconst (v := 1) hx hb dX12_goOn_205 (by decide) ?_
                  refine lv_lsub hx hb dX12_goOn_206 ?_
                  refine lv_topl (fun v_175 ev_175 => ?_)
                  have tv_175 := l_sb (q_104 (6 + 43 * p1 + 32 + y_6)) 1
                  rw [← ev_175, show Int64.toInt 1 = 1 from by decide] at tv_175
                  refine lv_goto (tgt := 212) hx hb dX12_goOn_207 (by decide) ?_
                  refine k_last hx hb hK hI hS i_1.1 1 k_106 rfl (vp_in_nI (by omega) (by omega)) (cl_32 i_1) dX12_goOn_212 (fun f_176 H locs e_177 hI hS => ?_)
                  generalize eq_178 : vp_updL q_104 (Int32.toNatClampNeg (nI (6 + 43 * p1 + 32 + y_6))) v_175 = q_178 at e_177
                  have k_180 : f_176 (gr g h0 4) = .inl (gc g 1, 906, .inr (.inl q_178)) := by rw [e_177]; exact va_up_self _ _ _
                  have k_181 : f_176 h0 = .inr (12, [.int x_69, .int x_70, .ref (gr g h0 2), .ref (gr g h0 3), .ref (gr g h0 4), .ref (gr g h0 5), .ref (gr g h0 6), .ref (gr g h0 7), .ref (gr g h0 8), .ref (gr g h0 9), .int x_71, .ref (gr g h0 11), .int x_72, .int x_73, .int x_74, .int x_75, .long x_76, .int x_77, .int x_78, .ref (gr g h0 19), .ref (gr g h0 20), .ref (gr g h0 21), .ref (gr g h0 22), .int x_79, .long x_80, .long x_81, .long x_82]) := by rw [e_177, va_up_ne _ _ (ik_ne i_h0 i_1 (by decide))]; exact k_107
                  have kp_179 := Kp.put kp_105 i_1 (by decide) e_177
                  have u_182 : vp_updL q_104 (6 + 43 * p1 + 32 + y_6) v_175 = q_178 := by rw [← eq_178, show Int32.toNatClampNeg (nI (6 + 43 * p1 + 32 + y_6)) = 6 + 43 * p1 + 32 + y_6 from (nI_clamp (by omega))]
                  have ok_183 : RowOK q_178 := by rw [← u_182]; exact rk_upd ok_110 (by refine ⟨⟨by omega, by omega, by omega, by omega, by omega⟩, fun t9 ht9 => ⟨by omega, by omega, by omega, by omega, by omega, by omega⟩, fun t9 k9 ht9 hk9 => ⟨by omega, by omega, by omega⟩, by omega⟩)
                  have d_184 := rk_hd ok_183
                  have n_185 : (q_178 0).toInt = (q_104 0).toInt := by rw [← u_182, pk_uLn (by omega)]
                  have n_186 : (q_178 1).toInt = (q_104 1).toInt := by rw [← u_182, pk_uLn (by omega)]
                  have n_187 : (q_178 3).toInt = (q_104 3).toInt := by rw [← u_182, pk_uLn (by omega)]
                  have n_188 : (q_178 4).toInt = (q_104 4).toInt := by rw [← u_182, pk_uLn (by omega)]
                  have n_189 : (q_178 5).toInt = (q_104 5).toInt := by rw [← u_182, pk_uLn (by omega)]
                  refine lv_iload hx hb dX12_goOn_213 (lv_at hl 0 rfl) ?_
                  refine lv_if_eq (tgt := 229) hx hb dX12_goOn_215 (by decide) (fun c => absurd c (by decide)) (fun _ => ?_)
                  refine lv_aload_n hx hb dX12_goOn_218 rfl (lv_at hl 6 rfl) ?_
                  refine lv_iload hx hb dX12_goOn_219 (lv_at hl 5 rfl) ?_
                  refine lv_iload hx hb dX12_goOn_221 (lv_at hl 4 rfl) ?_
                  refine va_calli (va_runV (As := [.int (nI (6 + 43 * p1)), .int (nI y_6)]) (rest := []) ⟨hx, hb, hml, hown, hts⟩ (c_X12_firstOf l dC dI g A hG f_176 h0 (6 + 43 * p1) y_6 q_178 i_h0 k_180 ok_183 (by first | omega | decide | (simp only [k_c0, k_c1, k_cm1]; omega)) (by first | omega | decide | (simp only [k_c0, k_c1, k_cm1]; omega))) (cwV 2 hts (gi_V (fun w_ h0_ => ⟨List.mem_cons_of_mem _ (List.mem_append_right _ (List.mem_append_right _ (List.mem_append_right _ (List.mem_append_right _ (List.mem_append_right _ (List.mem_append_right _ (List.mem_append_left _ h0_))))))), (tb_c_X12_firstOf w_ h0_).2⟩) (List.mem_cons_of_mem _ (List.mem_append_left _ (List.mem_of_getElem? (i := 13) rfl))) (List.mem_cons_of_mem _ (List.mem_append_left _ (List.mem_of_getElem? (i := 14) rfl))) (List.mem_cons_of_mem _ (List.mem_append_left _ (List.mem_of_getElem? (i := 15) rfl))) (List.mem_cons_of_mem _ (List.mem_append_left _ (List.mem_of_getElem? (i := 2) rfl)))) rfl rfl rfl (by decide +kernel) ⟨Nat.le_of_ble_eq_true rfl, Nat.le_of_ble_eq_true rfl⟩) ⟨fun a U g mk q => ⟨q.1, q.2.calling rfl rfl⟩, k_recv hK hI i_h0.1 k_181 (ci := 12) rfl, fun U hU hW => ⟨rfl, kIn.of hI hK hE hS hU hW⟩⟩ rfl rfl hl.1 rfl (lv_room (Nat.le_of_ble_eq_true rfl)) dX12_goOn_223 ⟨Nat.le_of_ble_eq_true rfl, Nat.le_of_ble_eq_true rfl⟩) hS (fun q _ h => h) (fun q h => h) (fun r_191 u t H1 locs ht hvm w_190 hB hz1 hk1 hS => ?_)
                  have hI : Iv dC dI g A f_176 t.heap := hB
                  rw [ht] at hI
                  generalize H1 = H at hI hS ⊢
                  refine W.widen (k := 0) (n := 0) (Nat.le_of_ble_eq_true rfl) (Nat.le_of_ble_eq_true rfl) ?_
                  have w_190 : ∃ k : Nat, r_191 = nI k ∧ k ≤ y_6 ∧ ∀ j : Nat, k ≤ j → j < y_6 → (q_178 ((6 + 43 * p1) + 16 + j)).toInt ≠ 4 := w_190
                  obtain ⟨m_192, em_192, h_193, h_194⟩ := w_190
                  refine k_topi (y := nI m_192) em_192 ?_
                  refine lv_goto (tgt := 233) hx hb dX12_goOn_226 (by decide) ?_
                  refine lv_istore (lv' := [(6, .int (nI m_192)), (11, .int 1), (9, .long (q_8 (6 + 43 * p1 + 24 + y_6))), (8, .int v_96), (7, .int y_5), (5, .int (nI (6 + 43 * p1))), (0, .ref h0), (1, .int (nI p1)), (2, .int (nI p2)), (3, .long p3)]) hx hb dX12_goOn_233 hl (by decide) rfl (fun ls hl => ?_)
                  refine lv_goto (tgt := 265) hx hb dX12_goOn_235 (by decide) ?_
                  refine lv_goto (tgt := 12) hx hb dX12_goOn_265 (by decide) ?_
                  exact ih y_5 m_192 q_178 f_176 _ _ _ (by rw [if_neg (show ¬ (Int32.toInt y_5 = 0) by omega)]; have g9 := mu_turn (q := q_8) (q' := q_178) (k1 := m_192) (a := 6 + 43 * p1) (k := y_6) (by omega) (by omega) (by omega) (by omega) (fun j9 h9 h8 h7 h6 => by rw [← u_182, pk_uLn (by omega), ← u_108, pk_uLn (by omega)]) (by rw [← u_182, pk_uLs]; omega) (by omega) (fun j9 a9 b9 => by have g8 := h_194 j9 a9 b9; rw [← u_182, pk_uLn (by omega), ← u_108, pk_uLn (by omega)] at g8; exact g8); omega) hI hS k_180 ok_183 kp_179 (by first | omega | decide) (by first | omega | decide) (by first | omega | decide) (by first | omega | decide) (lv_sub hl [4, 0, 5, 6, 7, 8, 9] rfl)
            · have c_122 := kc_eq rfl (by decide : Int32.toInt 1 = 1) c_122
              refine lv_aload_n hx hb dX12_goOn_107 rfl (lv_at hl 5 rfl) ?_
              refine lv_iload_n hx hb dX12_goOn_108 rfl (lv_at hl 6 rfl) ?_
              refine va_callv (va_runV (As := [.int (nI p1)]) (rest := []) ⟨hx, hb, hml, hown, hts⟩ (c_X12_leaves l dC dI g A hG f_102 h0 p1 q_104 i_h0 k_106 ok_110 (by first | omega | decide | (simp only [k_c0, k_c1, k_cm1]; omega))) (cwV 1 hts (gi_V (fun w_ h0_ => ⟨List.mem_cons_of_mem _ (List.mem_append_right _ (List.mem_append_right _ (List.mem_append_left _ h0_))), (tb_c_X12_leaves w_ h0_).2⟩) (List.mem_cons_of_mem _ (List.mem_append_left _ (List.mem_of_getElem? (i := 3) rfl))) (List.mem_cons_of_mem _ (List.mem_append_left _ (List.mem_of_getElem? (i := 4) rfl))) (List.mem_cons_of_mem _ (List.mem_append_left _ (List.mem_of_getElem? (i := 5) rfl))) (List.mem_cons_of_mem _ (List.mem_append_left _ (List.mem_of_getElem? (i := 2) rfl)))) rfl rfl rfl (by decide +kernel) ⟨Nat.le_of_ble_eq_true rfl, Nat.le_of_ble_eq_true rfl⟩) ⟨fun a U g mk q => ⟨q.1, q.2.calling rfl rfl⟩, k_recv hK hI i_h0.1 k_107 (ci := 12) rfl, fun U hU hW => ⟨rfl, kIn.of hI hK hE hS hU hW⟩⟩ rfl rfl hl.1 rfl (lv_room (Nat.le_of_ble_eq_true rfl)) dX12_goOn_109 ⟨Nat.le_of_ble_eq_true rfl, Nat.le_of_ble_eq_true rfl⟩) hS (fun q _ h => h) (fun q h => h) (fun u t H1 locs ht hvm _ hB hz1 hk1 hS => ?_)
              obtain ⟨f_195, hI, kc_197, q1_198, k_199, z_200, z_201, z_202⟩ := hB
              rw [ht] at hI
              have k_203 : f_195 h0 = .inr (12, [.int x_69, .int x_70, .ref (gr g h0 2), .ref (gr g h0 3), .ref (gr g h0 4), .ref (gr g h0 5), .ref (gr g h0 6), .ref (gr g h0 7), .ref (gr g h0 8), .ref (gr g h0 9), .int x_71, .ref (gr g h0 11), .int x_72, .int x_73, .int x_74, .int x_75, .long x_76, .int x_77, .int x_78, .ref (gr g h0 19), .ref (gr g h0 20), .ref (gr g h0 21), .ref (gr g h0 22), .int x_79, .long x_80, .long x_81, .long x_82]) := Kp.at kc_197 i_h0 (by decide) k_107
              have z_200 : RowOK q1_198 := z_200
              have d_204 := rk_hd z_200
              have z_201 : (q1_198 0).toInt = (q_104 0).toInt := z_201
              have z_202 : (q1_198 1).toInt = (q_104 1).toInt := z_202
              have kp_205 := Kp.call kp_105 kc_197 (by decide)
              generalize H1 = H at hI hS ⊢
              refine W.widen (k := 0) (n := 0) (Nat.le_of_ble_eq_true rfl) (Nat.le_of_ble_eq_true rfl) ?_
              refine lv_aload_n hx hb dX12_goOn_112 rfl (lv_at hl 5 rfl) ?_
              refine k_get (ci := 12) (v := .ref (gr g h0 4)) (C := RX12) (T := TX12) (N := 27) hx hb hts (fun _ h0_ => List.mem_cons_of_mem _ (List.mem_append_right _ (List.mem_append_right _ (List.mem_append_right _ (List.mem_append_left _ h0_))))) hown hK hI i_h0.1 k_203 rfl 4 (by decide) (hts (.fieldLink RX12 16 "DeadlineShareModel" "row" "[J") (List.mem_cons_of_mem _ (List.mem_append_left _ (List.mem_of_getElem? (i := 6) rfl)))) (fun _ h9 => h9) rfl dX12_goOn_113 ?_
              refine lv_iload hx hb dX12_goOn_116 (lv_at hl 4 rfl) ?_
              refine lv_iconst (v := 2) hx hb dX12_goOn_118 (by decide) ?_
              refine lv_iadd hx hb dX12_goOn_119 ?_
              refine k_topi (y := nI (6 + 43 * p1 + 2)) ((nI_add (6 + 43 * p1) 2).trans (congrArg nI (by omega))) ?_
              refine lv_ldc2 hx hb hown (hts (.constantLong RX12 122 (2)) (List.mem_cons_of_mem _ (List.mem_append_left _ (List.mem_of_getElem? (i := 16) rfl)))) dX12_goOn_120 ?_
              refine k_last hx hb hK hI hS i_1.1 1 k_199 rfl (vp_in_nI (by omega) (by omega)) (cl_32 i_1) dX12_goOn_123 (fun f_208 H locs e_209 hI hS => ?_)
              generalize eq_210 : vp_updL q1_198 (Int32.toNatClampNeg (nI (6 + 43 * p1 + 2))) 2 = q_210 at e_209
              have k_212 : f_208 h0 = .inr (12, [.int x_69, .int x_70, .ref (gr g h0 2), .ref (gr g h0 3), .ref (gr g h0 4), .ref (gr g h0 5), .ref (gr g h0 6), .ref (gr g h0 7), .ref (gr g h0 8), .ref (gr g h0 9), .int x_71, .ref (gr g h0 11), .int x_72, .int x_73, .int x_74, .int x_75, .long x_76, .int x_77, .int x_78, .ref (gr g h0 19), .ref (gr g h0 20), .ref (gr g h0 21), .ref (gr g h0 22), .int x_79, .long x_80, .long x_81, .long x_82]) := by rw [e_209, va_up_ne _ _ (ik_ne i_h0 i_1 (by decide))]; exact k_203
              have k_213 : f_208 (gr g h0 4) = .inl (gc g 1, 906, .inr (.inl q_210)) := by rw [e_209]; exact va_up_self _ _ _
              have kp_211 := Kp.put kp_205 i_1 (by decide) e_209
              have u_214 : vp_updL q1_198 (6 + 43 * p1 + 2) 2 = q_210 := by rw [← eq_210, show Int32.toNatClampNeg (nI (6 + 43 * p1 + 2)) = 6 + 43 * p1 + 2 from (nI_clamp (by omega))]
              have ok_215 : RowOK q_210 := by rw [← u_214]; exact rk_upd z_200 (by rw [show Int64.toInt 2 = 2 from by decide]; refine ⟨⟨by omega, by omega, by omega, by omega, by omega⟩, fun t9 ht9 => ⟨by omega, by omega, by omega, by omega, by omega, by omega⟩, fun t9 k9 ht9 hk9 => ⟨by omega, by omega, by omega⟩, by omega⟩)
              have d_216 := rk_hd ok_215
              have n_217 : (q_210 0).toInt = (q1_198 0).toInt := by rw [← u_214, pk_uLn (by omega)]
              have n_218 : (q_210 1).toInt = (q1_198 1).toInt := by rw [← u_214, pk_uLn (by omega)]
              have n_219 : (q_210 3).toInt = (q1_198 3).toInt := by rw [← u_214, pk_uLn (by omega)]
              have n_220 : (q_210 4).toInt = (q1_198 4).toInt := by rw [← u_214, pk_uLn (by omega)]
              have n_221 : (q_210 5).toInt = (q1_198 5).toInt := by rw [← u_214, pk_uLn (by omega)]
              refine lv_aload_n hx hb dX12_goOn_124 rfl (lv_at hl 5 rfl) ?_
              refine k_get (ci := 12) (v := .ref (gr g h0 4)) (C := RX12) (T := TX12) (N := 27) hx hb hts (fun _ h0_ => List.mem_cons_of_mem _ (List.mem_append_right _ (List.mem_append_right _ (List.mem_append_right _ (List.mem_append_left _ h0_))))) hown hK hI i_h0.1 k_212 rfl 4 (by decide) (hts (.fieldLink RX12 16 "DeadlineShareModel" "row" "[J") (List.mem_cons_of_mem _ (List.mem_append_left _ (List.mem_of_getElem? (i := 6) rfl)))) (fun _ h9 => h9) rfl dX12_goOn_125 ?_
              refine lv_iload hx hb dX12_goOn_128 (lv_at hl 4 rfl) ?_
              refine lv_bipush (v := 9) hx hb dX12_goOn_130 (by decide) ?_
              refine lv_iadd hx hb dX12_goOn_132 ?_
              refine k_topi (y := nI (6 + 43 * p1 + 9)) ((nI_add (6 + 43 * p1) 9).trans (congrArg nI (by omega))) ?_
              refine lv_lload_n hx hb dX12_goOn_133 rfl (lv_at hl 8 rfl) ?_
              refine lv_lload hx hb dX12_goOn_134 (lv_at hl 0 rfl) ?_
              refine lv_ladd hx hb dX12_goOn_136 ?_
              refine lv_topl (fun v_224 ev_224 => ?_)
              have tv_224 := l_ad p3 (q_8 (6 + 43 * p1 + 24 + y_6))
              rw [← ev_224] at tv_224
              refine k_last hx hb hK hI hS i_1.1 1 k_213 rfl (vp_in_nI (by omega) (by omega)) (cl_32 i_1) dX12_goOn_137 (fun f_225 H locs e_226 hI hS => ?_)
              generalize eq_227 : vp_updL q_210 (Int32.toNatClampNeg (nI (6 + 43 * p1 + 9))) v_224 = q_227 at e_226
              have k_229 : f_225 h0 = .inr (12, [.int x_69, .int x_70, .ref (gr g h0 2), .ref (gr g h0 3), .ref (gr g h0 4), .ref (gr g h0 5), .ref (gr g h0 6), .ref (gr g h0 7), .ref (gr g h0 8), .ref (gr g h0 9), .int x_71, .ref (gr g h0 11), .int x_72, .int x_73, .int x_74, .int x_75, .long x_76, .int x_77, .int x_78, .ref (gr g h0 19), .ref (gr g h0 20), .ref (gr g h0 21), .ref (gr g h0 22), .int x_79, .long x_80, .long x_81, .long x_82]) := by rw [e_226, va_up_ne _ _ (ik_ne i_h0 i_1 (by decide))]; exact k_212
              have k_230 : f_225 (gr g h0 4) = .inl (gc g 1, 906, .inr (.inl q_227)) := by rw [e_226]; exact va_up_self _ _ _
              have kp_228 := Kp.put kp_211 i_1 (by decide) e_226
              have u_231 : vp_updL q_210 (6 + 43 * p1 + 9) v_224 = q_227 := by rw [← eq_227, show Int32.toNatClampNeg (nI (6 + 43 * p1 + 9)) = 6 + 43 * p1 + 9 from (nI_clamp (by omega))]
              have ok_232 : RowOK q_227 := by rw [← u_231]; exact rk_upd ok_215 (by refine ⟨⟨by omega, by omega, by omega, by omega, by omega⟩, fun t9 ht9 => ⟨by omega, by omega, by omega, by omega, by omega, by omega⟩, fun t9 k9 ht9 hk9 => ⟨by omega, by omega, by omega⟩, by omega⟩)
              have d_233 := rk_hd ok_232
              have n_234 : (q_227 0).toInt = (q_210 0).toInt := by rw [← u_231, pk_uLn (by omega)]
              have n_235 : (q_227 1).toInt = (q_210 1).toInt := by rw [← u_231, pk_uLn (by omega)]
              have n_236 : (q_227 3).toInt = (q_210 3).toInt := by rw [← u_231, pk_uLn (by omega)]
              have n_237 : (q_227 4).toInt = (q_210 4).toInt := by rw [← u_231, pk_uLn (by omega)]
              have n_238 : (q_227 5).toInt = (q_210 5).toInt := by rw [← u_231, pk_uLn (by omega)]
              refine lv_iconst (v := 0) hx hb dX12_goOn_138 (by decide) ?_
              refine lv_istore (lv' := [(7, .int 0), (9, .long (q_8 (6 + 43 * p1 + 24 + y_6))), (8, .int v_96), (6, .int (nI y_6)), (5, .int (nI (6 + 43 * p1))), (0, .ref h0), (1, .int (nI p1)), (2, .int (nI p2)), (3, .long p3)]) hx hb dX12_goOn_139 hl (by decide) rfl (fun ls hl => ?_)
              refine lv_goto (tgt := 265) hx hb dX12_goOn_141 (by decide) ?_
              refine lv_goto (tgt := 12) hx hb dX12_goOn_265 (by decide) ?_
              exact ih 0 y_6 q_227 f_225 _ _ _ (by rw [if_pos (by decide)]; omega) hI hS k_230 ok_232 kp_228 (by first | omega | decide | (simp only [show Int32.toInt 0 = 0 from by decide]; omega)) (by first | omega | decide | (simp only [show Int32.toInt 0 = 0 from by decide]; omega)) (by first | omega | decide | (simp only [show Int32.toInt 0 = 0 from by decide]; omega)) (by first | omega | decide | (simp only [show Int32.toInt 0 = 0 from by decide]; omega)) (lv_sub hl [0, 3, 4, 5, 6, 7, 8] rfl)
          · have c_121 := kc_eq rfl (by decide : Int32.toInt 0 = 0) c_121
            refine lv_aload_n hx hb dX12_goOn_83 rfl (lv_at hl 5 rfl) ?_
            refine k_get (ci := 12) (v := .ref (gr g h0 4)) (C := RX12) (T := TX12) (N := 27) hx hb hts (fun _ h0_ => List.mem_cons_of_mem _ (List.mem_append_right _ (List.mem_append_right _ (List.mem_append_right _ (List.mem_append_left _ h0_))))) hown hK hI i_h0.1 k_107 rfl 4 (by decide) (hts (.fieldLink RX12 16 "DeadlineShareModel" "row" "[J") (List.mem_cons_of_mem _ (List.mem_append_left _ (List.mem_of_getElem? (i := 6) rfl)))) (fun _ h9 => h9) rfl dX12_goOn_84 ?_
            refine lv_iload hx hb dX12_goOn_87 (lv_at hl 4 rfl) ?_
            refine lv_bipush (v := 15) hx hb dX12_goOn_89 (by decide) ?_
            refine lv_iadd hx hb dX12_goOn_91 ?_
            refine k_topi (y := nI (6 + 43 * p1 + 15)) ((nI_add (6 + 43 * p1) 15).trans (congrArg nI (by omega))) ?_
            refine lv_lload hx hb dX12_goOn_92 (lv_at hl 0 rfl) ?_
            refine k_last hx hb hK hI hS i_1.1 1 k_106 rfl (vp_in_nI (by omega) (by omega)) (cl_32 i_1) dX12_goOn_94 (fun f_241 H locs e_242 hI hS => ?_)
            generalize eq_243 : vp_updL q_104 (Int32.toNatClampNeg (nI (6 + 43 * p1 + 15))) (q_8 (6 + 43 * p1 + 24 + y_6)) = q_243 at e_242
            have k_245 : f_241 (gr g h0 4) = .inl (gc g 1, 906, .inr (.inl q_243)) := by rw [e_242]; exact va_up_self _ _ _
            have k_246 : f_241 h0 = .inr (12, [.int x_69, .int x_70, .ref (gr g h0 2), .ref (gr g h0 3), .ref (gr g h0 4), .ref (gr g h0 5), .ref (gr g h0 6), .ref (gr g h0 7), .ref (gr g h0 8), .ref (gr g h0 9), .int x_71, .ref (gr g h0 11), .int x_72, .int x_73, .int x_74, .int x_75, .long x_76, .int x_77, .int x_78, .ref (gr g h0 19), .ref (gr g h0 20), .ref (gr g h0 21), .ref (gr g h0 22), .int x_79, .long x_80, .long x_81, .long x_82]) := by rw [e_242, va_up_ne _ _ (ik_ne i_h0 i_1 (by decide))]; exact k_107
            have kp_244 := Kp.put kp_105 i_1 (by decide) e_242
            have u_247 : vp_updL q_104 (6 + 43 * p1 + 15) (q_8 (6 + 43 * p1 + 24 + y_6)) = q_243 := by rw [← eq_243, show Int32.toNatClampNeg (nI (6 + 43 * p1 + 15)) = 6 + 43 * p1 + 15 from (nI_clamp (by omega))]
            have ok_248 : RowOK q_243 := by rw [← u_247]; exact rk_upd ok_110 (by refine ⟨⟨by omega, by omega, by omega, by omega, by omega⟩, fun t9 ht9 => ⟨by omega, by omega, by omega, by omega, by omega, by omega⟩, fun t9 k9 ht9 hk9 => ⟨by omega, by omega, by omega⟩, by omega⟩)
            have d_249 := rk_hd ok_248
            have n_250 : (q_243 0).toInt = (q_104 0).toInt := by rw [← u_247, pk_uLn (by omega)]
            have n_251 : (q_243 1).toInt = (q_104 1).toInt := by rw [← u_247, pk_uLn (by omega)]
            have n_252 : (q_243 3).toInt = (q_104 3).toInt := by rw [← u_247, pk_uLn (by omega)]
            have n_253 : (q_243 4).toInt = (q_104 4).toInt := by rw [← u_247, pk_uLn (by omega)]
            have n_254 : (q_243 5).toInt = (q_104 5).toInt := by rw [← u_247, pk_uLn (by omega)]
            refine lv_iconst (v := 0) hx hb dX12_goOn_95 (by decide) ?_
            refine lv_istore (lv' := [(7, .int 0), (9, .long (q_8 (6 + 43 * p1 + 24 + y_6))), (8, .int v_96), (6, .int (nI y_6)), (5, .int (nI (6 + 43 * p1))), (0, .ref h0), (1, .int (nI p1)), (2, .int (nI p2)), (3, .long p3)]) hx hb dX12_goOn_96 hl (by decide) rfl (fun ls hl => ?_)
            refine lv_goto (tgt := 265) hx hb dX12_goOn_98 (by decide) ?_
            refine lv_goto (tgt := 12) hx hb dX12_goOn_265 (by decide) ?_
            exact ih 0 y_6 q_243 f_241 _ _ _ (by rw [if_pos (by decide)]; omega) hI hS k_245 ok_248 kp_244 (by first | omega | decide | (simp only [show Int32.toInt 0 = 0 from by decide]; omega)) (by first | omega | decide | (simp only [show Int32.toInt 0 = 0 from by decide]; omega)) (by first | omega | decide | (simp only [show Int32.toInt 0 = 0 from by decide]; omega)) (by first | omega | decide | (simp only [show Int32.toInt 0 = 0 from by decide]; omega)) (lv_sub hl [0, 3, 4, 5, 6, 7, 8] rfl)
  exact K_12 _ 1 p2 q f _ _ _ (Nat.lt_succ_self _) hI hS hc0 hc0_ok hk0 (by first | omega | decide | (simp only [show Int32.toInt 1 = 1 from by decide]; omega)) (by first | omega | decide | (simp only [show Int32.toInt 1 = 1 from by decide]; omega)) (by first | omega | decide | (simp only [show Int32.toInt 1 = 1 from by decide]; omega)) (by first | omega | decide | (simp only [show Int32.toInt 1 = 1 from by decide]; omega)) (lv_sub hl [0, 1, 2, 3, 4, 5, 6] rfl)
