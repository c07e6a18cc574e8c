theorem tw_1011 : q_g (.code yX12_back cX12_back 3 (some .int)) := ⟨(List.mem_append_right _ (List.mem_of_getElem? (i := 1333) (by decide +kernel))), good_of_word (by decide +kernel)⟩
def ow_c_X12_back : List Cond := [.fieldLink RX12 67 "DeadlineShareModel" "thrown" "I", .methodLink RX12 83 yX12_in, .static yX12_in, .initialized RX12, .fieldLink RX12 29 "DeadlineShareModel" "isKept" "[Z", .fieldLink RX12 73 "DeadlineShareModel" "nUndo" "I", .fieldLink RX12 16 "DeadlineShareModel" "row" "[J", .methodLink RX12 80 yX12_tell, .instanceMethod yX12_tell, .selects RX12 yX12_tell yX12_tell, .fieldLink RX12 26 "DeadlineShareModel" "images" "[J", .methodLink RX12 76 yX12_refuse, .instanceMethod yX12_refuse, .selects RX12 yX12_refuse yX12_refuse]
def wq_c_X12_back : List Cond := .code yX12_back cX12_back 3 (some .int) :: (ow_c_X12_back ++ (u_ws RX12 TX12 27 ++ (wq_c_X12_in ++ (wq_c_X12_tell ++ (wq_c_X12_refuse ++ ([] : List Cond))))))
theorem tb_c_X12_back : ∀ w ∈ wq_c_X12_back, q_g w := by
  unfold wq_c_X12_back ow_c_X12_back
  exact q_cons tw_1011 (q_app (q_cons tw_927 (q_cons tw_730 (q_cons tw_729 (q_cons tw_728 (q_cons tw_1009 (q_cons tw_901 (q_cons tw_731 (q_cons tw_960 (q_cons tw_959 (q_cons tw_958 (q_cons tw_1008 (q_cons tw_966 (q_cons tw_965 (q_cons tw_964 q_nil)))))))))))))) (q_app tu_X12 (q_app tb_c_X12_in (q_app tb_c_X12_tell (q_app tb_c_X12_refuse q_nil)))))
set_option maxHeartbeats 4000000 in
set_option maxRecDepth 100000 in
theorem c_X12_back (l : Launch) (dC : Nat → ClassId) (dI : Nat → Nat → Nat) (g : kG) (A : Nat → Prop) (hG : kWf g) (f : Nat → va_E) (h0 : Nat) (p1 : Int32) (z0 : Int32) (z1 : Int32) (z10 : Int32) (z12 : Int32) (z13 : Int32) (z14 : Int32) (z15 : Int32) (z16 : Int64) (z17 : Int32) (z18 : Int32) (z23 : Int32) (z24 : Int64) (z25 : Int64) (z26 : Int64) (q : Nat → Int64) (u : Nat → Int64) (im : Nat → Int64) (kt : Nat → Int32) (i_h0 : ik g 12 h0) (hc0 : f h0 = .inr (12, [.int z0, .int z1, .ref (gr g h0 2), .ref (gr g h0 3), .ref (gr g h0 4), .ref (gr g h0 5), .ref (gr g h0 6), .ref (gr g h0 7), .ref (gr g h0 8), .ref (gr g h0 9), .int z10, .ref (gr g h0 11), .int z12, .int z13, .int z14, .int z15, .long z16, .int z17, .int z18, .ref (gr g h0 19), .ref (gr g h0 20), .ref (gr g h0 21), .ref (gr g h0 22), .int z23, .long z24, .long z25, .long z26])) (hc0_10 : 0 ≤ z10.toInt ∧ z10.toInt ≤ 10) (hc0_12 : 0 ≤ z12.toInt ∧ z12.toInt ≤ 200) (hc0_23 : 0 ≤ z23.toInt ∧ z23.toInt ≤ 8) (hc1 : f (gr g h0 4) = .inl (gc g 1, 906, .inr (.inl q))) (hc1_ok : RowOK q) (hc2 : f (gr g h0 5) = .inl (gc g 1, 9060, .inr (.inl u))) (hc3 : f (gr g h0 7) = .inl (gc g 1, 1812, .inr (.inl im))) (hc4 : f (gr g h0 8) = .inl (gc g 3, 2, .inl kt)) (hU : UIq z10 u im kt) : Met l yX12_back wq_c_X12_back ({ frames := 1, cells := 0, slots := 0, locals := 25 } : Room) (va_Pc [.ref h0, .int p1] (fun U => kIn dC dI g A f U)) (va_Qi (fun (r : Int32) (_ : Unit) => True) (fun (_ : Unit) t => ∃ f1 : Nat → va_E, Iv dC dI g A f1 t.heap ∧ Kp g [12, 30, 32] f f1 ∧ ∃ (w0 : Int32) (w1 : Int32) (w10 : Int32) (w12 : Int32) (w13 : Int32) (w14 : Int32) (w15 : Int32) (w16 : Int64) (w17 : Int32) (w18 : Int32) (w23 : Int32) (w24 : Int64) (w25 : Int64) (w26 : Int64) (q1 : Nat → Int64) (u1 : Nat → Int64) (im1 : Nat → Int64) (ik1 : Nat → Int32), (f1 h0 = .inr (12, [.int w0, .int w1, .ref (gr g h0 2), .ref (gr g h0 3), .ref (gr g h0 4), .ref (gr g h0 5), .ref (gr g h0 6), .ref (gr g h0 7), .ref (gr g h0 8), .ref (gr g h0 9), .int w10, .ref (gr g h0 11), .int w12, .int w13, .int w14, .int w15, .long w16, .int w17, .int w18, .ref (gr g h0 19), .ref (gr g h0 20), .ref (gr g h0 21), .ref (gr g h0 22), .int w23, .long w24, .long w25, .long w26])) ∧ (0 ≤ w10.toInt ∧ w10.toInt ≤ 10) ∧ (0 ≤ w12.toInt ∧ w12.toInt ≤ 200) ∧ (0 ≤ w23.toInt ∧ w23.toInt ≤ 8) ∧ (f1 (gr g h0 4) = .inl (gc g 1, 906, .inr (.inl q1))) ∧ (RowOK q1) ∧ (f1 (gr g h0 5) = .inl (gc g 1, 9060, .inr (.inl u1))) ∧ (f1 (gr g h0 7) = .inl (gc g 1, 1812, .inr (.inl im1))) ∧ (f1 (gr g h0 8) = .inl (gc g 3, 2, .inl ik1)) ∧ (UIq w10 u1 im1 ik1)) A) 0 0 A := by
  refine Met.ofW (cc := cX12_back) (maxL := 3) (ret := (some .int)) (by decide) rfl ?_
  intro p e s m args below meth c s₁ B hml hv
  obtain ⟨rfl, hI, hK, hE⟩ := hv
  have hx := B.exec
  have hb := B.bytes
  have hr := B.returns
  have hts := atoms_spec (ws := wq_c_X12_back) B.pre
  have hown : s.vm.findClass RX12 = some m.cls := findClass_of_methodNamed B.named
  have hlocks := B.notSynchronized
  have hS : va_S A s.heap s.heap [] := va_S.rf
  have hk0 : Kp g [12, 30, 32] f f := Kp.rf
  have hl := lv_entry ([.ref h0, .int p1]) (n := 3) (Nat.le_of_ble_eq_true rfl)
  rw [lg_entry_eq]
  generalize (lg_sl ([.ref h0, .int p1]) ++ List.replicate (3 - (lg_sl ([.ref h0, .int p1])).length) Slot.unset).toArray = ls at hl ⊢
  have hl : lv_has ls 3 [(0, .ref h0), (1, .int p1)] := hl
  have i_1 := kw_12_4 hG i_h0
  have d_2 := rk_hd hc1_ok
  have i_3 := kw_12_5 hG i_h0
  have i_4 := kw_12_7 hG i_h0
  have i_5 := kw_12_8 hG i_h0
  refine lv_aload_n hx hb dX12_back_0 rfl (lv_at hl 0 rfl) ?_
  refine lv_iconst (v := 0) hx hb dX12_back_1 (by decide) ?_
  refine k_put (ci := 12) (v := .int 0) (ty := .int) (C := RX12) (T := TX12) (N := 27) hx hb hts (fun _ h0_ => List.mem_cons_of_mem _ (List.mem_append_right _ (List.mem_append_left _ h0_))) tyX12 tyX12_ok nmX12 hown hK hI hS i_h0.1 hc0 rfl 0 (by decide) (hts (.fieldLink RX12 67 "DeadlineShareModel" "thrown" "I") (List.mem_cons_of_mem _ (List.mem_append_left _ (List.mem_of_getElem? (i := 0) rfl)))) (fun _ h9 => h9) rfl (by decide +kernel) rfl rfl (Nat.le_of_ble_eq_true rfl) rfl (cl_12 i_h0 (by omega) (by omega) (by omega)) dX12_back_2 (fun f_6 H locs e_7 hI hS => ?_)
  have k_9 : f_6 h0 = .inr (12, [.int 0, .int z1, .ref (gr g h0 2), .ref (gr g h0 3), .ref (gr g h0 4), .ref (gr g h0 5), .ref (gr g h0 6), .ref (gr g h0 7), .ref (gr g h0 8), .ref (gr g h0 9), .int z10, .ref (gr g h0 11), .int z12, .int z13, .int z14, .int z15, .long z16, .int z17, .int z18, .ref (gr g h0 19), .ref (gr g h0 20), .ref (gr g h0 21), .ref (gr g h0 22), .int z23, .long z24, .long z25, .long z26]) := by rw [e_7]; exact va_up_self _ _ _
  have k_10 : f_6 (gr g h0 4) = .inl (gc g 1, 906, .inr (.inl q)) := by rw [e_7, va_up_ne _ _ (ik_ne i_1 i_h0 (by decide))]; exact hc1
  have k_11 : f_6 (gr g h0 5) = .inl (gc g 1, 9060, .inr (.inl u)) := by rw [e_7, va_up_ne _ _ (ik_ne i_3 i_h0 (by decide))]; exact hc2
  have k_12 : f_6 (gr g h0 7) = .inl (gc g 1, 1812, .inr (.inl im)) := by rw [e_7, va_up_ne _ _ (ik_ne i_4 i_h0 (by decide))]; exact hc3
  have k_13 : f_6 (gr g h0 8) = .inl (gc g 3, 2, .inl kt) := by rw [e_7, va_up_ne _ _ (ik_ne i_5 i_h0 (by decide))]; exact hc4
  have kp_8 := Kp.put hk0 i_h0 (by decide) e_7
  refine lv_iload_n hx hb dX12_back_5 rfl (lv_at hl 1 rfl) ?_
  refine lv_i2l (v := p1.toInt64) hx hb dX12_back_6 rfl ?_
  have t_14 := Int32.toInt_toInt64 p1
  have g_15 := Int32.toInt_lt p1
  have g_16 := Int32.le_toInt p1
  refine lv_lconst (v := 0) hx hb dX12_back_7 (by decide) ?_
  refine lv_lconst (v := 1) hx hb dX12_back_8 (by decide) ?_
  refine va_calli (va_runS (As := [.long p1.toInt64, .long 0, .long 1]) (rest := []) ⟨hx, hb, hml, hown, hts⟩ (c_X12_in l dC dI g A hG f_6 p1.toInt64 0 1) (va_cwS 3 hts (gi_S (fun w_ h0_ => ⟨List.mem_cons_of_mem _ (List.mem_append_right _ (List.mem_append_right _ (List.mem_append_left _ h0_))), (tb_c_X12_in w_ h0_).2⟩) (List.mem_cons_of_mem _ (List.mem_append_left _ (List.mem_of_getElem? (i := 1) rfl))) (List.mem_cons_of_mem _ (List.mem_append_left _ (List.mem_of_getElem? (i := 2) rfl))) (List.mem_cons_of_mem _ (List.mem_append_left _ (List.mem_of_getElem? (i := 3) rfl)))) rfl rfl rfl (by decide +kernel) ⟨Nat.le_of_ble_eq_true rfl, Nat.le_of_ble_eq_true rfl⟩) ⟨fun a U g mk q => ⟨q.1, q.2.calling rfl rfl⟩, fun U hU hW => ⟨rfl, kIn.of hI hK hE hS hU hW⟩⟩ rfl rfl hl.1 rfl (lv_room (Nat.le_of_ble_eq_true rfl)) dX12_back_9 ⟨Nat.le_of_ble_eq_true rfl, Nat.le_of_ble_eq_true rfl⟩) hS (fun q _ h => h) (fun q h => h) (fun r_18 u9 t H1 locs ht hvm w_17 hB hz1 hk1 hS => ?_)
  have hI : Iv dC dI g A f_6 t.heap := hB
  rw [ht] at hI
  generalize H1 = H at hI hS ⊢
  refine W.widen (k := 0) (n := 0) (Nat.le_of_ble_eq_true rfl) (Nat.le_of_ble_eq_true rfl) ?_
  have w_17 : (r_18.toInt = 0 ∧ (p1.toInt64.toInt < (0 : Int64).toInt ∨ (1 : Int64).toInt < p1.toInt64.toInt)) ∨ (r_18.toInt = 1 ∧ (0 : Int64).toInt ≤ p1.toInt64.toInt ∧ p1.toInt64.toInt ≤ (1 : Int64).toInt) := w_17
  have g_19 : Int64.toInt (0) = 0 := by decide
  have g_20 : Int64.toInt (1) = 1 := by decide
  refine lv_if_ne (tgt := 21) hx hb dX12_back_12 (by decide) (fun c_21 => ?_) (fun c_21 => ?_)
  · have c_21 := kn_eq rfl (by decide : Int32.toInt 0 = 0) c_21
    obtain ⟨m_22, em_22, tm_22⟩ := k_nat (x := p1) (by omega)
    refine lv_aload_n hx hb dX12_back_21 rfl (lv_at hl 0 rfl) ?_
    refine k_get (ci := 12) (v := .ref (gr g h0 8)) (C := RX12) (T := TX12) (N := 27) hx hb hts (fun _ h0_ => List.mem_cons_of_mem _ (List.mem_append_right _ (List.mem_append_left _ h0_))) hown hK hI i_h0.1 k_9 rfl 8 (by decide) (hts (.fieldLink RX12 29 "DeadlineShareModel" "isKept" "[Z") (List.mem_cons_of_mem _ (List.mem_append_left _ (List.mem_of_getElem? (i := 4) rfl)))) (fun _ h9 => h9) rfl dX12_back_22 ?_
    refine lv_iload_n hx hb dX12_back_25 rfl (lv_at hl 1 rfl) ?_
    refine k_topi (y := nI m_22) em_22 ?_
    refine k_zald hx hb hK hI i_5.1 3 k_13 rfl (vp_in_nI (by omega) (by omega)) dX12_back_26 ?_
    refine k_topi (y := kt m_22) (congrArg kt (nI_clamp (by omega))) ?_
    refine lv_if_ne (tgt := 37) hx hb dX12_back_27 (by decide) (fun c_25 => ?_) (fun c_25 => ?_)
    · have c_25 := kn_eq rfl (by decide : Int32.toInt 0 = 0) c_25
      refine lv_iconst (v := 0) hx hb dX12_back_37 (by decide) ?_
      refine lv_istore_n (lv' := [(2, .int 0), (0, .ref h0), (1, .int p1)]) hx hb dX12_back_38 rfl hl (by decide) rfl (fun ls hl => ?_)
      have K_39 : ∀ (nn : Nat) (y_26 : Nat) (q_28 : Nat → Int64) (f_27 : Nat → va_E) (H : Heap) (locs : List Loc) (ls : Array Slot), 906 - y_26 < nn → Iv dC dI g A f_27 H → va_S A s.heap H locs → f_27 (gr g h0 4) = .inl (gc g 1, 906, .inr (.inl q_28)) → f_27 h0 = .inr (12, [.int 0, .int z1, .ref (gr g h0 2), .ref (gr g h0 3), .ref (gr g h0 4), .ref (gr g h0 5), .ref (gr g h0 6), .ref (gr g h0 7), .ref (gr g h0 8), .ref (gr g h0 9), .int z10, .ref (gr g h0 11), .int z12, .int z13, .int z14, .int z15, .long z16, .int z17, .int z18, .ref (gr g h0 19), .ref (gr g h0 20), .ref (gr g h0 21), .ref (gr g h0 22), .int z23, .long z24, .long z25, .long z26]) → f_27 (gr g h0 5) = .inl (gc g 1, 9060, .inr (.inl u)) → f_27 (gr g h0 7) = .inl (gc g 1, 1812, .inr (.inl im)) → f_27 (gr g h0 8) = .inl (gc g 3, 2, .inl kt) → Kp g [12, 30, 32] f f_27 → (y_26 ≤ 906) → (∀ j : Nat, j < y_26 → q_28 j = im (906 * m_22 + j)) → lv_has ls 3 [(2, .int (nI y_26)), (0, .ref h0), (1, .int p1)] → W p l e (headSpec wq_c_X12_back ({ frames := 1, cells := 0, slots := 0, locals := 25 } : Room)).room s m ([.ref h0, .int p1].toArray) below meth c H locs 0 0 (MQ below (va_Qi (fun (r : Int32) (_ : Unit) => True) (fun (_ : Unit) t => ∃ f1 : Nat → va_E, Iv dC dI g A f1 t.heap ∧ Kp g [12, 30, 32] f f1 ∧ ∃ (w0 : Int32) (w1 : Int32) (w10 : Int32) (w12 : Int32) (w13 : Int32) (w14 : Int32) (w15 : Int32) (w16 : Int64) (w17 : Int32) (w18 : Int32) (w23 : Int32) (w24 : Int64) (w25 : Int64) (w26 : Int64) (q1 : Nat → Int64) (u1 : Nat → Int64) (im1 : Nat → Int64) (ik1 : Nat → Int32), (f1 h0 = .inr (12, [.int w0, .int w1, .ref (gr g h0 2), .ref (gr g h0 3), .ref (gr g h0 4), .ref (gr g h0 5), .ref (gr g h0 6), .ref (gr g h0 7), .ref (gr g h0 8), .ref (gr g h0 9), .int w10, .ref (gr g h0 11), .int w12, .int w13, .int w14, .int w15, .long w16, .int w17, .int w18, .ref (gr g h0 19), .ref (gr g h0 20), .ref (gr g h0 21), .ref (gr g h0 22), .int w23, .long w24, .long w25, .long w26])) ∧ (0 ≤ w10.toInt ∧ w10.toInt ≤ 10) ∧ (0 ≤ w12.toInt ∧ w12.toInt ≤ 200) ∧ (0 ≤ w23.toInt ∧ w23.toInt ≤ 8) ∧ (f1 (gr g h0 4) = .inl (gc g 1, 906, .inr (.inl q1))) ∧ (RowOK q1) ∧ (f1 (gr g h0 5) = .inl (gc g 1, 9060, .inr (.inl u1))) ∧ (f1 (gr g h0 7) = .inl (gc g 1, 1812, .inr (.inl im1))) ∧ (f1 (gr g h0 8) = .inl (gc g 3, 2, .inl ik1)) ∧ (UIq w10 u1 im1 ik1)) A) ([.ref h0, .int p1].toArray) s 0 0 A) (F0 m 39 ls []) := by
        intro nn
        induction nn with
        | zero => intro y_26 q_28 f_27 H locs ls m_37; exact absurd m_37 (Nat.not_lt_zero _)
        | succ nn ih =>
          intro y_26 q_28 f_27 H locs ls m_37 hI hS k_29 k_30 k_31 k_32 k_33 kp_34 t_35 t_36 hl
          refine lv_iload_n hx hb dX12_back_39 rfl (lv_at hl 0 rfl) ?_
          refine lv_sipush (v := 906) hx hb dX12_back_40 (by decide) ?_
          refine lv_icmp_ge (tgt := 70) hx hb dX12_back_43 (by decide) (fun c_38 => ?_) (fun c_38 => ?_)
          · have c_38 := kc_le (by decide : Int32.toInt 906 = 906) (nI_toInt (n := y_26) (by omega)) c_38
            have ok_39 : RowOK q_28 := rk_congr (hU.2 m_22 (by omega) (by omega)) (fun i9 h9 => t_36 i9 (by omega))
            have d_40 := rk_hd ok_39
            refine lv_aload_n hx hb dX12_back_70 rfl (lv_at hl 1 rfl) ?_
            refine lv_iconst (v := 0) hx hb dX12_back_71 (by decide) ?_
            have b_41 : 0 ≤ Int32.toInt 0 ∧ Int32.toInt 0 ≤ 10 := (by decide)
            refine k_put (ci := 12) (v := .int 0) (ty := .int) (C := RX12) (T := TX12) (N := 27) hx hb hts (fun _ h0_ => List.mem_cons_of_mem _ (List.mem_append_right _ (List.mem_append_left _ h0_))) tyX12 tyX12_ok nmX12 hown hK hI hS i_h0.1 k_30 rfl 10 (by decide) (hts (.fieldLink RX12 73 "DeadlineShareModel" "nUndo" "I") (List.mem_cons_of_mem _ (List.mem_append_left _ (List.mem_of_getElem? (i := 5) rfl)))) (fun _ h9 => h9) rfl (by decide +kernel) rfl rfl (Nat.le_of_ble_eq_true rfl) rfl (cl_12 i_h0 b_41 (by omega) (by omega)) dX12_back_72 (fun f_42 H locs e_43 hI hS => ?_)
            have k_45 : f_42 (gr g h0 4) = .inl (gc g 1, 906, .inr (.inl q_28)) := by rw [e_43, va_up_ne _ _ (ik_ne i_1 i_h0 (by decide))]; exact k_29
            have k_46 : f_42 h0 = .inr (12, [.int 0, .int z1, .ref (gr g h0 2), .ref (gr g h0 3), .ref (gr g h0 4), .ref (gr g h0 5), .ref (gr g h0 6), .ref (gr g h0 7), .ref (gr g h0 8), .ref (gr g h0 9), .int 0, .ref (gr g h0 11), .int z12, .int z13, .int z14, .int z15, .long z16, .int z17, .int z18, .ref (gr g h0 19), .ref (gr g h0 20), .ref (gr g h0 21), .ref (gr g h0 22), .int z23, .long z24, .long z25, .long z26]) := by rw [e_43]; exact va_up_self _ _ _
            have k_47 : f_42 (gr g h0 5) = .inl (gc g 1, 9060, .inr (.inl u)) := by rw [e_43, va_up_ne _ _ (ik_ne i_3 i_h0 (by decide))]; exact k_31
            have k_48 : f_42 (gr g h0 7) = .inl (gc g 1, 1812, .inr (.inl im)) := by rw [e_43, va_up_ne _ _ (ik_ne i_4 i_h0 (by decide))]; exact k_32
            have k_49 : f_42 (gr g h0 8) = .inl (gc g 3, 2, .inl kt) := by rw [e_43, va_up_ne _ _ (ik_ne i_5 i_h0 (by decide))]; exact k_33
            have kp_44 := Kp.put kp_34 i_h0 (by decide) e_43
            refine lv_aload_n hx hb dX12_back_75 rfl (lv_at hl 1 rfl) ?_
            refine lv_aload_n hx hb dX12_back_76 rfl (lv_at hl 1 rfl) ?_
            refine k_get (ci := 12) (v := .ref (gr g h0 4)) (C := RX12) (T := TX12) (N := 27) hx hb hts (fun _ h0_ => List.mem_cons_of_mem _ (List.mem_append_right _ (List.mem_append_left _ h0_))) hown hK hI i_h0.1 k_46 rfl 4 (by decide) (hts (.fieldLink RX12 16 "DeadlineShareModel" "row" "[J") (List.mem_cons_of_mem _ (List.mem_append_left _ (List.mem_of_getElem? (i := 6) rfl)))) (fun _ h9 => h9) rfl dX12_back_77 ?_
            refine lv_iconst (v := 1) hx hb dX12_back_80 (by decide) ?_
            refine k_lald hx hb hK hI i_1.1 1 k_45 rfl (by unfold vp_in; decide) dX12_back_81 ?_
            refine k_topl (y := q_28 1) (congrArg q_28 (show Int32.toNatClampNeg 1 = 1 by decide)) ?_
            refine lv_l2i (v := (q_28 1).toInt32) hx hb dX12_back_82 rfl ?_
            refine lv_topi (fun v_52 ev_52 => ?_)
            have tv_52 := k_l2i (q_28 1)
            rw [← ev_52] at tv_52
            refine va_calli (va_runV (As := [.int v_52]) (rest := []) ⟨hx, hb, hml, hown, hts⟩ (c_X12_tell l dC dI g A hG f_42 h0 v_52 0 z1 0 z12 z13 z14 z15 z16 z17 z18 z23 z24 z25 z26 i_h0 k_46 (by decide) (by first | omega | (simp only [k_c0]; omega)) (by first | omega | (simp only [k_c0]; omega))) (cwV 1 hts (gi_V (fun w_ h0_ => ⟨List.mem_cons_of_mem _ (List.mem_append_right _ (List.mem_append_right _ (List.mem_append_right _ (List.mem_append_left _ h0_)))), (tb_c_X12_tell w_ h0_).2⟩) (List.mem_cons_of_mem _ (List.mem_append_left _ (List.mem_of_getElem? (i := 7) rfl))) (List.mem_cons_of_mem _ (List.mem_append_left _ (List.mem_of_getElem? (i := 8) rfl))) (List.mem_cons_of_mem _ (List.mem_append_left _ (List.mem_of_getElem? (i := 9) rfl))) (List.mem_cons_of_mem _ (List.mem_append_left _ (List.mem_of_getElem? (i := 3) rfl)))) rfl rfl rfl (by decide +kernel) ⟨Nat.le_of_ble_eq_true rfl, Nat.le_of_ble_eq_true rfl⟩) ⟨fun a U g mk q => ⟨q.1, q.2.calling rfl rfl⟩, k_recv hK hI i_h0.1 k_46 (ci := 12) rfl, fun U hU hW => ⟨rfl, kIn.of hI hK hE hS hU hW⟩⟩ rfl rfl hl.1 rfl (lv_room (Nat.le_of_ble_eq_true rfl)) dX12_back_83 ⟨Nat.le_of_ble_eq_true rfl, Nat.le_of_ble_eq_true rfl⟩) hS (fun q _ h => h) (fun q h => h) (fun r_55 u9 t H1 locs ht hvm w_54 hB hz1 hk1 hS => ?_)
            obtain ⟨f_53, hI, kc_56, k_57⟩ := hB
            rw [ht] at hI
            have k_58 : f_53 (gr g h0 4) = .inl (gc g 1, 906, .inr (.inl q_28)) := Kp.at kc_56 i_1 (by decide) k_45
            have k_59 : f_53 (gr g h0 5) = .inl (gc g 1, 9060, .inr (.inl u)) := Kp.at kc_56 i_3 (by decide) k_47
            have k_60 : f_53 (gr g h0 7) = .inl (gc g 1, 1812, .inr (.inl im)) := Kp.at kc_56 i_4 (by decide) k_48
            have k_61 : f_53 (gr g h0 8) = .inl (gc g 3, 2, .inl kt) := Kp.at kc_56 i_5 (by decide) k_49
            have k_57 : f_53 h0 = .inr (12, [.int (0 : Int32), .int 0, .ref (gr g h0 2), .ref (gr g h0 3), .ref (gr g h0 4), .ref (gr g h0 5), .ref (gr g h0 6), .ref (gr g h0 7), .ref (gr g h0 8), .ref (gr g h0 9), .int (0 : Int32), .ref (gr g h0 11), .int z12, .int z13, .int z14, .int z15, .long z16, .int z17, .int z18, .ref (gr g h0 19), .ref (gr g h0 20), .ref (gr g h0 21), .ref (gr g h0 22), .int z23, .long z24, .long z25, .long z26]) := k_57
            have kp_62 := Kp.call kp_44 kc_56 (by decide)
            generalize H1 = H at hI hS ⊢
            refine W.widen (k := 0) (n := 0) (Nat.le_of_ble_eq_true rfl) (Nat.le_of_ble_eq_true rfl) ?_
            have w_54 : r_55.toInt = v_52.toInt := w_54
            exact W.iret (v := r_55) hx hb hr (fun t ht hW => ⟨⟨r_55, (), rfl, trivial, ⟨f_53, k_ret ht hI, kp_62, (0 : Int32), 0, (0 : Int32), z12, z13, z14, z15, z16, z17, z18, z23, z24, z25, z26, q_28, u, im, kt, k_57, (by first | omega | decide), (by first | omega | decide), (by first | omega | decide), k_58, ok_39, k_59, k_60, k_61, (ui_less hU (by simp only [k_c0]; omega))⟩⟩, hS.F ht⟩) hS.2.2 dX12_back_86
          · have c_38 := kn_le (by decide : Int32.toInt 906 = 906) (nI_toInt (n := y_26) (by omega)) c_38
            refine lv_aload_n hx hb dX12_back_46 rfl (lv_at hl 1 rfl) ?_
            refine k_get (ci := 12) (v := .ref (gr g h0 4)) (C := RX12) (T := TX12) (N := 27) hx hb hts (fun _ h0_ => List.mem_cons_of_mem _ (List.mem_append_right _ (List.mem_append_left _ h0_))) hown hK hI i_h0.1 k_30 rfl 4 (by decide) (hts (.fieldLink RX12 16 "DeadlineShareModel" "row" "[J") (List.mem_cons_of_mem _ (List.mem_append_left _ (List.mem_of_getElem? (i := 6) rfl)))) (fun _ h9 => h9) rfl dX12_back_47 ?_
            refine lv_iload_n hx hb dX12_back_50 rfl (lv_at hl 0 rfl) ?_
            refine lv_aload_n hx hb dX12_back_51 rfl (lv_at hl 1 rfl) ?_
            refine k_get (ci := 12) (v := .ref (gr g h0 7)) (C := RX12) (T := TX12) (N := 27) hx hb hts (fun _ h0_ => List.mem_cons_of_mem _ (List.mem_append_right _ (List.mem_append_left _ h0_))) hown hK hI i_h0.1 k_30 rfl 7 (by decide) (hts (.fieldLink RX12 26 "DeadlineShareModel" "images" "[J") (List.mem_cons_of_mem _ (List.mem_append_left _ (List.mem_of_getElem? (i := 10) rfl)))) (fun _ h9 => h9) rfl dX12_back_52 ?_
            refine lv_sipush (v := 906) hx hb dX12_back_55 (by decide) ?_
            refine lv_iload_n hx hb dX12_back_58 rfl (lv_at hl 2 rfl) ?_
            refine k_topi (y := nI m_22) em_22 ?_
            refine lv_imul hx hb dX12_back_59 ?_
            refine k_topi (y := nI (906 * m_22)) ((pk_mul 906 m_22).trans (congrArg nI (by omega))) ?_
            refine lv_iload_n hx hb dX12_back_60 rfl (lv_at hl 0 rfl) ?_
            refine lv_iadd hx hb dX12_back_61 ?_
            refine k_topi (y := nI (906 * m_22 + y_26)) ((nI_add (906 * m_22) y_26).trans (congrArg nI (by omega))) ?_
            refine k_lald hx hb hK hI i_4.1 1 k_32 rfl (vp_in_nI (by omega) (by omega)) dX12_back_62 ?_
            refine k_topl (y := im (906 * m_22 + y_26)) (congrArg im (nI_clamp (by omega))) ?_
            refine k_last hx hb hK hI hS i_1.1 1 k_29 rfl (vp_in_nI (by omega) (by omega)) (cl_32 i_1) dX12_back_63 (fun f_67 H locs e_68 hI hS => ?_)
            generalize eq_69 : vp_updL q_28 (Int32.toNatClampNeg (nI y_26)) (im (906 * m_22 + y_26)) = q_69 at e_68
            have k_71 : f_67 (gr g h0 4) = .inl (gc g 1, 906, .inr (.inl q_69)) := by rw [e_68]; exact va_up_self _ _ _
            have k_72 : f_67 h0 = .inr (12, [.int 0, .int z1, .ref (gr g h0 2), .ref (gr g h0 3), .ref (gr g h0 4), .ref (gr g h0 5), .ref (gr g h0 6), .ref (gr g h0 7), .ref (gr g h0 8), .ref (gr g h0 9), .int z10, .ref (gr g h0 11), .int z12, .int z13, .int z14, .int z15, .long z16, .int z17, .int z18, .ref (gr g h0 19), .ref (gr g h0 20), .ref (gr g h0 21), .ref (gr g h0 22), .int z23, .long z24, .long z25, .long z26]) := by rw [e_68, va_up_ne _ _ (ik_ne i_h0 i_1 (by decide))]; exact k_30
            have k_73 : f_67 (gr g h0 5) = .inl (gc g 1, 9060, .inr (.inl u)) := by rw [e_68, va_up_ne _ _ (ik_ne i_3 i_1 (by decide))]; exact k_31
            have k_74 : f_67 (gr g h0 7) = .inl (gc g 1, 1812, .inr (.inl im)) := by rw [e_68, va_up_ne _ _ (ik_ne i_4 i_1 (by decide))]; exact k_32
            have k_75 : f_67 (gr g h0 8) = .inl (gc g 3, 2, .inl kt) := by rw [e_68, va_up_ne _ _ (ik_ne i_5 i_1 (by decide))]; exact k_33
            have kp_70 := Kp.put kp_34 i_1 (by decide) e_68
            have u_76 : vp_updL q_28 y_26 (im (906 * m_22 + y_26)) = q_69 := by rw [← eq_69, show Int32.toNatClampNeg (nI y_26) = y_26 from (nI_clamp (by omega))]
            refine lv_iinc (v := nI (y_26 + 1)) (lv' := [(2, .int (nI (y_26 + 1))), (0, .ref h0), (1, .int p1)]) hx hb dX12_back_64 hl (k := 0) rfl (nI_1 _) (by decide) rfl (fun ls hl => ?_)
            refine lv_goto (tgt := 39) hx hb dX12_back_67 (by decide) ?_
            exact ih (y_26 + 1) q_69 f_67 _ _ _ (by omega) hI hS k_71 k_72 k_73 k_74 k_75 kp_70 (by first | omega | decide | exact Or.inl (by decide)) (fun j9 h9 => by rw [← u_76]; exact if h8 : j9 = y_26 then (by subst h8; exact pk_uLs) else (by rw [pk_uLn (by omega)]; exact t_36 j9 (by omega))) (lv_sub hl [0, 1, 2] rfl)
      exact K_39 _ 0 q f_6 _ _ _ (Nat.lt_succ_self _) hI hS k_10 k_9 k_11 k_12 k_13 kp_8 (by first | omega | decide | exact Or.inl (by decide)) (fun j9 h9 => absurd h9 (Nat.not_lt_zero j9)) (lv_sub hl [0, 1, 2] rfl)
    · have c_25 := kc_eq rfl (by decide : Int32.toInt 0 = 0) c_25
      refine lv_aload_n hx hb dX12_back_30 rfl (lv_at hl 0 rfl) ?_
      refine lv_bipush (v := (-4)) hx hb dX12_back_31 (by decide) ?_
      refine va_calli (va_runV (As := [.int (-4)]) (rest := []) ⟨hx, hb, hml, hown, hts⟩ (c_X12_refuse l dC dI g A hG f_6 h0 (-4) 0 z1 z10 z12 z13 z14 z15 z16 z17 z18 z23 z24 z25 z26 i_h0 k_9 (by first | omega | (simp only [k_c0]; omega)) (by first | omega | (simp only [k_c0]; omega)) (by first | omega | (simp only [k_c0]; omega)) (by first | omega | decide | (simp only [show Int32.toInt (-4) = (-4) from by decide] <;> omega))) (cwV 1 hts (gi_V (fun w_ h0_ => ⟨List.mem_cons_of_mem _ (List.mem_append_right _ (List.mem_append_right _ (List.mem_append_right _ (List.mem_append_right _ (List.mem_append_left _ h0_))))), (tb_c_X12_refuse w_ h0_).2⟩) (List.mem_cons_of_mem _ (List.mem_append_left _ (List.mem_of_getElem? (i := 11) rfl))) (List.mem_cons_of_mem _ (List.mem_append_left _ (List.mem_of_getElem? (i := 12) rfl))) (List.mem_cons_of_mem _ (List.mem_append_left _ (List.mem_of_getElem? (i := 13) rfl))) (List.mem_cons_of_mem _ (List.mem_append_left _ (List.mem_of_getElem? (i := 3) rfl)))) rfl rfl rfl (by decide +kernel) ⟨Nat.le_of_ble_eq_true rfl, Nat.le_of_ble_eq_true rfl⟩) ⟨fun a U g mk q => ⟨q.1, q.2.calling rfl rfl⟩, k_recv hK hI i_h0.1 k_9 (ci := 12) rfl, fun U hU hW => ⟨rfl, kIn.of hI hK hE hS hU hW⟩⟩ rfl rfl hl.1 rfl (lv_room (Nat.le_of_ble_eq_true rfl)) dX12_back_33 ⟨Nat.le_of_ble_eq_true rfl, Nat.le_of_ble_eq_true rfl⟩) hS (fun q _ h => h) (fun q h => h) (fun r_79 u9 t H1 locs ht hvm w_78 hB hz1 hk1 hS => ?_)
      obtain ⟨f_77, hI, kc_80, k_81⟩ := hB
      rw [ht] at hI
      have k_82 : f_77 (gr g h0 4) = .inl (gc g 1, 906, .inr (.inl q)) := Kp.at kc_80 i_1 (by decide) k_10
      have k_83 : f_77 (gr g h0 5) = .inl (gc g 1, 9060, .inr (.inl u)) := Kp.at kc_80 i_3 (by decide) k_11
      have k_84 : f_77 (gr g h0 7) = .inl (gc g 1, 1812, .inr (.inl im)) := Kp.at kc_80 i_4 (by decide) k_12
      have k_85 : f_77 (gr g h0 8) = .inl (gc g 3, 2, .inl kt) := Kp.at kc_80 i_5 (by decide) k_13
      have k_81 : f_77 h0 = .inr (12, [.int (0 : Int32), .int (-4 : Int32), .ref (gr g h0 2), .ref (gr g h0 3), .ref (gr g h0 4), .ref (gr g h0 5), .ref (gr g h0 6), .ref (gr g h0 7), .ref (gr g h0 8), .ref (gr g h0 9), .int z10, .ref (gr g h0 11), .int z12, .int z13, .int z14, .int z15, .long z16, .int z17, .int z18, .ref (gr g h0 19), .ref (gr g h0 20), .ref (gr g h0 21), .ref (gr g h0 22), .int z23, .long z24, .long z25, .long z26]) := k_81
      have kp_86 := Kp.call kp_8 kc_80 (by decide)
      generalize H1 = H at hI hS ⊢
      refine W.widen (k := 0) (n := 0) (Nat.le_of_ble_eq_true rfl) (Nat.le_of_ble_eq_true rfl) ?_
      have w_78 : r_79.toInt = (-4 : Int32).toInt := w_78
      have g_87 : Int32.toInt ((-4)) = (-4) := by decide
      exact W.iret (v := r_79) hx hb hr (fun t ht hW => ⟨⟨r_79, (), rfl, trivial, ⟨f_77, k_ret ht hI, kp_86, (0 : Int32), (-4 : Int32), z10, z12, z13, z14, z15, z16, z17, z18, z23, z24, z25, z26, q, u, im, kt, k_81, (by first | omega | decide), (by first | omega | decide), (by first | omega | decide), k_82, hc1_ok, k_83, k_84, k_85, hU⟩⟩, hS.F ht⟩) hS.2.2 dX12_back_36
  · have c_21 := kc_eq rfl (by decide : Int32.toInt 0 = 0) c_21
    refine lv_aload_n hx hb dX12_back_15 rfl (lv_at hl 0 rfl) ?_
    refine lv_iconst (v := (-1)) hx hb dX12_back_16 (by decide) ?_
    refine va_calli (va_runV (As := [.int (-1)]) (rest := []) ⟨hx, hb, hml, hown, hts⟩ (c_X12_refuse l dC dI g A hG f_6 h0 (-1) 0 z1 z10 z12 z13 z14 z15 z16 z17 z18 z23 z24 z25 z26 i_h0 k_9 (by first | omega | (simp only [k_c0]; omega)) (by first | omega | (simp only [k_c0]; omega)) (by first | omega | (simp only [k_c0]; omega)) (by first | omega | decide | (simp only [show Int32.toInt (-1) = (-1) from by decide] <;> omega))) (cwV 1 hts (gi_V (fun w_ h0_ => ⟨List.mem_cons_of_mem _ (List.mem_append_right _ (List.mem_append_right _ (List.mem_append_right _ (List.mem_append_right _ (List.mem_append_left _ h0_))))), (tb_c_X12_refuse w_ h0_).2⟩) (List.mem_cons_of_mem _ (List.mem_append_left _ (List.mem_of_getElem? (i := 11) rfl))) (List.mem_cons_of_mem _ (List.mem_append_left _ (List.mem_of_getElem? (i := 12) rfl))) (List.mem_cons_of_mem _ (List.mem_append_left _ (List.mem_of_getElem? (i := 13) rfl))) (List.mem_cons_of_mem _ (List.mem_append_left _ (List.mem_of_getElem? (i := 3) rfl)))) rfl rfl rfl (by decide +kernel) ⟨Nat.le_of_ble_eq_true rfl, Nat.le_of_ble_eq_true rfl⟩) ⟨fun a U g mk q => ⟨q.1, q.2.calling rfl rfl⟩, k_recv hK hI i_h0.1 k_9 (ci := 12) rfl, fun U hU hW => ⟨rfl, kIn.of hI hK hE hS hU hW⟩⟩ rfl rfl hl.1 rfl (lv_room (Nat.le_of_ble_eq_true rfl)) dX12_back_17 ⟨Nat.le_of_ble_eq_true rfl, Nat.le_of_ble_eq_true rfl⟩) hS (fun q _ h => h) (fun q h => h) (fun r_90 u9 t H1 locs ht hvm w_89 hB hz1 hk1 hS => ?_)
    obtain ⟨f_88, hI, kc_91, k_92⟩ := hB
    rw [ht] at hI
    have k_93 : f_88 (gr g h0 4) = .inl (gc g 1, 906, .inr (.inl q)) := Kp.at kc_91 i_1 (by decide) k_10
    have k_94 : f_88 (gr g h0 5) = .inl (gc g 1, 9060, .inr (.inl u)) := Kp.at kc_91 i_3 (by decide) k_11
    have k_95 : f_88 (gr g h0 7) = .inl (gc g 1, 1812, .inr (.inl im)) := Kp.at kc_91 i_4 (by decide) k_12
    have k_96 : f_88 (gr g h0 8) = .inl (gc g 3, 2, .inl kt) := Kp.at kc_91 i_5 (by decide) k_13
    have k_92 : f_88 h0 = .inr (12, [.int (0 : Int32), .int (-1 : Int32), .ref (gr g h0 2), .ref (gr g h0 3), .ref (gr g h0 4), .ref (gr g h0 5), .ref (gr g h0 6), .ref (gr g h0 7), .ref (gr g h0 8), .ref (gr g h0 9), .int z10, .ref (gr g h0 11), .int z12, .int z13, .int z14, .int z15, .long z16, .int z17, .int z18, .ref (gr g h0 19), .ref (gr g h0 20), .ref (gr g h0 21), .ref (gr g h0 22), .int z23, .long z24, .long z25, .long z26]) := k_92
    have kp_97 := Kp.call kp_8 kc_91 (by decide)
    generalize H1 = H at hI hS ⊢
    refine W.widen (k := 0) (n := 0) (Nat.le_of_ble_eq_true rfl) (Nat.le_of_ble_eq_true rfl) ?_
    have w_89 : r_90.toInt = (-1 : Int32).toInt := w_89
    have g_98 : Int32.toInt ((-1)) = (-1) := by decide
    exact W.iret (v := r_90) hx hb hr (fun t ht hW => ⟨⟨r_90, (), rfl, trivial, ⟨f_88, k_ret ht hI, kp_97, (0 : Int32), (-1 : Int32), z10, z12, z13, z14, z15, z16, z17, z18, z23, z24, z25, z26, q, u, im, kt, k_92, (by first | omega | decide), (by first | omega | decide), (by first | omega | decide), k_93, hc1_ok, k_94, k_95, k_96, hU⟩⟩, hS.F ht⟩) hS.2.2 dX12_back_20
theorem tw_1012 : q_g (.code yX12_undo cX12_undo 2 (some .int)) := ⟨(List.mem_append_right _ (List.mem_of_getElem? (i := 1182) (by decide +kernel))), good_of_word (by decide +kernel)⟩
def ow_c_X12_undo : List Cond := [.fieldLink RX12 67 "DeadlineShareModel" "thrown" "I", .fieldLink RX12 73 "DeadlineShareModel" "nUndo" "I", .fieldLink RX12 33 "DeadlineShareModel" "sorts" "[I", .methodLink RX12 80 yX12_tell, .instanceMethod yX12_tell, .selects RX12 yX12_tell yX12_tell, .initialized RX12, .fieldLink RX12 16 "DeadlineShareModel" "row" "[J", .fieldLink RX12 20 "DeadlineShareModel" "undos" "[J", .methodLink RX12 76 yX12_refuse, .instanceMethod yX12_refuse, .selects RX12 yX12_refuse yX12_refuse]
def wq_c_X12_undo : List Cond := .code yX12_undo cX12_undo 2 (some .int) :: (ow_c_X12_undo ++ (u_ws RX12 TX12 27 ++ (wq_c_X12_tell ++ (wq_c_X12_refuse ++ ([] : List Cond)))))
theorem tb_c_X12_undo : ∀ w ∈ wq_c_X12_undo, q_g w := by
  unfold wq_c_X12_undo ow_c_X12_undo
  exact q_cons tw_1012 (q_app (q_cons tw_927 (q_cons tw_901 (q_cons tw_900 (q_cons tw_960 (q_cons tw_959 (q_cons tw_958 (q_cons tw_728 (q_cons tw_731 (q_cons tw_899 (q_cons tw_966 (q_cons tw_965 (q_cons tw_964 q_nil)))))))))))) (q_app tu_X12 (q_app tb_c_X12_tell (q_app tb_c_X12_refuse q_nil))))
set_option maxHeartbeats 4000000 in
set_option maxRecDepth 100000 in
theorem c_X12_undo (l : Launch) (dC : Nat → ClassId) (dI : Nat → Nat → Nat) (g : kG) (A : Nat → Prop) (hG : kWf g) (f : Nat → va_E) (h0 : Nat) (z0 : Int32) (z1 : Int32) (z10 : Int32) (z12 : Int32) (z13 : Int32) (z14 : Int32) (z15 : Int32) (z16 : Int64) (z17 : Int32) (z18 : Int32) (z23 : Int32) (z24 : Int64) (z25 : Int64) (z26 : Int64) (q : Nat → Int64) (u : Nat → Int64) (im : Nat → Int64) (kt : Nat → Int32) (i_h0 : ik g 12 h0) (hc0 : f h0 = .inr (12, [.int z0, .int z1, .ref (gr g h0 2), .ref (gr g h0 3), .ref (gr g h0 4), .ref (gr g h0 5), .ref (gr g h0 6), .ref (gr g h0 7), .ref (gr g h0 8), .ref (gr g h0 9), .int z10, .ref (gr g h0 11), .int z12, .int z13, .int z14, .int z15, .long z16, .int z17, .int z18, .ref (gr g h0 19), .ref (gr g h0 20), .ref (gr g h0 21), .ref (gr g h0 22), .int z23, .long z24, .long z25, .long z26])) (hc0_10 : 0 ≤ z10.toInt ∧ z10.toInt ≤ 10) (hc0_12 : 0 ≤ z12.toInt ∧ z12.toInt ≤ 200) (hc0_23 : 0 ≤ z23.toInt ∧ z23.toInt ≤ 8) (hc1 : f (gr g h0 4) = .inl (gc g 1, 906, .inr (.inl q))) (hc1_ok : RowOK q) (hc2 : f (gr g h0 5) = .inl (gc g 1, 9060, .inr (.inl u))) (hc3 : f (gr g h0 7) = .inl (gc g 1, 1812, .inr (.inl im))) (hc4 : f (gr g h0 8) = .inl (gc g 3, 2, .inl kt)) (hU : UIq z10 u im kt) : Met l yX12_undo wq_c_X12_undo ({ frames := 1, cells := 0, slots := 0, locals := 21 } : Room) (va_Pc [.ref h0] (fun U => kIn dC dI g A f U)) (va_Qi (fun (r : Int32) (_ : Unit) => True) (fun (_ : Unit) t => ∃ f1 : Nat → va_E, Iv dC dI g A f1 t.heap ∧ Kp g [12, 30, 32] f f1 ∧ ∃ (w0 : Int32) (w1 : Int32) (w10 : Int32) (w12 : Int32) (w13 : Int32) (w14 : Int32) (w15 : Int32) (w16 : Int64) (w17 : Int32) (w18 : Int32) (w23 : Int32) (w24 : Int64) (w25 : Int64) (w26 : Int64) (q1 : Nat → Int64) (u1 : Nat → Int64) (im1 : Nat → Int64) (ik1 : Nat → Int32), (f1 h0 = .inr (12, [.int w0, .int w1, .ref (gr g h0 2), .ref (gr g h0 3), .ref (gr g h0 4), .ref (gr g h0 5), .ref (gr g h0 6), .ref (gr g h0 7), .ref (gr g h0 8), .ref (gr g h0 9), .int w10, .ref (gr g h0 11), .int w12, .int w13, .int w14, .int w15, .long w16, .int w17, .int w18, .ref (gr g h0 19), .ref (gr g h0 20), .ref (gr g h0 21), .ref (gr g h0 22), .int w23, .long w24, .long w25, .long w26])) ∧ (0 ≤ w10.toInt ∧ w10.toInt ≤ 10) ∧ (0 ≤ w12.toInt ∧ w12.toInt ≤ 200) ∧ (0 ≤ w23.toInt ∧ w23.toInt ≤ 8) ∧ (f1 (gr g h0 4) = .inl (gc g 1, 906, .inr (.inl q1))) ∧ (RowOK q1) ∧ (f1 (gr g h0 5) = .inl (gc g 1, 9060, .inr (.inl u1))) ∧ (f1 (gr g h0 7) = .inl (gc g 1, 1812, .inr (.inl im1))) ∧ (f1 (gr g h0 8) = .inl (gc g 3, 2, .inl ik1)) ∧ (UIq w10 u1 im1 ik1)) A) 0 0 A := by
  refine Met.ofW (cc := cX12_undo) (maxL := 2) (ret := (some .int)) (by decide) rfl ?_
  intro p e s m args below meth c s₁ B hml hv
  obtain ⟨rfl, hI, hK, hE⟩ := hv
  have hx := B.exec
  have hb := B.bytes
  have hr := B.returns
  have hts := atoms_spec (ws := wq_c_X12_undo) B.pre
  have hown : s.vm.findClass RX12 = some m.cls := findClass_of_methodNamed B.named
  have hlocks := B.notSynchronized
  have hS : va_S A s.heap s.heap [] := va_S.rf
  have hk0 : Kp g [12, 30, 32] f f := Kp.rf
  have hl := lv_entry ([.ref h0]) (n := 2) (Nat.le_of_ble_eq_true rfl)
  rw [lg_entry_eq]
  generalize (lg_sl ([.ref h0]) ++ List.replicate (2 - (lg_sl ([.ref h0])).length) Slot.unset).toArray = ls at hl ⊢
  have hl : lv_has ls 2 [(0, .ref h0)] := hl
  have i_1 := kw_12_4 hG i_h0
  have d_2 := rk_hd hc1_ok
  have i_3 := kw_12_5 hG i_h0
  have i_4 := kw_12_7 hG i_h0
  have i_5 := kw_12_8 hG i_h0
  refine lv_aload_n hx hb dX12_undo_0 rfl (lv_at hl 0 rfl) ?_
  refine lv_iconst (v := 0) hx hb dX12_undo_1 (by decide) ?_
  refine k_put (ci := 12) (v := .int 0) (ty := .int) (C := RX12) (T := TX12) (N := 27) hx hb hts (fun _ h0_ => List.mem_cons_of_mem _ (List.mem_append_right _ (List.mem_append_left _ h0_))) tyX12 tyX12_ok nmX12 hown hK hI hS i_h0.1 hc0 rfl 0 (by decide) (hts (.fieldLink RX12 67 "DeadlineShareModel" "thrown" "I") (List.mem_cons_of_mem _ (List.mem_append_left _ (List.mem_of_getElem? (i := 0) rfl)))) (fun _ h9 => h9) rfl (by decide +kernel) rfl rfl (Nat.le_of_ble_eq_true rfl) rfl (cl_12 i_h0 (by omega) (by omega) (by omega)) dX12_undo_2 (fun f_6 H locs e_7 hI hS => ?_)
  have k_9 : f_6 h0 = .inr (12, [.int 0, .int z1, .ref (gr g h0 2), .ref (gr g h0 3), .ref (gr g h0 4), .ref (gr g h0 5), .ref (gr g h0 6), .ref (gr g h0 7), .ref (gr g h0 8), .ref (gr g h0 9), .int z10, .ref (gr g h0 11), .int z12, .int z13, .int z14, .int z15, .long z16, .int z17, .int z18, .ref (gr g h0 19), .ref (gr g h0 20), .ref (gr g h0 21), .ref (gr g h0 22), .int z23, .long z24, .long z25, .long z26]) := by rw [e_7]; exact va_up_self _ _ _
  have k_10 : f_6 (gr g h0 4) = .inl (gc g 1, 906, .inr (.inl q)) := by rw [e_7, va_up_ne _ _ (ik_ne i_1 i_h0 (by decide))]; exact hc1
  have k_11 : f_6 (gr g h0 5) = .inl (gc g 1, 9060, .inr (.inl u)) := by rw [e_7, va_up_ne _ _ (ik_ne i_3 i_h0 (by decide))]; exact hc2
  have k_12 : f_6 (gr g h0 7) = .inl (gc g 1, 1812, .inr (.inl im)) := by rw [e_7, va_up_ne _ _ (ik_ne i_4 i_h0 (by decide))]; exact hc3
  have k_13 : f_6 (gr g h0 8) = .inl (gc g 3, 2, .inl kt) := by rw [e_7, va_up_ne _ _ (ik_ne i_5 i_h0 (by decide))]; exact hc4
  have kp_8 := Kp.put hk0 i_h0 (by decide) e_7
  refine lv_aload_n hx hb dX12_undo_5 rfl (lv_at hl 0 rfl) ?_
  refine k_get (ci := 12) (v := .int z10) (C := RX12) (T := TX12) (N := 27) hx hb hts (fun _ h0_ => List.mem_cons_of_mem _ (List.mem_append_right _ (List.mem_append_left _ h0_))) hown hK hI i_h0.1 k_9 rfl 10 (by decide) (hts (.fieldLink RX12 73 "DeadlineShareModel" "nUndo" "I") (List.mem_cons_of_mem _ (List.mem_append_left _ (List.mem_of_getElem? (i := 1) rfl)))) (fun _ h9 => h9) rfl dX12_undo_6 ?_
  refine lv_if_ne (tgt := 19) hx hb dX12_undo_9 (by decide) (fun c_14 => ?_) (fun c_14 => ?_)
  · have c_14 := kn_eq rfl (by decide : Int32.toInt 0 = 0) c_14
    refine lv_aload_n hx hb dX12_undo_19 rfl (lv_at hl 0 rfl) ?_
    refine lv_dup hx hb dX12_undo_20 rfl ?_
    refine k_get (ci := 12) (v := .int z10) (C := RX12) (T := TX12) (N := 27) hx hb hts (fun _ h0_ => List.mem_cons_of_mem _ (List.mem_append_right _ (List.mem_append_left _ h0_))) hown hK hI i_h0.1 k_9 rfl 10 (by decide) (hts (.fieldLink RX12 73 "DeadlineShareModel" "nUndo" "I") (List.mem_cons_of_mem _ (List.mem_append_left _ (List.mem_of_getElem? (i := 1) rfl)))) (fun _ h9 => h9) rfl dX12_undo_21 ?_
    refine lv_iconst (v := 1) hx hb dX12_undo_24 (by decide) ?_
    refine lv_isub hx hb dX12_undo_25 ?_
    refine lv_topi (fun v_15 ev_15 => ?_)
    have tv_15 := k_sb z10 1
    rw [← ev_15, show Int32.toInt 1 = 1 from by decide] at tv_15
    have b_16 : 0 ≤ Int32.toInt v_15 ∧ Int32.toInt v_15 ≤ 10 := by omega
    refine k_put (ci := 12) (v := .int v_15) (ty := .int) (C := RX12) (T := TX12) (N := 27) hx hb hts (fun _ h0_ => List.mem_cons_of_mem _ (List.mem_append_right _ (List.mem_append_left _ h0_))) tyX12 tyX12_ok nmX12 hown hK hI hS i_h0.1 k_9 rfl 10 (by decide) (hts (.fieldLink RX12 73 "DeadlineShareModel" "nUndo" "I") (List.mem_cons_of_mem _ (List.mem_append_left _ (List.mem_of_getElem? (i := 1) rfl)))) (fun _ h9 => h9) rfl (by decide +kernel) rfl rfl (Nat.le_of_ble_eq_true rfl) rfl (cl_12 i_h0 b_16 (by omega) (by omega)) dX12_undo_26 (fun f_17 H locs e_18 hI hS => ?_)
    have k_20 : f_17 h0 = .inr (12, [.int 0, .int z1, .ref (gr g h0 2), .ref (gr g h0 3), .ref (gr g h0 4), .ref (gr g h0 5), .ref (gr g h0 6), .ref (gr g h0 7), .ref (gr g h0 8), .ref (gr g h0 9), .int v_15, .ref (gr g h0 11), .int z12, .int z13, .int z14, .int z15, .long z16, .int z17, .int z18, .ref (gr g h0 19), .ref (gr g h0 20), .ref (gr g h0 21), .ref (gr g h0 22), .int z23, .long z24, .long z25, .long z26]) := by rw [e_18]; exact va_up_self _ _ _
    have k_21 : f_17 (gr g h0 4) = .inl (gc g 1, 906, .inr (.inl q)) := by rw [e_18, va_up_ne _ _ (ik_ne i_1 i_h0 (by decide))]; exact k_10
    have k_22 : f_17 (gr g h0 5) = .inl (gc g 1, 9060, .inr (.inl u)) := by rw [e_18, va_up_ne _ _ (ik_ne i_3 i_h0 (by decide))]; exact k_11
    have k_23 : f_17 (gr g h0 7) = .inl (gc g 1, 1812, .inr (.inl im)) := by rw [e_18, va_up_ne _ _ (ik_ne i_4 i_h0 (by decide))]; exact k_12
    have k_24 : f_17 (gr g h0 8) = .inl (gc g 3, 2, .inl kt) := by rw [e_18, va_up_ne _ _ (ik_ne i_5 i_h0 (by decide))]; exact k_13
    have kp_19 := Kp.put kp_8 i_h0 (by decide) e_18
    obtain ⟨m_25, em_25, tm_25⟩ := k_nat (x := v_15) (by omega)
    refine lv_iconst (v := 0) hx hb dX12_undo_29 (by decide) ?_
    refine lv_istore_n (lv' := [(1, .int 0), (0, .ref h0)]) hx hb dX12_undo_30 rfl hl (by decide) rfl (fun ls hl => ?_)
    have K_31 : ∀ (nn : Nat) (y_26 : Nat) (q_28 : Nat → Int64) (f_27 : Nat → va_E) (H : Heap) (locs : List Loc) (ls : Array Slot), 906 - y_26 < nn → Iv dC dI g A f_27 H → va_S A s.heap H locs → f_27 (gr g h0 4) = .inl (gc g 1, 906, .inr (.inl q_28)) → f_27 h0 = .inr (12, [.int 0, .int z1, .ref (gr g h0 2), .ref (gr g h0 3), .ref (gr g h0 4), .ref (gr g h0 5), .ref (gr g h0 6), .ref (gr g h0 7), .ref (gr g h0 8), .ref (gr g h0 9), .int v_15, .ref (gr g h0 11), .int z12, .int z13, .int z14, .int z15, .long z16, .int z17, .int z18, .ref (gr g h0 19), .ref (gr g h0 20), .ref (gr g h0 21), .ref (gr g h0 22), .int z23, .long z24, .long z25, .long z26]) → f_27 (gr g h0 5) = .inl (gc g 1, 9060, .inr (.inl u)) → f_27 (gr g h0 7) = .inl (gc g 1, 1812, .inr (.inl im)) → f_27 (gr g h0 8) = .inl (gc g 3, 2, .inl kt) → Kp g [12, 30, 32] f f_27 → (y_26 ≤ 906) → (∀ j : Nat, j < y_26 → q_28 j = u (906 * m_25 + j)) → lv_has ls 2 [(1, .int (nI y_26)), (0, .ref h0)] → W p l e (headSpec wq_c_X12_undo ({ frames := 1, cells := 0, slots := 0, locals := 21 } : Room)).room s m ([.ref h0].toArray) below meth c H locs 0 0 (MQ below (va_Qi (fun (r : Int32) (_ : Unit) => True) (fun (_ : Unit) t => ∃ f1 : Nat → va_E, Iv dC dI g A f1 t.heap ∧ Kp g [12, 30, 32] f f1 ∧ ∃ (w0 : Int32) (w1 : Int32) (w10 : Int32) (w12 : Int32) (w13 : Int32) (w14 : Int32) (w15 : Int32) (w16 : Int64) (w17 : Int32) (w18 : Int32) (w23 : Int32) (w24 : Int64) (w25 : Int64) (w26 : Int64) (q1 : Nat → Int64) (u1 : Nat → Int64) (im1 : Nat → Int64) (ik1 : Nat → Int32), (f1 h0 = .inr (12, [.int w0, .int w1, .ref (gr g h0 2), .ref (gr g h0 3), .ref (gr g h0 4), .ref (gr g h0 5), .ref (gr g h0 6), .ref (gr g h0 7), .ref (gr g h0 8), .ref (gr g h0 9), .int w10, .ref (gr g h0 11), .int w12, .int w13, .int w14, .int w15, .long w16, .int w17, .int w18, .ref (gr g h0 19), .ref (gr g h0 20), .ref (gr g h0 21), .ref (gr g h0 22), .int w23, .long w24, .long w25, .long w26])) ∧ (0 ≤ w10.toInt ∧ w10.toInt ≤ 10) ∧ (0 ≤ w12.toInt ∧ w12.toInt ≤ 200) ∧ (0 ≤ w23.toInt ∧ w23.toInt ≤ 8) ∧ (f1 (gr g h0 4) = .inl (gc g 1, 906, .inr (.inl q1))) ∧ (RowOK q1) ∧ (f1 (gr g h0 5) = .inl (gc g 1, 9060, .inr (.inl u1))) ∧ (f1 (gr g h0 7) = .inl (gc g 1, 1812, .inr (.inl im1))) ∧ (f1 (gr g h0 8) = .inl (gc g 3, 2, .inl ik1)) ∧ (UIq w10 u1 im1 ik1)) A) ([.ref h0].toArray) s 0 0 A) (F0 m 31 ls []) := by
      intro nn
      induction nn with
      | zero => intro y_26 q_28 f_27 H locs ls m_37; exact absurd m_37 (Nat.not_lt_zero _)
      | succ nn ih =>
        intro y_26 q_28 f_27 H locs ls m_37 hI hS k_29 k_30 k_31 k_32 k_33 kp_34 t_35 t_36 hl
        refine lv_iload_n hx hb dX12_undo_31 rfl (lv_at hl 0 rfl) ?_
        refine lv_sipush (v := 906) hx hb dX12_undo_32 (by decide) ?_
        refine lv_icmp_ge (tgt := 65) hx hb dX12_undo_35 (by decide) (fun c_38 => ?_) (fun c_38 => ?_)
        · have c_38 := kc_le (by decide : Int32.toInt 906 = 906) (nI_toInt (n := y_26) (by omega)) c_38
          have ok_39 : RowOK q_28 := rk_congr (hU.1 m_25 (by omega)) (fun i9 h9 => t_36 i9 (by omega))
          have d_40 := rk_hd ok_39
          refine lv_aload_n hx hb dX12_undo_65 rfl (lv_at hl 1 rfl) ?_
          refine lv_aload_n hx hb dX12_undo_66 rfl (lv_at hl 1 rfl) ?_
          refine k_get (ci := 12) (v := .ref (gr g h0 9)) (C := RX12) (T := TX12) (N := 27) hx hb hts (fun _ h0_ => List.mem_cons_of_mem _ (List.mem_append_right _ (List.mem_append_left _ h0_))) hown hK hI i_h0.1 k_30 rfl 9 (by decide) (hts (.fieldLink RX12 33 "DeadlineShareModel" "sorts" "[I") (List.mem_cons_of_mem _ (List.mem_append_left _ (List.mem_of_getElem? (i := 2) rfl)))) (fun _ h9 => h9) rfl dX12_undo_67 ?_
          have i_42 := kw_12_9 hG i_h0
          refine lv_aload_n hx hb dX12_undo_70 rfl (lv_at hl 1 rfl) ?_
          refine k_get (ci := 12) (v := .int v_15) (C := RX12) (T := TX12) (N := 27) hx hb hts (fun _ h0_ => List.mem_cons_of_mem _ (List.mem_append_right _ (List.mem_append_left _ h0_))) hown hK hI i_h0.1 k_30 rfl 10 (by decide) (hts (.fieldLink RX12 73 "DeadlineShareModel" "nUndo" "I") (List.mem_cons_of_mem _ (List.mem_append_left _ (List.mem_of_getElem? (i := 1) rfl)))) (fun _ h9 => h9) rfl dX12_undo_71 ?_
          obtain ⟨q_44, k_43⟩ := op_37 hI i_42
          refine k_iald hx hb hK hI i_42.1 0 k_43 rfl (vp_in_iff.mpr (by omega)) dX12_undo_74 ?_
          refine lv_topi (fun v_45 ev_45 => ?_)
          refine va_calli (va_runV (As := [.int v_45]) (rest := []) ⟨hx, hb, hml, hown, hts⟩ (c_X12_tell l dC dI g A hG f_27 h0 v_45 0 z1 v_15 z12 z13 z14 z15 z16 z17 z18 z23 z24 z25 z26 i_h0 k_30 (by first | omega | (simp only [k_c0]; omega)) (by first | omega | (simp only [k_c0]; omega)) (by first | omega | (simp only [k_c0]; omega))) (cwV 1 hts (gi_V (fun w_ h0_ => ⟨List.mem_cons_of_mem _ (List.mem_append_right _ (List.mem_append_right _ (List.mem_append_left _ h0_))), (tb_c_X12_tell w_ h0_).2⟩) (List.mem_cons_of_mem _ (List.mem_append_left _ (List.mem_of_getElem? (i := 3) rfl))) (List.mem_cons_of_mem _ (List.mem_append_left _ (List.mem_of_getElem? (i := 4) rfl))) (List.mem_cons_of_mem _ (List.mem_append_left _ (List.mem_of_getElem? (i := 5) rfl))) (List.mem_cons_of_mem _ (List.mem_append_left _ (List.mem_of_getElem? (i := 6) rfl)))) rfl rfl rfl (by decide +kernel) ⟨Nat.le_of_ble_eq_true rfl, Nat.le_of_ble_eq_true rfl⟩) ⟨fun a U g mk q => ⟨q.1, q.2.calling rfl rfl⟩, k_recv hK hI i_h0.1 k_30 (ci := 12) rfl, fun U hU hW => ⟨rfl, kIn.of hI hK hE hS hU hW⟩⟩ rfl rfl hl.1 rfl (lv_room (Nat.le_of_ble_eq_true rfl)) dX12_undo_75 ⟨Nat.le_of_ble_eq_true rfl, Nat.le_of_ble_eq_true rfl⟩) hS (fun q _ h => h) (fun q h => h) (fun r_48 u9 t H1 locs ht hvm w_47 hB hz1 hk1 hS => ?_)
          obtain ⟨f_46, hI, kc_49, k_50⟩ := hB
          rw [ht] at hI
          have k_51 : f_46 (gr g h0 4) = .inl (gc g 1, 906, .inr (.inl q_28)) := Kp.at kc_49 i_1 (by decide) k_29
          have k_52 : f_46 (gr g h0 5) = .inl (gc g 1, 9060, .inr (.inl u)) := Kp.at kc_49 i_3 (by decide) k_31
          have k_53 : f_46 (gr g h0 7) = .inl (gc g 1, 1812, .inr (.inl im)) := Kp.at kc_49 i_4 (by decide) k_32
          have k_54 : f_46 (gr g h0 8) = .inl (gc g 3, 2, .inl kt) := Kp.at kc_49 i_5 (by decide) k_33
          have k_55 : f_46 (gr g h0 9) = .inl (gc g 0, 10, .inl q_44) := Kp.at kc_49 i_42 (by decide) k_43
          have k_50 : f_46 h0 = .inr (12, [.int (0 : Int32), .int 0, .ref (gr g h0 2), .ref (gr g h0 3), .ref (gr g h0 4), .ref (gr g h0 5), .ref (gr g h0 6), .ref (gr g h0 7), .ref (gr g h0 8), .ref (gr g h0 9), .int v_15, .ref (gr g h0 11), .int z12, .int z13, .int z14, .int z15, .long z16, .int z17, .int z18, .ref (gr g h0 19), .ref (gr g h0 20), .ref (gr g h0 21), .ref (gr g h0 22), .int z23, .long z24, .long z25, .long z26]) := k_50
          have kp_56 := Kp.call kp_34 kc_49 (by decide)
          generalize H1 = H at hI hS ⊢
          refine W.widen (k := 0) (n := 0) (Nat.le_of_ble_eq_true rfl) (Nat.le_of_ble_eq_true rfl) ?_
          have w_47 : r_48.toInt = v_45.toInt := w_47
          exact W.iret (v := r_48) hx hb hr (fun t ht hW => ⟨⟨r_48, (), rfl, trivial, ⟨f_46, k_ret ht hI, kp_56, (0 : Int32), 0, v_15, z12, z13, z14, z15, z16, z17, z18, z23, z24, z25, z26, q_28, u, im, kt, k_50, (by first | omega | decide), (by first | omega | decide), (by first | omega | decide), k_51, ok_39, k_52, k_53, k_54, (ui_less hU (by omega))⟩⟩, hS.F ht⟩) hS.2.2 dX12_undo_78
        · have c_38 := kn_le (by decide : Int32.toInt 906 = 906) (nI_toInt (n := y_26) (by omega)) c_38
          refine lv_aload_n hx hb dX12_undo_38 rfl (lv_at hl 1 rfl) ?_
          refine k_get (ci := 12) (v := .ref (gr g h0 4)) (C := RX12) (T := TX12) (N := 27) hx hb hts (fun _ h0_ => List.mem_cons_of_mem _ (List.mem_append_right _ (List.mem_append_left _ h0_))) hown hK hI i_h0.1 k_30 rfl 4 (by decide) (hts (.fieldLink RX12 16 "DeadlineShareModel" "row" "[J") (List.mem_cons_of_mem _ (List.mem_append_left _ (List.mem_of_getElem? (i := 7) rfl)))) (fun _ h9 => h9) rfl dX12_undo_39 ?_
          refine lv_iload_n hx hb dX12_undo_42 rfl (lv_at hl 0 rfl) ?_
          refine lv_aload_n hx hb dX12_undo_43 rfl (lv_at hl 1 rfl) ?_
          refine k_get (ci := 12) (v := .ref (gr g h0 5)) (C := RX12) (T := TX12) (N := 27) hx hb hts (fun _ h0_ => List.mem_cons_of_mem _ (List.mem_append_right _ (List.mem_append_left _ h0_))) hown hK hI i_h0.1 k_30 rfl 5 (by decide) (hts (.fieldLink RX12 20 "DeadlineShareModel" "undos" "[J") (List.mem_cons_of_mem _ (List.mem_append_left _ (List.mem_of_getElem? (i := 8) rfl)))) (fun _ h9 => h9) rfl dX12_undo_44 ?_
          refine lv_sipush (v := 906) hx hb dX12_undo_47 (by decide) ?_
          refine lv_aload_n hx hb dX12_undo_50 rfl (lv_at hl 1 rfl) ?_
          refine k_get (ci := 12) (v := .int v_15) (C := RX12) (T := TX12) (N := 27) hx hb hts (fun _ h0_ => List.mem_cons_of_mem _ (List.mem_append_right _ (List.mem_append_left _ h0_))) hown hK hI i_h0.1 k_30 rfl 10 (by decide) (hts (.fieldLink RX12 73 "DeadlineShareModel" "nUndo" "I") (List.mem_cons_of_mem _ (List.mem_append_left _ (List.mem_of_getElem? (i := 1) rfl)))) (fun _ h9 => h9) rfl dX12_undo_51 ?_
          refine k_topi (y := nI m_25) em_25 ?_
          refine lv_imul hx hb dX12_undo_54 ?_
          refine k_topi (y := nI (906 * m_25)) ((pk_mul 906 m_25).trans (congrArg nI (by omega))) ?_
          refine lv_iload_n hx hb dX12_undo_55 rfl (lv_at hl 0 rfl) ?_
          refine lv_iadd hx hb dX12_undo_56 ?_
          refine k_topi (y := nI (906 * m_25 + y_26)) ((nI_add (906 * m_25) y_26).trans (congrArg nI (by omega))) ?_
          refine k_lald hx hb hK hI i_3.1 1 k_31 rfl (vp_in_nI (by omega) (by omega)) dX12_undo_57 ?_
          refine k_topl (y := u (906 * m_25 + y_26)) (congrArg u (nI_clamp (by omega))) ?_
          refine k_last hx hb hK hI hS i_1.1 1 k_29 rfl (vp_in_nI (by omega) (by omega)) (cl_32 i_1) dX12_undo_58 (fun f_61 H locs e_62 hI hS => ?_)
          generalize eq_63 : vp_updL q_28 (Int32.toNatClampNeg (nI y_26)) (u (906 * m_25 + y_26)) = q_63 at e_62
          have k_65 : f_61 (gr g h0 4) = .inl (gc g 1, 906, .inr (.inl q_63)) := by rw [e_62]; exact va_up_self _ _ _
          have k_66 : f_61 h0 = .inr (12, [.int 0, .int z1, .ref (gr g h0 2), .ref (gr g h0 3), .ref (gr g h0 4), .ref (gr g h0 5), .ref (gr g h0 6), .ref (gr g h0 7), .ref (gr g h0 8), .ref (gr g h0 9), .int v_15, .ref (gr g h0 11), .int z12, .int z13, .int z14, .int z15, .long z16, .int z17, .int z18, .ref (gr g h0 19), .ref (gr g h0 20), .ref (gr g h0 21), .ref (gr g h0 22), .int z23, .long z24, .long z25, .long z26]) := by rw [e_62, va_up_ne _ _ (ik_ne i_h0 i_1 (by decide))]; exact k_30
          have k_67 : f_61 (gr g h0 5) = .inl (gc g 1, 9060, .inr (.inl u)) := by rw [e_62, va_up_ne _ _ (ik_ne i_3 i_1 (by decide))]; exact k_31
          have k_68 : f_61 (gr g h0 7) = .inl (gc g 1, 1812, .inr (.inl im)) := by rw [e_62, va_up_ne _ _ (ik_ne i_4 i_1 (by decide))]; exact k_32
          have k_69 : f_61 (gr g h0 8) = .inl (gc g 3, 2, .inl kt) := by rw [e_62, va_up_ne _ _ (ik_ne i_5 i_1 (by decide))]; exact k_33
          have kp_64 := Kp.put kp_34 i_1 (by decide) e_62
          have u_70 : vp_updL q_28 y_26 (u (906 * m_25 + y_26)) = q_63 := by rw [← eq_63, show Int32.toNatClampNeg (nI y_26) = y_26 from (nI_clamp (by omega))]
          refine lv_iinc (v := nI (y_26 + 1)) (lv' := [(1, .int (nI (y_26 + 1))), (0, .ref h0)]) hx hb dX12_undo_59 hl (k := 0) rfl (nI_1 _) (by decide) rfl (fun ls hl => ?_)
          refine lv_goto (tgt := 31) hx hb dX12_undo_62 (by decide) ?_
          exact ih (y_26 + 1) q_63 f_61 _ _ _ (by omega) hI hS k_65 k_66 k_67 k_68 k_69 kp_64 (by first | omega | decide | exact Or.inl (by decide)) (fun j9 h9 => by rw [← u_70]; exact if h8 : j9 = y_26 then (by subst h8; exact pk_uLs) else (by rw [pk_uLn (by omega)]; exact t_36 j9 (by omega))) (lv_sub hl [0, 1] rfl)
    exact K_31 _ 0 q f_17 _ _ _ (Nat.lt_succ_self _) hI hS k_21 k_20 k_22 k_23 k_24 kp_19 (by first | omega | decide | exact Or.inl (by decide)) (fun j9 h9 => absurd h9 (Nat.not_lt_zero j9)) (lv_sub hl [0, 1] rfl)
  · have c_14 := kc_eq rfl (by decide : Int32.toInt 0 = 0) c_14
    refine lv_aload_n hx hb dX12_undo_12 rfl (lv_at hl 0 rfl) ?_
    refine lv_bipush (v := (-4)) hx hb dX12_undo_13 (by decide) ?_
    refine va_calli (va_runV (As := [.int (-4)]) (rest := []) ⟨hx, hb, hml, hown, hts⟩ (c_X12_refuse l dC dI g A hG f_6 h0 (-4) 0 z1 z10 z12 z13 z14 z15 z16 z17 z18 z23 z24 z25 z26 i_h0 k_9 (by first | omega | (simp only [k_c0]; omega)) (by first | omega | (simp only [k_c0]; omega)) (by first | omega | (simp only [k_c0]; omega)) (by first | omega | decide | (simp only [show Int32.toInt (-4) = (-4) from by decide] <;> omega))) (cwV 1 hts (gi_V (fun w_ h0_ => ⟨List.mem_cons_of_mem _ (List.mem_append_right _ (List.mem_append_right _ (List.mem_append_right _ (List.mem_append_left _ h0_)))), (tb_c_X12_refuse w_ h0_).2⟩) (List.mem_cons_of_mem _ (List.mem_append_left _ (List.mem_of_getElem? (i := 9) rfl))) (List.mem_cons_of_mem _ (List.mem_append_left _ (List.mem_of_getElem? (i := 10) rfl))) (List.mem_cons_of_mem _ (List.mem_append_left _ (List.mem_of_getElem? (i := 11) rfl))) (List.mem_cons_of_mem _ (List.mem_append_left _ (List.mem_of_getElem? (i := 6) rfl)))) rfl rfl rfl (by decide +kernel) ⟨Nat.le_of_ble_eq_true rfl, Nat.le_of_ble_eq_true rfl⟩) ⟨fun a U g mk q => ⟨q.1, q.2.calling rfl rfl⟩, k_recv hK hI i_h0.1 k_9 (ci := 12) rfl, fun U hU hW => ⟨rfl, kIn.of hI hK hE hS hU hW⟩⟩ rfl rfl hl.1 rfl (lv_room (Nat.le_of_ble_eq_true rfl)) dX12_undo_15 ⟨Nat.le_of_ble_eq_true rfl, Nat.le_of_ble_eq_true rfl⟩) hS (fun q _ h => h) (fun q h => h) (fun r_73 u9 t H1 locs ht hvm w_72 hB hz1 hk1 hS => ?_)
    obtain ⟨f_71, hI, kc_74, k_75⟩ := hB
    rw [ht] at hI
    have k_76 : f_71 (gr g h0 4) = .inl (gc g 1, 906, .inr (.inl q)) := Kp.at kc_74 i_1 (by decide) k_10
    have k_77 : f_71 (gr g h0 5) = .inl (gc g 1, 9060, .inr (.inl u)) := Kp.at kc_74 i_3 (by decide) k_11
    have k_78 : f_71 (gr g h0 7) = .inl (gc g 1, 1812, .inr (.inl im)) := Kp.at kc_74 i_4 (by decide) k_12
    have k_79 : f_71 (gr g h0 8) = .inl (gc g 3, 2, .inl kt) := Kp.at kc_74 i_5 (by decide) k_13
    have k_75 : f_71 h0 = .inr (12, [.int (0 : Int32), .int (-4 : Int32), .ref (gr g h0 2), .ref (gr g h0 3), .ref (gr g h0 4), .ref (gr g h0 5), .ref (gr g h0 6), .ref (gr g h0 7), .ref (gr g h0 8), .ref (gr g h0 9), .int z10, .ref (gr g h0 11), .int z12, .int z13, .int z14, .int z15, .long z16, .int z17, .int z18, .ref (gr g h0 19), .ref (gr g h0 20), .ref (gr g h0 21), .ref (gr g h0 22), .int z23, .long z24, .long z25, .long z26]) := k_75
    have kp_80 := Kp.call kp_8 kc_74 (by decide)
    generalize H1 = H at hI hS ⊢
    refine W.widen (k := 0) (n := 0) (Nat.le_of_ble_eq_true rfl) (Nat.le_of_ble_eq_true rfl) ?_
    have w_72 : r_73.toInt = (-4 : Int32).toInt := w_72
    have g_81 : Int32.toInt ((-4)) = (-4) := by decide
    exact W.iret (v := r_73) hx hb hr (fun t ht hW => ⟨⟨r_73, (), rfl, trivial, ⟨f_71, k_ret ht hI, kp_80, (0 : Int32), (-4 : Int32), z10, z12, z13, z14, z15, z16, z17, z18, z23, z24, z25, z26, q, u, im, kt, k_75, (by first | omega | decide), (by first | omega | decide), (by first | omega | decide), k_76, hc1_ok, k_77, k_78, k_79, hU⟩⟩, hS.F ht⟩) hS.2.2 dX12_undo_18
theorem tw_1013 : q_g (.code yX12_terms cX12_terms 4 (some .int)) := ⟨(List.mem_append_right _ (List.mem_of_getElem? (i := 1194) (by decide +kernel))), good_of_word (by decide +kernel)⟩
def ow_c_X12_terms : List Cond := [.fieldLink RX12 67 "DeadlineShareModel" "thrown" "I", .constantLong RX12 122 (2), .methodLink RX12 83 yX12_in, .static yX12_in, .initialized RX12, .methodLink RX12 76 yX12_refuse, .instanceMethod yX12_refuse, .selects RX12 yX12_refuse yX12_refuse, .fieldLink RX12 13 "DeadlineShareModel" "term" "[I", .methodLink RX12 80 yX12_tell, .instanceMethod yX12_tell, .selects RX12 yX12_tell yX12_tell, .constantLong RX12 126 (1000000), .constantLong RX12 124 (3)]
def wq_c_X12_terms : List Cond := .code yX12_terms cX12_terms 4 (some .int) :: (ow_c_X12_terms ++ (u_ws RX12 TX12 27 ++ (wq_c_X12_in ++ (wq_c_X12_refuse ++ (wq_c_X12_tell ++ ([] : List Cond))))))
theorem tb_c_X12_terms : ∀ w ∈ wq_c_X12_terms, q_g w := by
  unfold wq_c_X12_terms ow_c_X12_terms
  exact q_cons tw_1013 (q_app (q_cons tw_927 (q_cons tw_822 (q_cons tw_730 (q_cons tw_729 (q_cons tw_728 (q_cons tw_966 (q_cons tw_965 (q_cons tw_964 (q_cons tw_762 (q_cons tw_960 (q_cons tw_959 (q_cons tw_958 (q_cons tw_871 (q_cons tw_854 q_nil)))))))))))))) (q_app tu_X12 (q_app tb_c_X12_in (q_app tb_c_X12_refuse (q_app tb_c_X12_tell q_nil)))))
set_option maxHeartbeats 4000000 in
set_option maxRecDepth 100000 in
theorem c_X12_terms (l : Launch) (dC : Nat → ClassId) (dI : Nat → Nat → Nat) (g : kG) (A : Nat → Prop) (hG : kWf g) (f : Nat → va_E) (h0 : Nat) (p1 : Int32) (p2 : Int32) (z0 : Int32) (z1 : Int32) (z10 : Int32) (z12 : Int32) (z13 : Int32) (z14 : Int32) (z15 : Int32) (z16 : Int64) (z17 : Int32) (z18 : Int32) (z23 : Int32) (z24 : Int64) (z25 : Int64) (z26 : Int64) (q : Nat → Int64) (u : Nat → Int64) (im : Nat → Int64) (kt : Nat → Int32) (tm : Nat → Int32) (i_h0 : ik g 12 h0) (hc0 : f h0 = .inr (12, [.int z0, .int z1, .ref (gr g h0 2), .ref (gr g h0 3), .ref (gr g h0 4), .ref (gr g h0 5), .ref (gr g h0 6), .ref (gr g h0 7), .ref (gr g h0 8), .ref (gr g h0 9), .int z10, .ref (gr g h0 11), .int z12, .int z13, .int z14, .int z15, .long z16, .int z17, .int z18, .ref (gr g h0 19), .ref (gr g h0 20), .ref (gr g h0 21), .ref (gr g h0 22), .int z23, .long z24, .long z25, .long z26])) (hc0_10 : 0 ≤ z10.toInt ∧ z10.toInt ≤ 10) (hc0_12 : 0 ≤ z12.toInt ∧ z12.toInt ≤ 200) (hc0_23 : 0 ≤ z23.toInt ∧ z23.toInt ≤ 8) (hc1 : f (gr g h0 4) = .inl (gc g 1, 906, .inr (.inl q))) (hc1_ok : RowOK q) (hc2 : f (gr g h0 5) = .inl (gc g 1, 9060, .inr (.inl u))) (hc3 : f (gr g h0 7) = .inl (gc g 1, 1812, .inr (.inl im))) (hc4 : f (gr g h0 8) = .inl (gc g 3, 2, .inl kt)) (hc5 : f (gr g h0 3) = .inl (gc g 0, 3, .inl tm)) (hU : UIq z10 u im kt) : Met l yX12_terms wq_c_X12_terms ({ frames := 1, cells := 0, slots := 0, locals := 25 } : Room) (va_Pc [.ref h0, .int p1, .int p2] (fun U => kIn dC dI g A f U)) (va_Qi (fun (r : Int32) (_ : Unit) => (tAl p1.toInt p2.toInt ∧ tGet p1.toInt (tm 0).toInt (tm 1).toInt (tm 2).toInt r.toInt) ∨ (¬ tAl p1.toInt p2.toInt ∧ r.toInt = -1)) (fun (_ : Unit) t => ∃ f1 : Nat → va_E, Iv dC dI g A f1 t.heap ∧ Kp g [12, 30, 31] f f1 ∧ ∃ (w0 : Int32) (w1 : Int32) (w10 : Int32) (w12 : Int32) (w13 : Int32) (w14 : Int32) (w15 : Int32) (w16 : Int64) (w17 : Int32) (w18 : Int32) (w23 : Int32) (w24 : Int64) (w25 : Int64) (w26 : Int64) (q1 : Nat → Int64) (u1 : Nat → Int64) (im1 : Nat → Int64) (ik1 : Nat → Int32) (tm1 : Nat → Int32), (f1 h0 = .inr (12, [.int w0, .int w1, .ref (gr g h0 2), .ref (gr g h0 3), .ref (gr g h0 4), .ref (gr g h0 5), .ref (gr g h0 6), .ref (gr g h0 7), .ref (gr g h0 8), .ref (gr g h0 9), .int w10, .ref (gr g h0 11), .int w12, .int w13, .int w14, .int w15, .long w16, .int w17, .int w18, .ref (gr g h0 19), .ref (gr g h0 20), .ref (gr g h0 21), .ref (gr g h0 22), .int w23, .long w24, .long w25, .long w26])) ∧ (0 ≤ w10.toInt ∧ w10.toInt ≤ 10) ∧ (0 ≤ w12.toInt ∧ w12.toInt ≤ 200) ∧ (0 ≤ w23.toInt ∧ w23.toInt ≤ 8) ∧ (f1 (gr g h0 4) = .inl (gc g 1, 906, .inr (.inl q1))) ∧ (RowOK q1) ∧ (f1 (gr g h0 5) = .inl (gc g 1, 9060, .inr (.inl u1))) ∧ (f1 (gr g h0 7) = .inl (gc g 1, 1812, .inr (.inl im1))) ∧ (f1 (gr g h0 8) = .inl (gc g 3, 2, .inl ik1)) ∧ (UIq w10 u1 im1 ik1) ∧ (f1 (gr g h0 3) = .inl (gc g 0, 3, .inl tm1)) ∧ ((tAl p1.toInt p2.toInt ∧ tSet p1.toInt p2.toInt (tm 0).toInt (tm 1).toInt (tm 2).toInt (tm1 0).toInt (tm1 1).toInt (tm1 2).toInt) ∨ (¬ tAl p1.toInt p2.toInt ∧ (tm1 0).toInt = (tm 0).toInt ∧ (tm1 1).toInt = (tm 1).toInt ∧ (tm1 2).toInt = (tm 2).toInt))) A) 0 0 A := by
  refine Met.ofW (cc := cX12_terms) (maxL := 4) (ret := (some .int)) (by decide) rfl ?_
  intro p e s m args below meth c s₁ B hml hv
  obtain ⟨rfl, hI, hK, hE⟩ := hv
  have hx := B.exec
  have hb := B.bytes
  have hr := B.returns
  have hts := atoms_spec (ws := wq_c_X12_terms) B.pre
  have hown : s.vm.findClass RX12 = some m.cls := findClass_of_methodNamed B.named
  have hlocks := B.notSynchronized
  have hS : va_S A s.heap s.heap [] := va_S.rf
  have hk0 : Kp g [12, 30, 31] f f := Kp.rf
  have hl := lv_entry ([.ref h0, .int p1, .int p2]) (n := 4) (Nat.le_of_ble_eq_true rfl)
  rw [lg_entry_eq]
  generalize (lg_sl ([.ref h0, .int p1, .int p2]) ++ List.replicate (4 - (lg_sl ([.ref h0, .int p1, .int p2])).length) Slot.unset).toArray = ls at hl ⊢
  have hl : lv_has ls 4 [(0, .ref h0), (1, .int p1), (2, .int p2)] := hl
  have i_1 := kw_12_4 hG i_h0
  have d_2 := rk_hd hc1_ok
  have i_3 := kw_12_5 hG i_h0
  have i_4 := kw_12_7 hG i_h0
  have i_5 := kw_12_8 hG i_h0
  have i_6 := kw_12_3 hG i_h0
  refine lv_aload_n hx hb dX12_terms_0 rfl (lv_at hl 0 rfl) ?_
  refine lv_iconst (v := 0) hx hb dX12_terms_1 (by decide) ?_
  refine k_put (ci := 12) (v := .int 0) (ty := .int) (C := RX12) (T := TX12) (N := 27) hx hb hts (fun _ h0_ => List.mem_cons_of_mem _ (List.mem_append_right _ (List.mem_append_left _ h0_))) tyX12 tyX12_ok nmX12 hown hK hI hS i_h0.1 hc0 rfl 0 (by decide) (hts (.fieldLink RX12 67 "DeadlineShareModel" "thrown" "I") (List.mem_cons_of_mem _ (List.mem_append_left _ (List.mem_of_getElem? (i := 0) rfl)))) (fun _ h9 => h9) rfl (by decide +kernel) rfl rfl (Nat.le_of_ble_eq_true rfl) rfl (cl_12 i_h0 (by omega) (by omega) (by omega)) dX12_terms_2 (fun f_7 H locs e_8 hI hS => ?_)
  have k_10 : f_7 h0 = .inr (12, [.int 0, .int z1, .ref (gr g h0 2), .ref (gr g h0 3), .ref (gr g h0 4), .ref (gr g h0 5), .ref (gr g h0 6), .ref (gr g h0 7), .ref (gr g h0 8), .ref (gr g h0 9), .int z10, .ref (gr g h0 11), .int z12, .int z13, .int z14, .int z15, .long z16, .int z17, .int z18, .ref (gr g h0 19), .ref (gr g h0 20), .ref (gr g h0 21), .ref (gr g h0 22), .int z23, .long z24, .long z25, .long z26]) := by rw [e_8]; exact va_up_self _ _ _
  have k_11 : f_7 (gr g h0 4) = .inl (gc g 1, 906, .inr (.inl q)) := by rw [e_8, va_up_ne _ _ (ik_ne i_1 i_h0 (by decide))]; exact hc1
  have k_12 : f_7 (gr g h0 5) = .inl (gc g 1, 9060, .inr (.inl u)) := by rw [e_8, va_up_ne _ _ (ik_ne i_3 i_h0 (by decide))]; exact hc2
  have k_13 : f_7 (gr g h0 7) = .inl (gc g 1, 1812, .inr (.inl im)) := by rw [e_8, va_up_ne _ _ (ik_ne i_4 i_h0 (by decide))]; exact hc3
  have k_14 : f_7 (gr g h0 8) = .inl (gc g 3, 2, .inl kt) := by rw [e_8, va_up_ne _ _ (ik_ne i_5 i_h0 (by decide))]; exact hc4
  have k_15 : f_7 (gr g h0 3) = .inl (gc g 0, 3, .inl tm) := by rw [e_8, va_up_ne _ _ (ik_ne i_6 i_h0 (by decide))]; exact hc5
  have kp_9 := Kp.put hk0 i_h0 (by decide) e_8
  refine lv_iload_n hx hb dX12_terms_5 rfl (lv_at hl 1 rfl) ?_
  refine lv_i2l (v := p1.toInt64) hx hb dX12_terms_6 rfl ?_
  have t_16 := Int32.toInt_toInt64 p1
  have g_17 := Int32.toInt_lt p1
  have g_18 := Int32.le_toInt p1
  refine lv_lconst (v := 0) hx hb dX12_terms_7 (by decide) ?_
  refine lv_ldc2 hx hb hown (hts (.constantLong RX12 122 (2)) (List.mem_cons_of_mem _ (List.mem_append_left _ (List.mem_of_getElem? (i := 1) rfl)))) dX12_terms_8 ?_
  refine va_calli (va_runS (As := [.long p1.toInt64, .long 0, .long 2]) (rest := []) ⟨hx, hb, hml, hown, hts⟩ (c_X12_in l dC dI g A hG f_7 p1.toInt64 0 2) (va_cwS 3 hts (gi_S (fun w_ h0_ => ⟨List.mem_cons_of_mem _ (List.mem_append_right _ (List.mem_append_right _ (List.mem_append_left _ h0_))), (tb_c_X12_in w_ h0_).2⟩) (List.mem_cons_of_mem _ (List.mem_append_left _ (List.mem_of_getElem? (i := 2) rfl))) (List.mem_cons_of_mem _ (List.mem_append_left _ (List.mem_of_getElem? (i := 3) rfl))) (List.mem_cons_of_mem _ (List.mem_append_left _ (List.mem_of_getElem? (i := 4) rfl)))) rfl rfl rfl (by decide +kernel) ⟨Nat.le_of_ble_eq_true rfl, Nat.le_of_ble_eq_true rfl⟩) ⟨fun a U g mk q => ⟨q.1, q.2.calling rfl rfl⟩, fun U hU hW => ⟨rfl, kIn.of hI hK hE hS hU hW⟩⟩ rfl rfl hl.1 rfl (lv_room (Nat.le_of_ble_eq_true rfl)) dX12_terms_11 ⟨Nat.le_of_ble_eq_true rfl, Nat.le_of_ble_eq_true rfl⟩) hS (fun q _ h => h) (fun q h => h) (fun r_20 u9 t H1 locs ht hvm w_19 hB hz1 hk1 hS => ?_)
  have hI : Iv dC dI g A f_7 t.heap := hB
  rw [ht] at hI
  generalize H1 = H at hI hS ⊢
  refine W.widen (k := 0) (n := 0) (Nat.le_of_ble_eq_true rfl) (Nat.le_of_ble_eq_true rfl) ?_
  have w_19 : (r_20.toInt = 0 ∧ (p1.toInt64.toInt < (0 : Int64).toInt ∨ (2 : Int64).toInt < p1.toInt64.toInt)) ∨ (r_20.toInt = 1 ∧ (0 : Int64).toInt ≤ p1.toInt64.toInt ∧ p1.toInt64.toInt ≤ (2 : Int64).toInt) := w_19
  have g_21 : Int64.toInt (0) = 0 := by decide
  have g_22 : Int64.toInt (2) = 2 := by decide
  have J_48 : ∀ (H : Heap) (locs : List Loc) (ls : Array Slot), Iv dC dI g A f_7 H → va_S A s.heap H locs → (¬ tAl p1.toInt p2.toInt) → lv_has ls 4 [(0, .ref h0), (1, .int p1), (2, .int p2)] → W p l e (headSpec wq_c_X12_terms ({ frames := 1, cells := 0, slots := 0, locals := 25 } : Room)).room s m ([.ref h0, .int p1, .int p2].toArray) below meth c H locs 0 0 (MQ below (va_Qi (fun (r : Int32) (_ : Unit) => (tAl p1.toInt p2.toInt ∧ tGet p1.toInt (tm 0).toInt (tm 1).toInt (tm 2).toInt r.toInt) ∨ (¬ tAl p1.toInt p2.toInt ∧ r.toInt = -1)) (fun (_ : Unit) t => ∃ f1 : Nat → va_E, Iv dC dI g A f1 t.heap ∧ Kp g [12, 30, 31] f f1 ∧ ∃ (w0 : Int32) (w1 : Int32) (w10 : Int32) (w12 : Int32) (w13 : Int32) (w14 : Int32) (w15 : Int32) (w16 : Int64) (w17 : Int32) (w18 : Int32) (w23 : Int32) (w24 : Int64) (w25 : Int64) (w26 : Int64) (q1 : Nat → Int64) (u1 : Nat → Int64) (im1 : Nat → Int64) (ik1 : Nat → Int32) (tm1 : Nat → Int32), (f1 h0 = .inr (12, [.int w0, .int w1, .ref (gr g h0 2), .ref (gr g h0 3), .ref (gr g h0 4), .ref (gr g h0 5), .ref (gr g h0 6), .ref (gr g h0 7), .ref (gr g h0 8), .ref (gr g h0 9), .int w10, .ref (gr g h0 11), .int w12, .int w13, .int w14, .int w15, .long w16, .int w17, .int w18, .ref (gr g h0 19), .ref (gr g h0 20), .ref (gr g h0 21), .ref (gr g h0 22), .int w23, .long w24, .long w25, .long w26])) ∧ (0 ≤ w10.toInt ∧ w10.toInt ≤ 10) ∧ (0 ≤ w12.toInt ∧ w12.toInt ≤ 200) ∧ (0 ≤ w23.toInt ∧ w23.toInt ≤ 8) ∧ (f1 (gr g h0 4) = .inl (gc g 1, 906, .inr (.inl q1))) ∧ (RowOK q1) ∧ (f1 (gr g h0 5) = .inl (gc g 1, 9060, .inr (.inl u1))) ∧ (f1 (gr g h0 7) = .inl (gc g 1, 1812, .inr (.inl im1))) ∧ (f1 (gr g h0 8) = .inl (gc g 3, 2, .inl ik1)) ∧ (UIq w10 u1 im1 ik1) ∧ (f1 (gr g h0 3) = .inl (gc g 0, 3, .inl tm1)) ∧ ((tAl p1.toInt p2.toInt ∧ tSet p1.toInt p2.toInt (tm 0).toInt (tm 1).toInt (tm 2).toInt (tm1 0).toInt (tm1 1).toInt (tm1 2).toInt) ∨ (¬ tAl p1.toInt p2.toInt ∧ (tm1 0).toInt = (tm 0).toInt ∧ (tm1 1).toInt = (tm 1).toInt ∧ (tm1 2).toInt = (tm 2).toInt))) A) ([.ref h0, .int p1, .int p2].toArray) s 0 0 A) (F0 m 48 ls []) := by
    intro H locs ls hI hS t_23 hl
    refine lv_aload_n hx hb dX12_terms_48 rfl (lv_at hl 0 rfl) ?_
    refine lv_iconst (v := (-1)) hx hb dX12_terms_49 (by decide) ?_
    refine va_calli (va_runV (As := [.int (-1)]) (rest := []) ⟨hx, hb, hml, hown, hts⟩ (c_X12_refuse l dC dI g A hG f_7 h0 (-1) 0 z1 z10 z12 z13 z14 z15 z16 z17 z18 z23 z24 z25 z26 i_h0 k_10 (by first | omega | (simp only [k_c0]; omega)) (by first | omega | (simp only [k_c0]; omega)) (by first | omega | (simp only [k_c0]; omega)) (by first | omega | decide | (simp only [show Int32.toInt (-1) = (-1) from by decide] <;> omega))) (cwV 1 hts (gi_V (fun w_ h0_ => ⟨List.mem_cons_of_mem _ (List.mem_append_right _ (List.mem_append_right _ (List.mem_append_right _ (List.mem_append_left _ h0_)))), (tb_c_X12_refuse w_ h0_).2⟩) (List.mem_cons_of_mem _ (List.mem_append_left _ (List.mem_of_getElem? (i := 5) rfl))) (List.mem_cons_of_mem _ (List.mem_append_left _ (List.mem_of_getElem? (i := 6) rfl))) (List.mem_cons_of_mem _ (List.mem_append_left _ (List.mem_of_getElem? (i := 7) rfl))) (List.mem_cons_of_mem _ (List.mem_append_left _ (List.mem_of_getElem? (i := 4) rfl)))) rfl rfl rfl (by decide +kernel) ⟨Nat.le_of_ble_eq_true rfl, Nat.le_of_ble_eq_true rfl⟩) ⟨fun a U g mk q => ⟨q.1, q.2.calling rfl rfl⟩, k_recv hK hI i_h0.1 k_10 (ci := 12) rfl, fun U hU hW => ⟨rfl, kIn.of hI hK hE hS hU hW⟩⟩ rfl rfl hl.1 rfl (lv_room (Nat.le_of_ble_eq_true rfl)) dX12_terms_50 ⟨Nat.le_of_ble_eq_true rfl, Nat.le_of_ble_eq_true rfl⟩) hS (fun q _ h => h) (fun q h => h) (fun r_26 u9 t H1 locs ht hvm w_25 hB hz1 hk1 hS => ?_)
    obtain ⟨f_24, hI, kc_27, k_28⟩ := hB
    rw [ht] at hI
    have k_29 : f_24 (gr g h0 4) = .inl (gc g 1, 906, .inr (.inl q)) := Kp.at kc_27 i_1 (by decide) k_11
    have k_30 : f_24 (gr g h0 5) = .inl (gc g 1, 9060, .inr (.inl u)) := Kp.at kc_27 i_3 (by decide) k_12
    have k_31 : f_24 (gr g h0 7) = .inl (gc g 1, 1812, .inr (.inl im)) := Kp.at kc_27 i_4 (by decide) k_13
    have k_32 : f_24 (gr g h0 8) = .inl (gc g 3, 2, .inl kt) := Kp.at kc_27 i_5 (by decide) k_14
    have k_33 : f_24 (gr g h0 3) = .inl (gc g 0, 3, .inl tm) := Kp.at kc_27 i_6 (by decide) k_15
    have k_28 : f_24 h0 = .inr (12, [.int (0 : Int32), .int (-1 : Int32), .ref (gr g h0 2), .ref (gr g h0 3), .ref (gr g h0 4), .ref (gr g h0 5), .ref (gr g h0 6), .ref (gr g h0 7), .ref (gr g h0 8), .ref (gr g h0 9), .int z10, .ref (gr g h0 11), .int z12, .int z13, .int z14, .int z15, .long z16, .int z17, .int z18, .ref (gr g h0 19), .ref (gr g h0 20), .ref (gr g h0 21), .ref (gr g h0 22), .int z23, .long z24, .long z25, .long z26]) := k_28
    have kp_34 := Kp.call kp_9 kc_27 (by decide)
    generalize H1 = H at hI hS ⊢
    refine W.widen (k := 0) (n := 0) (Nat.le_of_ble_eq_true rfl) (Nat.le_of_ble_eq_true rfl) ?_
    have w_25 : r_26.toInt = (-1 : Int32).toInt := w_25
    have g_35 : Int32.toInt ((-1)) = (-1) := by decide
    exact W.iret (v := r_26) hx hb hr (fun t ht hW => ⟨⟨r_26, (), rfl, (Or.inr ⟨t_23, by omega⟩), ⟨f_24, k_ret ht hI, kp_34, (0 : Int32), (-1 : Int32), z10, z12, z13, z14, z15, z16, z17, z18, z23, z24, z25, z26, q, u, im, kt, tm, k_28, (by first | omega | decide), (by first | omega | decide), (by first | omega | decide), k_29, hc1_ok, k_30, k_31, k_32, hU, k_33, (Or.inr ⟨t_23, rfl, rfl, rfl⟩)⟩⟩, hS.F ht⟩) hS.2.2 dX12_terms_53
  refine lv_if_eq (tgt := 48) hx hb dX12_terms_14 (by decide) (fun c_36 => ?_) (fun c_36 => ?_)
  · have c_36 := kc_eq rfl (by decide : Int32.toInt 0 = 0) c_36
    exact J_48  _ _ _ hI hS (by unfold tAl; omega) (lv_sub hl [0, 1, 2] rfl)
  · have c_36 := kn_eq rfl (by decide : Int32.toInt 0 = 0) c_36
    refine lv_iload_n hx hb dX12_terms_17 rfl (lv_at hl 2 rfl) ?_
    refine lv_i2l (v := p2.toInt64) hx hb dX12_terms_18 rfl ?_
    have t_37 := Int32.toInt_toInt64 p2
    have g_38 := Int32.toInt_lt p2
    have g_39 := Int32.le_toInt p2
    refine lv_lconst (v := 0) hx hb dX12_terms_19 (by decide) ?_
    refine lv_iload_n hx hb dX12_terms_20 rfl (lv_at hl 1 rfl) ?_
    have J_42 : ∀ (y_40 : Int64) (H : Heap) (locs : List Loc) (ls : Array Slot), Iv dC dI g A f_7 H → va_S A s.heap H locs → ((p1.toInt = 0 ∧ y_40.toInt = 1) ∨ (p1.toInt = 1 ∧ y_40.toInt = 3) ∨ (p1.toInt ≠ 0 ∧ p1.toInt ≠ 1 ∧ y_40.toInt = 1000000)) → lv_has ls 4 [(0, .ref h0), (1, .int p1), (2, .int p2)] → W p l e (headSpec wq_c_X12_terms ({ frames := 1, cells := 0, slots := 0, locals := 25 } : Room)).room s m ([.ref h0, .int p1, .int p2].toArray) below meth c H locs 0 0 (MQ below (va_Qi (fun (r : Int32) (_ : Unit) => (tAl p1.toInt p2.toInt ∧ tGet p1.toInt (tm 0).toInt (tm 1).toInt (tm 2).toInt r.toInt) ∨ (¬ tAl p1.toInt p2.toInt ∧ r.toInt = -1)) (fun (_ : Unit) t => ∃ f1 : Nat → va_E, Iv dC dI g A f1 t.heap ∧ Kp g [12, 30, 31] f f1 ∧ ∃ (w0 : Int32) (w1 : Int32) (w10 : Int32) (w12 : Int32) (w13 : Int32) (w14 : Int32) (w15 : Int32) (w16 : Int64) (w17 : Int32) (w18 : Int32) (w23 : Int32) (w24 : Int64) (w25 : Int64) (w26 : Int64) (q1 : Nat → Int64) (u1 : Nat → Int64) (im1 : Nat → Int64) (ik1 : Nat → Int32) (tm1 : Nat → Int32), (f1 h0 = .inr (12, [.int w0, .int w1, .ref (gr g h0 2), .ref (gr g h0 3), .ref (gr g h0 4), .ref (gr g h0 5), .ref (gr g h0 6), .ref (gr g h0 7), .ref (gr g h0 8), .ref (gr g h0 9), .int w10, .ref (gr g h0 11), .int w12, .int w13, .int w14, .int w15, .long w16, .int w17, .int w18, .ref (gr g h0 19), .ref (gr g h0 20), .ref (gr g h0 21), .ref (gr g h0 22), .int w23, .long w24, .long w25, .long w26])) ∧ (0 ≤ w10.toInt ∧ w10.toInt ≤ 10) ∧ (0 ≤ w12.toInt ∧ w12.toInt ≤ 200) ∧ (0 ≤ w23.toInt ∧ w23.toInt ≤ 8) ∧ (f1 (gr g h0 4) = .inl (gc g 1, 906, .inr (.inl q1))) ∧ (RowOK q1) ∧ (f1 (gr g h0 5) = .inl (gc g 1, 9060, .inr (.inl u1))) ∧ (f1 (gr g h0 7) = .inl (gc g 1, 1812, .inr (.inl im1))) ∧ (f1 (gr g h0 8) = .inl (gc g 3, 2, .inl ik1)) ∧ (UIq w10 u1 im1 ik1) ∧ (f1 (gr g h0 3) = .inl (gc g 0, 3, .inl tm1)) ∧ ((tAl p1.toInt p2.toInt ∧ tSet p1.toInt p2.toInt (tm 0).toInt (tm 1).toInt (tm 2).toInt (tm1 0).toInt (tm1 1).toInt (tm1 2).toInt) ∨ (¬ tAl p1.toInt p2.toInt ∧ (tm1 0).toInt = (tm 0).toInt ∧ (tm1 1).toInt = (tm 1).toInt ∧ (tm1 2).toInt = (tm 2).toInt))) A) ([.ref h0, .int p1, .int p2].toArray) s 0 0 A) (F0 m 42 ls [.long y_40, .long 0, .long p2.toInt64]) := by
      intro y_40 H locs ls hI hS t_41 hl
      refine va_calli (va_runS (As := [.long p2.toInt64, .long 0, .long y_40]) (rest := []) ⟨hx, hb, hml, hown, hts⟩ (c_X12_in l dC dI g A hG f_7 p2.toInt64 0 y_40) (va_cwS 3 hts (gi_S (fun w_ h0_ => ⟨List.mem_cons_of_mem _ (List.mem_append_right _ (List.mem_append_right _ (List.mem_append_left _ h0_))), (tb_c_X12_in w_ h0_).2⟩) (List.mem_cons_of_mem _ (List.mem_append_left _ (List.mem_of_getElem? (i := 2) rfl))) (List.mem_cons_of_mem _ (List.mem_append_left _ (List.mem_of_getElem? (i := 3) rfl))) (List.mem_cons_of_mem _ (List.mem_append_left _ (List.mem_of_getElem? (i := 4) rfl)))) rfl rfl rfl (by decide +kernel) ⟨Nat.le_of_ble_eq_true rfl, Nat.le_of_ble_eq_true rfl⟩) ⟨fun a U g mk q => ⟨q.1, q.2.calling rfl rfl⟩, fun U hU hW => ⟨rfl, kIn.of hI hK hE hS hU hW⟩⟩ rfl rfl hl.1 rfl (lv_room (Nat.le_of_ble_eq_true rfl)) dX12_terms_42 ⟨Nat.le_of_ble_eq_true rfl, Nat.le_of_ble_eq_true rfl⟩) hS (fun q _ h => h) (fun q h => h) (fun r_43 u9 t H1 locs ht hvm w_42 hB hz1 hk1 hS => ?_)
      have hI : Iv dC dI g A f_7 t.heap := hB
      rw [ht] at hI
      generalize H1 = H at hI hS ⊢
      refine W.widen (k := 0) (n := 0) (Nat.le_of_ble_eq_true rfl) (Nat.le_of_ble_eq_true rfl) ?_
      have w_42 : (r_43.toInt = 0 ∧ (p2.toInt64.toInt < (0 : Int64).toInt ∨ y_40.toInt < p2.toInt64.toInt)) ∨ (r_43.toInt = 1 ∧ (0 : Int64).toInt ≤ p2.toInt64.toInt ∧ p2.toInt64.toInt ≤ y_40.toInt) := w_42
      have g_44 : Int64.toInt (0) = 0 := by decide
      refine lv_if_ne (tgt := 54) hx hb dX12_terms_45 (by decide) (fun c_45 => ?_) (fun c_45 => ?_)
      · have c_45 := kn_eq rfl (by decide : Int32.toInt 0 = 0) c_45
        obtain ⟨m_46, em_46, tm_46⟩ := k_nat (x := p1) (by omega)
        have cm_46 : m_46 = 0 ∨ m_46 = 1 ∨ m_46 = 2 := by omega
        refine lv_aload_n hx hb dX12_terms_54 rfl (lv_at hl 0 rfl) ?_
        refine k_get (ci := 12) (v := .ref (gr g h0 3)) (C := RX12) (T := TX12) (N := 27) hx hb hts (fun _ h0_ => List.mem_cons_of_mem _ (List.mem_append_right _ (List.mem_append_left _ h0_))) hown hK hI i_h0.1 k_10 rfl 3 (by decide) (hts (.fieldLink RX12 13 "DeadlineShareModel" "term" "[I") (List.mem_cons_of_mem _ (List.mem_append_left _ (List.mem_of_getElem? (i := 8) rfl)))) (fun _ h9 => h9) rfl dX12_terms_55 ?_
        refine lv_iload_n hx hb dX12_terms_58 rfl (lv_at hl 1 rfl) ?_
        refine k_topi (y := nI m_46) em_46 ?_
        refine k_iald hx hb hK hI i_6.1 0 k_15 rfl (vp_in_nI (by omega) (by omega)) dX12_terms_59 ?_
        refine k_topi (y := tm m_46) (congrArg tm (nI_clamp (by omega))) ?_
        refine lv_istore_n (lv' := [(3, .int (tm m_46)), (0, .ref h0), (1, .int p1), (2, .int p2)]) hx hb dX12_terms_60 rfl hl (by decide) rfl (fun ls hl => ?_)
        refine lv_aload_n hx hb dX12_terms_61 rfl (lv_at hl 1 rfl) ?_
        refine k_get (ci := 12) (v := .ref (gr g h0 3)) (C := RX12) (T := TX12) (N := 27) hx hb hts (fun _ h0_ => List.mem_cons_of_mem _ (List.mem_append_right _ (List.mem_append_left _ h0_))) hown hK hI i_h0.1 k_10 rfl 3 (by decide) (hts (.fieldLink RX12 13 "DeadlineShareModel" "term" "[I") (List.mem_cons_of_mem _ (List.mem_append_left _ (List.mem_of_getElem? (i := 8) rfl)))) (fun _ h9 => h9) rfl dX12_terms_62 ?_
        refine lv_iload_n hx hb dX12_terms_65 rfl (lv_at hl 2 rfl) ?_
        refine k_topi (y := nI m_46) em_46 ?_
        refine lv_iload_n hx hb dX12_terms_66 rfl (lv_at hl 3 rfl) ?_
        refine k_iast hx hb hK hI hS i_6.1 0 k_15 rfl (vp_in_nI (by omega) (by omega)) (cl_31 i_6) dX12_terms_67 (fun f_51 H locs e_52 hI hS => ?_)
        generalize eq_53 : upd tm (Int32.toNatClampNeg (nI m_46)) p2 = q_53 at e_52
        have k_55 : f_51 h0 = .inr (12, [.int 0, .int z1, .ref (gr g h0 2), .ref (gr g h0 3), .ref (gr g h0 4), .ref (gr g h0 5), .ref (gr g h0 6), .ref (gr g h0 7), .ref (gr g h0 8), .ref (gr g h0 9), .int z10, .ref (gr g h0 11), .int z12, .int z13, .int z14, .int z15, .long z16, .int z17, .int z18, .ref (gr g h0 19), .ref (gr g h0 20), .ref (gr g h0 21), .ref (gr g h0 22), .int z23, .long z24, .long z25, .long z26]) := by rw [e_52, va_up_ne _ _ (ik_ne i_h0 i_6 (by decide))]; exact k_10
        have k_56 : f_51 (gr g h0 4) = .inl (gc g 1, 906, .inr (.inl q)) := by rw [e_52, va_up_ne _ _ (ik_ne i_1 i_6 (by decide))]; exact k_11
        have k_57 : f_51 (gr g h0 5) = .inl (gc g 1, 9060, .inr (.inl u)) := by rw [e_52, va_up_ne _ _ (ik_ne i_3 i_6 (by decide))]; exact k_12
        have k_58 : f_51 (gr g h0 7) = .inl (gc g 1, 1812, .inr (.inl im)) := by rw [e_52, va_up_ne _ _ (ik_ne i_4 i_6 (by decide))]; exact k_13
        have k_59 : f_51 (gr g h0 8) = .inl (gc g 3, 2, .inl kt) := by rw [e_52, va_up_ne _ _ (ik_ne i_5 i_6 (by decide))]; exact k_14
        have k_60 : f_51 (gr g h0 3) = .inl (gc g 0, 3, .inl q_53) := by rw [e_52]; exact va_up_self _ _ _
        have kp_54 := Kp.put kp_9 i_6 (by decide) e_52
        have u_61 : upd tm m_46 p2 = q_53 := by rw [← eq_53, show Int32.toNatClampNeg (nI m_46) = m_46 from (nI_clamp (by omega))]
        refine lv_aload_n hx hb dX12_terms_68 rfl (lv_at hl 1 rfl) ?_
        refine lv_iload_n hx hb dX12_terms_69 rfl (lv_at hl 0 rfl) ?_
        refine va_calli (va_runV (As := [.int (tm m_46)]) (rest := []) ⟨hx, hb, hml, hown, hts⟩ (c_X12_tell l dC dI g A hG f_51 h0 (tm m_46) 0 z1 z10 z12 z13 z14 z15 z16 z17 z18 z23 z24 z25 z26 i_h0 k_55 (by first | omega | (simp only [k_c0]; omega)) (by first | omega | (simp only [k_c0]; omega)) (by first | omega | (simp only [k_c0]; omega))) (cwV 1 hts (gi_V (fun w_ h0_ => ⟨List.mem_cons_of_mem _ (List.mem_append_right _ (List.mem_append_right _ (List.mem_append_right _ (List.mem_append_right _ (List.mem_append_left _ h0_))))), (tb_c_X12_tell w_ h0_).2⟩) (List.mem_cons_of_mem _ (List.mem_append_left _ (List.mem_of_getElem? (i := 9) rfl))) (List.mem_cons_of_mem _ (List.mem_append_left _ (List.mem_of_getElem? (i := 10) rfl))) (List.mem_cons_of_mem _ (List.mem_append_left _ (List.mem_of_getElem? (i := 11) rfl))) (List.mem_cons_of_mem _ (List.mem_append_left _ (List.mem_of_getElem? (i := 4) rfl)))) rfl rfl rfl (by decide +kernel) ⟨Nat.le_of_ble_eq_true rfl, Nat.le_of_ble_eq_true rfl⟩) ⟨fun a U g mk q => ⟨q.1, q.2.calling rfl rfl⟩, k_recv hK hI i_h0.1 k_55 (ci := 12) rfl, fun U hU hW => ⟨rfl, kIn.of hI hK hE hS hU hW⟩⟩ rfl rfl hl.1 rfl (lv_room (Nat.le_of_ble_eq_true rfl)) dX12_terms_70 ⟨Nat.le_of_ble_eq_true rfl, Nat.le_of_ble_eq_true rfl⟩) hS (fun q _ h => h) (fun q h => h) (fun r_64 u9 t H1 locs ht hvm w_63 hB hz1 hk1 hS => ?_)
        obtain ⟨f_62, hI, kc_65, k_66⟩ := hB
        rw [ht] at hI
        have k_67 : f_62 (gr g h0 4) = .inl (gc g 1, 906, .inr (.inl q)) := Kp.at kc_65 i_1 (by decide) k_56
        have k_68 : f_62 (gr g h0 5) = .inl (gc g 1, 9060, .inr (.inl u)) := Kp.at kc_65 i_3 (by decide) k_57
        have k_69 : f_62 (gr g h0 7) = .inl (gc g 1, 1812, .inr (.inl im)) := Kp.at kc_65 i_4 (by decide) k_58
        have k_70 : f_62 (gr g h0 8) = .inl (gc g 3, 2, .inl kt) := Kp.at kc_65 i_5 (by decide) k_59
        have k_71 : f_62 (gr g h0 3) = .inl (gc g 0, 3, .inl q_53) := Kp.at kc_65 i_6 (by decide) k_60
        have k_66 : f_62 h0 = .inr (12, [.int (0 : Int32), .int 0, .ref (gr g h0 2), .ref (gr g h0 3), .ref (gr g h0 4), .ref (gr g h0 5), .ref (gr g h0 6), .ref (gr g h0 7), .ref (gr g h0 8), .ref (gr g h0 9), .int z10, .ref (gr g h0 11), .int z12, .int z13, .int z14, .int z15, .long z16, .int z17, .int z18, .ref (gr g h0 19), .ref (gr g h0 20), .ref (gr g h0 21), .ref (gr g h0 22), .int z23, .long z24, .long z25, .long z26]) := k_66
        have kp_72 := Kp.call kp_54 kc_65 (by decide)
        generalize H1 = H at hI hS ⊢
        refine W.widen (k := 0) (n := 0) (Nat.le_of_ble_eq_true rfl) (Nat.le_of_ble_eq_true rfl) ?_
        have w_63 : r_64.toInt = (tm m_46).toInt := w_63
        exact W.iret (v := r_64) hx hb hr (fun t ht hW => ⟨⟨r_64, (), rfl, (Or.inl ⟨by unfold tAl; omega, by unfold tGet; rcases cm_46 with rfl | rfl | rfl <;> omega⟩), ⟨f_62, k_ret ht hI, kp_72, (0 : Int32), 0, z10, z12, z13, z14, z15, z16, z17, z18, z23, z24, z25, z26, q, u, im, kt, q_53, k_66, (by first | omega | decide), (by first | omega | decide), (by first | omega | decide), k_67, hc1_ok, k_68, k_69, k_70, hU, k_71, (Or.inl ⟨by unfold tAl; omega, by rw [← u_61]; unfold tSet; rcases cm_46 with rfl | rfl | rfl; exact Or.inl ⟨by omega, congrArg Int32.toInt pk_us, congrArg Int32.toInt (pk_un (by decide)), congrArg Int32.toInt (pk_un (by decide))⟩; exact Or.inr (Or.inl ⟨by omega, congrArg Int32.toInt (pk_un (by decide)), congrArg Int32.toInt pk_us, congrArg Int32.toInt (pk_un (by decide))⟩); exact Or.inr (Or.inr ⟨by omega, by omega, congrArg Int32.toInt (pk_un (by decide)), congrArg Int32.toInt (pk_un (by decide)), congrArg Int32.toInt pk_us⟩)⟩)⟩⟩, hS.F ht⟩) hS.2.2 dX12_terms_73
      · have c_45 := kc_eq rfl (by decide : Int32.toInt 0 = 0) c_45
        exact J_48  _ _ _ hI hS (by unfold tAl; omega) (lv_sub hl [0, 1, 2] rfl)
    refine lv_if_ne (tgt := 28) hx hb dX12_terms_21 (by decide) (fun c_73 => ?_) (fun c_73 => ?_)
    · have c_73 := kn_eq rfl (by decide : Int32.toInt 0 = 0) c_73
      refine lv_iload_n hx hb dX12_terms_28 rfl (lv_at hl 1 rfl) ?_
      refine lv_iconst (v := 1) hx hb dX12_terms_29 (by decide) ?_
      refine lv_icmp_ne (tgt := 39) hx hb dX12_terms_30 (by decide) (fun c_74 => ?_) (fun c_74 => ?_)
      · have c_74 := kn_eq rfl (by decide : Int32.toInt 1 = 1) c_74
        refine lv_ldc2 hx hb hown (hts (.constantLong RX12 126 (1000000)) (List.mem_cons_of_mem _ (List.mem_append_left _ (List.mem_of_getElem? (i := 12) rfl)))) dX12_terms_39 ?_
        exact J_42 1000000 _ _ _ hI hS (Or.inr (Or.inr ⟨by omega, by omega, by decide⟩)) (lv_sub hl [0, 1, 2] rfl)
      · have c_74 := kc_eq rfl (by decide : Int32.toInt 1 = 1) c_74
        refine lv_ldc2 hx hb hown (hts (.constantLong RX12 124 (3)) (List.mem_cons_of_mem _ (List.mem_append_left _ (List.mem_of_getElem? (i := 13) rfl)))) dX12_terms_33 ?_
        refine lv_goto (tgt := 42) hx hb dX12_terms_36 (by decide) ?_
        exact J_42 3 _ _ _ hI hS (Or.inr (Or.inl ⟨by omega, by decide⟩)) (lv_sub hl [0, 1, 2] rfl)
    · have c_73 := kc_eq rfl (by decide : Int32.toInt 0 = 0) c_73
      refine lv_lconst (v := 1) hx hb dX12_terms_24 (by decide) ?_
      refine lv_goto (tgt := 42) hx hb dX12_terms_25 (by decide) ?_
      exact J_42 1 _ _ _ hI hS (Or.inl ⟨by omega, by decide⟩) (lv_sub hl [0, 1, 2] rfl)
theorem tw_1014 : q_g (.selects RX12 yX12_readScript yX12_readScript) := ⟨(List.mem_append_left _ (List.mem_of_getElem? (i := 40) (by decide +kernel))), good_of_word (by decide +kernel)⟩
theorem tw_1015 : q_g (.instanceMethod yX12_readScript) := ⟨(List.mem_append_right _ (List.mem_of_getElem? (i := 1340) (by decide +kernel))), good_of_word (by decide +kernel)⟩
theorem tw_1016 : q_g (.methodLink RX12 220 yX12_readScript) := ⟨(List.mem_append_right _ (List.mem_of_getElem? (i := 1338) (by decide +kernel))), good_of_word (by decide +kernel)⟩
theorem tw_1017 : q_g (.code yX12_script cX12_script 5 (some .int)) := ⟨(List.mem_append_right _ (List.mem_of_getElem? (i := 1337) (by decide +kernel))), good_of_word (by decide +kernel)⟩
def ow_c_X12_script : List Cond := [.fieldLink RX12 67 "DeadlineShareModel" "thrown" "I", .methodLink RX12 142 yX12_isTask, .instanceMethod yX12_isTask, .selects RX12 yX12_isTask yX12_isTask, .initialized RX12, .methodLink RX12 87 yX12_at, .static yX12_at, .fieldLink RX12 16 "DeadlineShareModel" "row" "[J", .methodLink RX12 220 yX12_readScript, .instanceMethod yX12_readScript, .selects RX12 yX12_readScript yX12_readScript, .fieldLink RX12 128 "DeadlineShareModel" "taped" "I", .fieldLink RX12 201 "DeadlineShareModel" "bad" "Z", .methodLink RX12 139 yX12_remember, .instanceMethod yX12_remember, .selects RX12 yX12_remember yX12_remember, .fieldLink RX12 208 "DeadlineShareModel" "nSteps" "I", .methodLink RX12 223 yX12_goOn, .instanceMethod yX12_goOn, .selects RX12 yX12_goOn yX12_goOn, .methodLink RX12 80 yX12_tell, .instanceMethod yX12_tell, .selects RX12 yX12_tell yX12_tell, .methodLink RX12 151 yX12_joins, .instanceMethod yX12_joins, .selects RX12 yX12_joins yX12_joins, .fieldLink RX12 59 "DeadlineShareModel" "kinds" "[I", .fieldLink RX12 62 "DeadlineShareModel" "numbers" "[I", .methodLink RX12 76 yX12_refuse, .instanceMethod yX12_refuse, .selects RX12 yX12_refuse yX12_refuse, .methodLink RX12 148 yX12_hasRoom, .instanceMethod yX12_hasRoom, .selects RX12 yX12_hasRoom yX12_hasRoom, .methodLink RX12 145 yX12_isSpent, .instanceMethod yX12_isSpent, .selects RX12 yX12_isSpent yX12_isSpent]
def wq_c_X12_script : List Cond := .code yX12_script cX12_script 5 (some .int) :: (ow_c_X12_script ++ (u_ws RX12 TX12 27 ++ (wq_c_X12_isTask ++ (wq_c_X12_at ++ (wq_c_X12_readScript ++ (wq_c_X12_remember ++ (wq_c_X12_goOn ++ (wq_c_X12_tell ++ (wq_c_X12_joins ++ (wq_c_X12_refuse ++ (wq_c_X12_hasRoom ++ (wq_c_X12_isSpent ++ ([] : List Cond)))))))))))))
theorem tb_c_X12_script : ∀ w ∈ wq_c_X12_script, q_g w := by
  unfold wq_c_X12_script ow_c_X12_script
  exact q_cons tw_1017 (q_app (q_cons tw_927 (q_cons tw_951 (q_cons tw_950 (q_cons tw_949 (q_cons tw_728 (q_cons tw_734 (q_cons tw_733 (q_cons tw_731 (q_cons tw_1016 (q_cons tw_1015 (q_cons tw_1014 (q_cons tw_809 (q_cons tw_883 (q_cons tw_963 (q_cons tw_962 (q_cons tw_961 (q_cons tw_888 (q_cons tw_838 (q_cons tw_837 (q_cons tw_836 (q_cons tw_960 (q_cons tw_959 (q_cons tw_958 (q_cons tw_841 (q_cons tw_840 (q_cons tw_839 (q_cons tw_889 (q_cons tw_887 (q_cons tw_966 (q_cons tw_965 (q_cons tw_964 (q_cons tw_847 (q_cons tw_846 (q_cons tw_845 (q_cons tw_844 (q_cons tw_843 (q_cons tw_842 q_nil))))))))))))))))))))))))))))))))))))) (q_app tu_X12 (q_app tb_c_X12_isTask (q_app tb_c_X12_at (q_app tb_c_X12_readScript (q_app tb_c_X12_remember (q_app tb_c_X12_goOn (q_app tb_c_X12_tell (q_app tb_c_X12_joins (q_app tb_c_X12_refuse (q_app tb_c_X12_hasRoom (q_app tb_c_X12_isSpent q_nil))))))))))))
set_option maxHeartbeats 4000000 in
set_option maxRecDepth 100000 in
theorem c_X12_script (l : Launch) (dC : Nat → ClassId) (dI : Nat → Nat → Nat) (g : kG) (A : Nat → Prop) (hG : kWf g) (f : Nat → va_E) (h0 : Nat) (p1 : Int32) (z0 : Int32) (z1 : Int32) (z10 : Int32) (z12 : Int32) (z13 : Int32) (z14 : Int32) (z15 : Int32) (z16 : Int64) (z17 : Int32) (z18 : Int32) (z23 : Int32) (z24 : Int64) (z25 : Int64) (z26 : Int64) (q : Nat → Int64) (u : Nat → Int64) (im : Nat → Int64) (kt : Nat → Int32) (kq : Nat → Int32) (nq : Nat → Int32) (i_h0 : ik g 12 h0) (hc0 : f h0 = .inr (12, [.int z0, .int z1, .ref (gr g h0 2), .ref (gr g h0 3), .ref (gr g h0 4), .ref (gr g h0 5), .ref (gr g h0 6), .ref (gr g h0 7), .ref (gr g h0 8), .ref (gr g h0 9), .int z10, .ref (gr g h0 11), .int z12, .int z13, .int z14, .int z15, .long z16, .int z17, .int z18, .ref (gr g h0 19), .ref (gr g h0 20), .ref (gr g h0 21), .ref (gr g h0 22), .int z23, .long z24, .long z25, .long z26])) (hc0_10 : 0 ≤ z10.toInt ∧ z10.toInt ≤ 10) (hc0_12 : 0 ≤ z12.toInt ∧ z12.toInt ≤ 200) (hc0_23 : 0 ≤ z23.toInt ∧ z23.toInt ≤ 8) (hc1 : f (gr g h0 4) = .inl (gc g 1, 906, .inr (.inl q))) (hc1_ok : RowOK q) (hc2 : f (gr g h0 5) = .inl (gc g 1, 9060, .inr (.inl u))) (hc3 : f (gr g h0 7) = .inl (gc g 1, 1812, .inr (.inl im))) (hc4 : f (gr g h0 8) = .inl (gc g 3, 2, .inl kt)) (hc5 : f (gr g h0 21) = .inl (gc g 0, 8, .inl kq)) (hc6 : f (gr g h0 22) = .inl (gc g 0, 8, .inl nq)) (hU : UIq z10 u im kt) : Met l yX12_script wq_c_X12_script ({ frames := 6, cells := 0, slots := 0, locals := 142 } : Room) (va_Pc [.ref h0, .int p1] (fun U => kIn dC dI g A f U)) (va_Qi (fun (r : Int32) (_ : Unit) => True) (fun (_ : Unit) t => ∃ f1 : Nat → va_E, Iv dC dI g A f1 t.heap ∧ Kp g [12, 30, 32, 33, 37, 41, 42] f f1 ∧ ∃ (w0 : Int32) (w1 : Int32) (w10 : Int32) (w12 : Int32) (w13 : Int32) (w14 : Int32) (w15 : Int32) (w16 : Int64) (w17 : Int32) (w18 : Int32) (w23 : Int32) (w24 : Int64) (w25 : Int64) (w26 : Int64) (q1 : Nat → Int64) (u1 : Nat → Int64) (im1 : Nat → Int64) (ik1 : Nat → Int32), (f1 h0 = .inr (12, [.int w0, .int w1, .ref (gr g h0 2), .ref (gr g h0 3), .ref (gr g h0 4), .ref (gr g h0 5), .ref (gr g h0 6), .ref (gr g h0 7), .ref (gr g h0 8), .ref (gr g h0 9), .int w10, .ref (gr g h0 11), .int w12, .int w13, .int w14, .int w15, .long w16, .int w17, .int w18, .ref (gr g h0 19), .ref (gr g h0 20), .ref (gr g h0 21), .ref (gr g h0 22), .int w23, .long w24, .long w25, .long w26])) ∧ (0 ≤ w10.toInt ∧ w10.toInt ≤ 10) ∧ (0 ≤ w12.toInt ∧ w12.toInt ≤ 200) ∧ (0 ≤ w23.toInt ∧ w23.toInt ≤ 8) ∧ (f1 (gr g h0 4) = .inl (gc g 1, 906, .inr (.inl q1))) ∧ (RowOK q1) ∧ (f1 (gr g h0 5) = .inl (gc g 1, 9060, .inr (.inl u1))) ∧ (f1 (gr g h0 7) = .inl (gc g 1, 1812, .inr (.inl im1))) ∧ (f1 (gr g h0 8) = .inl (gc g 3, 2, .inl ik1)) ∧ (UIq w10 u1 im1 ik1)) A) 0 0 A := by
  refine Met.ofW (cc := cX12_script) (maxL := 5) (ret := (some .int)) (by decide) rfl ?_
  intro p e s m args below meth c s₁ B hml hv
  obtain ⟨rfl, hI, hK, hE⟩ := hv
  have hx := B.exec
  have hb := B.bytes
  have hr := B.returns
  have hts := atoms_spec (ws := wq_c_X12_script) B.pre
  have hown : s.vm.findClass RX12 = some m.cls := findClass_of_methodNamed B.named
  have hlocks := B.notSynchronized
  have hS : va_S A s.heap s.heap [] := va_S.rf
  have hk0 : Kp g [12, 30, 32, 33, 37, 41, 42] f f := Kp.rf
  have hl := lv_entry ([.ref h0, .int p1]) (n := 5) (Nat.le_of_ble_eq_true rfl)
  rw [lg_entry_eq]
  generalize (lg_sl ([.ref h0, .int p1]) ++ List.replicate (5 - (lg_sl ([.ref h0, .int p1])).length) Slot.unset).toArray = ls at hl ⊢
  have hl : lv_has ls 5 [(0, .ref h0), (1, .int p1)] := hl
  have i_1 := kw_12_4 hG i_h0
  have d_2 := rk_hd hc1_ok
  have i_3 := kw_12_5 hG i_h0
  have i_4 := kw_12_7 hG i_h0
  have i_5 := kw_12_8 hG i_h0
  have i_6 := kw_12_21 hG i_h0
  have i_7 := kw_12_22 hG i_h0
  refine lv_aload_n hx hb dX12_script_0 rfl (lv_at hl 0 rfl) ?_
  refine lv_iconst (v := 0) hx hb dX12_script_1 (by decide) ?_
  refine k_put (ci := 12) (v := .int 0) (ty := .int) (C := RX12) (T := TX12) (N := 27) hx hb hts (fun _ h0_ => List.mem_cons_of_mem _ (List.mem_append_right _ (List.mem_append_left _ h0_))) tyX12 tyX12_ok nmX12 hown hK hI hS i_h0.1 hc0 rfl 0 (by decide) (hts (.fieldLink RX12 67 "DeadlineShareModel" "thrown" "I") (List.mem_cons_of_mem _ (List.mem_append_left _ (List.mem_of_getElem? (i := 0) rfl)))) (fun _ h9 => h9) rfl (by decide +kernel) rfl rfl (Nat.le_of_ble_eq_true rfl) rfl (cl_12 i_h0 (by omega) (by omega) (by omega)) dX12_script_2 (fun f_8 H locs e_9 hI hS => ?_)
  have k_11 : f_8 h0 = .inr (12, [.int 0, .int z1, .ref (gr g h0 2), .ref (gr g h0 3), .ref (gr g h0 4), .ref (gr g h0 5), .ref (gr g h0 6), .ref (gr g h0 7), .ref (gr g h0 8), .ref (gr g h0 9), .int z10, .ref (gr g h0 11), .int z12, .int z13, .int z14, .int z15, .long z16, .int z17, .int z18, .ref (gr g h0 19), .ref (gr g h0 20), .ref (gr g h0 21), .ref (gr g h0 22), .int z23, .long z24, .long z25, .long z26]) := by rw [e_9]; exact va_up_self _ _ _
  have k_12 : f_8 (gr g h0 4) = .inl (gc g 1, 906, .inr (.inl q)) := by rw [e_9, va_up_ne _ _ (ik_ne i_1 i_h0 (by decide))]; exact hc1
  have k_13 : f_8 (gr g h0 5) = .inl (gc g 1, 9060, .inr (.inl u)) := by rw [e_9, va_up_ne _ _ (ik_ne i_3 i_h0 (by decide))]; exact hc2
  have k_14 : f_8 (gr g h0 7) = .inl (gc g 1, 1812, .inr (.inl im)) := by rw [e_9, va_up_ne _ _ (ik_ne i_4 i_h0 (by decide))]; exact hc3
  have k_15 : f_8 (gr g h0 8) = .inl (gc g 3, 2, .inl kt) := by rw [e_9, va_up_ne _ _ (ik_ne i_5 i_h0 (by decide))]; exact hc4
  have k_16 : f_8 (gr g h0 21) = .inl (gc g 0, 8, .inl kq) := by rw [e_9, va_up_ne _ _ (ik_ne i_6 i_h0 (by decide))]; exact hc5
  have k_17 : f_8 (gr g h0 22) = .inl (gc g 0, 8, .inl nq) := by rw [e_9, va_up_ne _ _ (ik_ne i_7 i_h0 (by decide))]; exact hc6
  have kp_10 := Kp.put hk0 i_h0 (by decide) e_9
  refine lv_aload_n hx hb dX12_script_5 rfl (lv_at hl 0 rfl) ?_
  refine lv_iload_n hx hb dX12_script_6 rfl (lv_at hl 1 rfl) ?_
  refine va_calli (va_runV (As := [.int p1]) (rest := []) ⟨hx, hb, hml, hown, hts⟩ (c_X12_isTask l dC dI g A hG f_8 h0 p1 q i_h0 k_12 hc1_ok) (cwV 1 hts (gi_V (fun w_ h0_ => ⟨List.mem_cons_of_mem _ (List.mem_append_right _ (List.mem_append_right _ (List.mem_append_left _ h0_))), (tb_c_X12_isTask w_ h0_).2⟩) (List.mem_cons_of_mem _ (List.mem_append_left _ (List.mem_of_getElem? (i := 1) rfl))) (List.mem_cons_of_mem _ (List.mem_append_left _ (List.mem_of_getElem? (i := 2) rfl))) (List.mem_cons_of_mem _ (List.mem_append_left _ (List.mem_of_getElem? (i := 3) rfl))) (List.mem_cons_of_mem _ (List.mem_append_left _ (List.mem_of_getElem? (i := 4) rfl)))) rfl rfl rfl (by decide +kernel) ⟨Nat.le_of_ble_eq_true rfl, Nat.le_of_ble_eq_true rfl⟩) ⟨fun a U g mk q => ⟨q.1, q.2.calling rfl rfl⟩, k_recv hK hI i_h0.1 k_11 (ci := 12) rfl, fun U hU hW => ⟨rfl, kIn.of hI hK hE hS hU hW⟩⟩ rfl rfl hl.1 rfl (lv_room (Nat.le_of_ble_eq_true rfl)) dX12_script_7 ⟨Nat.le_of_ble_eq_true rfl, Nat.le_of_ble_eq_true rfl⟩) hS (fun q _ h => h) (fun q h => h) (fun r_19 u9 t H1 locs ht hvm w_18 hB hz1 hk1 hS => ?_)
  have hI : Iv dC dI g A f_8 t.heap := hB
  rw [ht] at hI
  generalize H1 = H at hI hS ⊢
  refine W.widen (k := 0) (n := 0) (Nat.le_of_ble_eq_true rfl) (Nat.le_of_ble_eq_true rfl) ?_
  have w_18 : (r_19.toInt = 0 ∨ r_19.toInt = 1) ∧ (r_19.toInt = 0 ∨ (0 ≤ p1.toInt ∧ p1.toInt < (q 0).toInt)) := w_18
  refine lv_if_ne (tgt := 20) hx hb dX12_script_10 (by decide) (fun c_20 => ?_) (fun c_20 => ?_)
  · have c_20 := kn_eq rfl (by decide : Int32.toInt 0 = 0) c_20
    obtain ⟨m_21, em_21, tm_21⟩ := k_nat (x := p1) (by omega)
    refine lv_iload_n hx hb dX12_script_20 rfl (lv_at hl 1 rfl) ?_
    refine k_topi (y := nI m_21) em_21 ?_
    refine va_calli (va_runS (As := [.int (nI m_21)]) (rest := []) ⟨hx, hb, hml, hown, hts⟩ (c_X12_at l dC dI g A hG f_8 m_21) (va_cwS 1 hts (gi_S (fun w_ h0_ => ⟨List.mem_cons_of_mem _ (List.mem_append_right _ (List.mem_append_right _ (List.mem_append_right _ (List.mem_append_left _ h0_)))), (tb_c_X12_at w_ h0_).2⟩) (List.mem_cons_of_mem _ (List.mem_append_left _ (List.mem_of_getElem? (i := 5) rfl))) (List.mem_cons_of_mem _ (List.mem_append_left _ (List.mem_of_getElem? (i := 6) rfl))) (List.mem_cons_of_mem _ (List.mem_append_left _ (List.mem_of_getElem? (i := 4) rfl)))) rfl rfl rfl (by decide +kernel) ⟨Nat.le_of_ble_eq_true rfl, Nat.le_of_ble_eq_true rfl⟩) ⟨fun a U g mk q => ⟨q.1, q.2.calling rfl rfl⟩, fun U hU hW => ⟨rfl, kIn.of hI hK hE hS hU hW⟩⟩ rfl rfl hl.1 rfl (lv_room (Nat.le_of_ble_eq_true rfl)) dX12_script_21 ⟨Nat.le_of_ble_eq_true rfl, Nat.le_of_ble_eq_true rfl⟩) hS (fun q _ h => h) (fun q h => h) (fun r_23 u9 t H1 locs ht hvm w_22 hB hz1 hk1 hS => ?_)
    have hI : Iv dC dI g A f_8 t.heap := hB
    rw [ht] at hI
    generalize H1 = H at hI hS ⊢
    refine W.widen (k := 0) (n := 0) (Nat.le_of_ble_eq_true rfl) (Nat.le_of_ble_eq_true rfl) ?_
    have w_22 : r_23 = nI (6 + 43 * m_21) := w_22
    refine k_topi (y := nI (6 + 43 * m_21)) w_22 ?_
    refine lv_istore_n (lv' := [(2, .int (nI (6 + 43 * m_21))), (0, .ref h0), (1, .int p1)]) hx hb dX12_script_24 rfl hl (by decide) rfl (fun ls hl => ?_)
    refine lv_aload_n hx hb dX12_script_25 rfl (lv_at hl 1 rfl) ?_
    refine k_get (ci := 12) (v := .ref (gr g h0 4)) (C := RX12) (T := TX12) (N := 27) hx hb hts (fun _ h0_ => List.mem_cons_of_mem _ (List.mem_append_right _ (List.mem_append_left _ h0_))) hown hK hI i_h0.1 k_11 rfl 4 (by decide) (hts (.fieldLink RX12 16 "DeadlineShareModel" "row" "[J") (List.mem_cons_of_mem _ (List.mem_append_left _ (List.mem_of_getElem? (i := 7) rfl)))) (fun _ h9 => h9) rfl dX12_script_26 ?_
    refine lv_iload_n hx hb dX12_script_29 rfl (lv_at hl 0 rfl) ?_
    refine lv_iconst (v := 2) hx hb dX12_script_30 (by decide) ?_
    refine lv_iadd hx hb dX12_script_31 ?_
    refine k_topi (y := nI (6 + 43 * m_21 + 2)) ((nI_add (6 + 43 * m_21) 2).trans (congrArg nI (by omega))) ?_
    refine k_lald hx hb hK hI i_1.1 1 k_12 rfl (vp_in_nI (by omega) (by omega)) dX12_script_32 ?_
    refine k_topl (y := q (6 + 43 * m_21 + 2)) (congrArg q (nI_clamp (by omega))) ?_
    refine lv_lconst (v := 0) hx hb dX12_script_33 (by decide) ?_
    refine W.lcmp hx hb dX12_script_34 ?_
    have J_43 : ∀ (y_26 : Int32) (H : Heap) (locs : List Loc) (ls : Array Slot), Iv dC dI g A f_8 H → va_S A s.heap H locs → lv_has ls 5 [(2, .int (nI (6 + 43 * m_21))), (0, .ref h0), (1, .int p1)] → W p l e (headSpec wq_c_X12_script ({ frames := 6, cells := 0, slots := 0, locals := 142 } : Room)).room s m ([.ref h0, .int p1].toArray) below meth c H locs 0 0 (MQ below (va_Qi (fun (r : Int32) (_ : Unit) => True) (fun (_ : Unit) t => ∃ f1 : Nat → va_E, Iv dC dI g A f1 t.heap ∧ Kp g [12, 30, 32, 33, 37, 41, 42] f f1 ∧ ∃ (w0 : Int32) (w1 : Int32) (w10 : Int32) (w12 : Int32) (w13 : Int32) (w14 : Int32) (w15 : Int32) (w16 : Int64) (w17 : Int32) (w18 : Int32) (w23 : Int32) (w24 : Int64) (w25 : Int64) (w26 : Int64) (q1 : Nat → Int64) (u1 : Nat → Int64) (im1 : Nat → Int64) (ik1 : Nat → Int32), (f1 h0 = .inr (12, [.int w0, .int w1, .ref (gr g h0 2), .ref (gr g h0 3), .ref (gr g h0 4), .ref (gr g h0 5), .ref (gr g h0 6), .ref (gr g h0 7), .ref (gr g h0 8), .ref (gr g h0 9), .int w10, .ref (gr g h0 11), .int w12, .int w13, .int w14, .int w15, .long w16, .int w17, .int w18, .ref (gr g h0 19), .ref (gr g h0 20), .ref (gr g h0 21), .ref (gr g h0 22), .int w23, .long w24, .long w25, .long w26])) ∧ (0 ≤ w10.toInt ∧ w10.toInt ≤ 10) ∧ (0 ≤ w12.toInt ∧ w12.toInt ≤ 200) ∧ (0 ≤ w23.toInt ∧ w23.toInt ≤ 8) ∧ (f1 (gr g h0 4) = .inl (gc g 1, 906, .inr (.inl q1))) ∧ (RowOK q1) ∧ (f1 (gr g h0 5) = .inl (gc g 1, 9060, .inr (.inl u1))) ∧ (f1 (gr g h0 7) = .inl (gc g 1, 1812, .inr (.inl im1))) ∧ (f1 (gr g h0 8) = .inl (gc g 3, 2, .inl ik1)) ∧ (UIq w10 u1 im1 ik1)) A) ([.ref h0, .int p1].toArray) s 0 0 A) (F0 m 43 ls [.int y_26]) := by
      intro y_26 H locs ls hI hS  hl
      refine lv_istore_n (lv' := [(3, .int y_26), (2, .int (nI (6 + 43 * m_21))), (0, .ref h0), (1, .int p1)]) hx hb dX12_script_43 rfl hl (by decide) rfl (fun ls hl => ?_)
      refine lv_iload_n hx hb dX12_script_44 rfl (lv_at hl 0 rfl) ?_
      have J_79 : ∀ (H : Heap) (locs : List Loc) (ls : Array Slot), Iv dC dI g A f_8 H → va_S A s.heap H locs → lv_has ls 5 [(3, .int y_26), (2, .int (nI (6 + 43 * m_21))), (0, .ref h0), (1, .int p1)] → W p l e (headSpec wq_c_X12_script ({ frames := 6, cells := 0, slots := 0, locals := 142 } : Room)).room s m ([.ref h0, .int p1].toArray) below meth c H locs 0 0 (MQ below (va_Qi (fun (r : Int32) (_ : Unit) => True) (fun (_ : Unit) t => ∃ f1 : Nat → va_E, Iv dC dI g A f1 t.heap ∧ Kp g [12, 30, 32, 33, 37, 41, 42] f f1 ∧ ∃ (w0 : Int32) (w1 : Int32) (w10 : Int32) (w12 : Int32) (w13 : Int32) (w14 : Int32) (w15 : Int32) (w16 : Int64) (w17 : Int32) (w18 : Int32) (w23 : Int32) (w24 : Int64) (w25 : Int64) (w26 : Int64) (q1 : Nat → Int64) (u1 : Nat → Int64) (im1 : Nat → Int64) (ik1 : Nat → Int32), (f1 h0 = .inr (12, [.int w0, .int w1, .ref (gr g h0 2), .ref (gr g h0 3), .ref (gr g h0 4), .ref (gr g h0 5), .ref (gr g h0 6), .ref (gr g h0 7), .ref (gr g h0 8), .ref (gr g h0 9), .int w10, .ref (gr g h0 11), .int w12, .int w13, .int w14, .int w15, .long w16, .int w17, .int w18, .ref (gr g h0 19), .ref (gr g h0 20), .ref (gr g h0 21), .ref (gr g h0 22), .int w23, .long w24, .long w25, .long w26])) ∧ (0 ≤ w10.toInt ∧ w10.toInt ≤ 10) ∧ (0 ≤ w12.toInt ∧ w12.toInt ≤ 200) ∧ (0 ≤ w23.toInt ∧ w23.toInt ≤ 8) ∧ (f1 (gr g h0 4) = .inl (gc g 1, 906, .inr (.inl q1))) ∧ (RowOK q1) ∧ (f1 (gr g h0 5) = .inl (gc g 1, 9060, .inr (.inl u1))) ∧ (f1 (gr g h0 7) = .inl (gc g 1, 1812, .inr (.inl im1))) ∧ (f1 (gr g h0 8) = .inl (gc g 3, 2, .inl ik1)) ∧ (UIq w10 u1 im1 ik1)) A) ([.ref h0, .int p1].toArray) s 0 0 A) (F0 m 79 ls []) := by
        intro H locs ls hI hS  hl
        refine lv_iload_n hx hb dX12_script_79 rfl (lv_at hl 0 rfl) ?_
        have J_98 : ∀ (H : Heap) (locs : List Loc) (ls : Array Slot), Iv dC dI g A f_8 H → va_S A s.heap H locs → lv_has ls 5 [(3, .int y_26), (2, .int (nI (6 + 43 * m_21))), (0, .ref h0), (1, .int p1)] → W p l e (headSpec wq_c_X12_script ({ frames := 6, cells := 0, slots := 0, locals := 142 } : Room)).room s m ([.ref h0, .int p1].toArray) below meth c H locs 0 0 (MQ below (va_Qi (fun (r : Int32) (_ : Unit) => True) (fun (_ : Unit) t => ∃ f1 : Nat → va_E, Iv dC dI g A f1 t.heap ∧ Kp g [12, 30, 32, 33, 37, 41, 42] f f1 ∧ ∃ (w0 : Int32) (w1 : Int32) (w10 : Int32) (w12 : Int32) (w13 : Int32) (w14 : Int32) (w15 : Int32) (w16 : Int64) (w17 : Int32) (w18 : Int32) (w23 : Int32) (w24 : Int64) (w25 : Int64) (w26 : Int64) (q1 : Nat → Int64) (u1 : Nat → Int64) (im1 : Nat → Int64) (ik1 : Nat → Int32), (f1 h0 = .inr (12, [.int w0, .int w1, .ref (gr g h0 2), .ref (gr g h0 3), .ref (gr g h0 4), .ref (gr g h0 5), .ref (gr g h0 6), .ref (gr g h0 7), .ref (gr g h0 8), .ref (gr g h0 9), .int w10, .ref (gr g h0 11), .int w12, .int w13, .int w14, .int w15, .long w16, .int w17, .int w18, .ref (gr g h0 19), .ref (gr g h0 20), .ref (gr g h0 21), .ref (gr g h0 22), .int w23, .long w24, .long w25, .long w26])) ∧ (0 ≤ w10.toInt ∧ w10.toInt ≤ 10) ∧ (0 ≤ w12.toInt ∧ w12.toInt ≤ 200) ∧ (0 ≤ w23.toInt ∧ w23.toInt ≤ 8) ∧ (f1 (gr g h0 4) = .inl (gc g 1, 906, .inr (.inl q1))) ∧ (RowOK q1) ∧ (f1 (gr g h0 5) = .inl (gc g 1, 9060, .inr (.inl u1))) ∧ (f1 (gr g h0 7) = .inl (gc g 1, 1812, .inr (.inl im1))) ∧ (f1 (gr g h0 8) = .inl (gc g 3, 2, .inl ik1)) ∧ (UIq w10 u1 im1 ik1)) A) ([.ref h0, .int p1].toArray) s 0 0 A) (F0 m 98 ls []) := by
          intro H locs ls hI hS  hl
          refine lv_aload_n hx hb dX12_script_98 rfl (lv_at hl 2 rfl) ?_
          refine va_callv (va_runV (As := []) (rest := []) ⟨hx, hb, hml, hown, hts⟩ (c_X12_readScript l dC dI g A hG f_8 h0 0 z1 z10 z12 z13 z14 z15 z16 z17 z18 z23 z24 z25 z26 kq nq i_h0 k_11 (by first | omega | (simp only [k_c0]; omega)) (by first | omega | (simp only [k_c0]; omega)) (by first | omega | (simp only [k_c0]; omega)) k_16 k_17) (cwV 0 hts (gi_V (fun w_ h0_ => ⟨List.mem_cons_of_mem _ (List.mem_append_right _ (List.mem_append_right _ (List.mem_append_right _ (List.mem_append_right _ (List.mem_append_left _ h0_))))), (tb_c_X12_readScript w_ h0_).2⟩) (List.mem_cons_of_mem _ (List.mem_append_left _ (List.mem_of_getElem? (i := 8) rfl))) (List.mem_cons_of_mem _ (List.mem_append_left _ (List.mem_of_getElem? (i := 9) rfl))) (List.mem_cons_of_mem _ (List.mem_append_left _ (List.mem_of_getElem? (i := 10) rfl))) (List.mem_cons_of_mem _ (List.mem_append_left _ (List.mem_of_getElem? (i := 4) rfl)))) rfl rfl rfl (by decide +kernel) ⟨Nat.le_of_ble_eq_true rfl, Nat.le_of_ble_eq_true rfl⟩) ⟨fun a U g mk q => ⟨q.1, q.2.calling rfl rfl⟩, k_recv hK hI i_h0.1 k_11 (ci := 12) rfl, fun U hU hW => ⟨rfl, kIn.of hI hK hE hS hU hW⟩⟩ rfl rfl hl.1 rfl (lv_room (Nat.le_of_ble_eq_true rfl)) dX12_script_99 ⟨Nat.le_of_ble_eq_true rfl, Nat.le_of_ble_eq_true rfl⟩) hS (fun q _ h => h) (fun q h => h) (fun u9 t H1 locs ht hvm _ hB hz1 hk1 hS => ?_)
          obtain ⟨f_27, hI, kc_29, w13_30, w14_31, w15_32, w16_33, w17_34, w18_35, w23_36, kq1_37, nq1_38, k_39, z_40, k_41, k_42, z_43⟩ := hB
          rw [ht] at hI
          have k_44 : f_27 (gr g h0 4) = .inl (gc g 1, 906, .inr (.inl q)) := Kp.at kc_29 i_1 (by decide) k_12
          have k_45 : f_27 (gr g h0 5) = .inl (gc g 1, 9060, .inr (.inl u)) := Kp.at kc_29 i_3 (by decide) k_13
          have k_46 : f_27 (gr g h0 7) = .inl (gc g 1, 1812, .inr (.inl im)) := Kp.at kc_29 i_4 (by decide) k_14
          have k_47 : f_27 (gr g h0 8) = .inl (gc g 3, 2, .inl kt) := Kp.at kc_29 i_5 (by decide) k_15
          have k_39 : f_27 h0 = .inr (12, [.int (0 : Int32), .int z1, .ref (gr g h0 2), .ref (gr g h0 3), .ref (gr g h0 4), .ref (gr g h0 5), .ref (gr g h0 6), .ref (gr g h0 7), .ref (gr g h0 8), .ref (gr g h0 9), .int z10, .ref (gr g h0 11), .int z12, .int w13_30, .int w14_31, .int w15_32, .long w16_33, .int w17_34, .int w18_35, .ref (gr g h0 19), .ref (gr g h0 20), .ref (gr g h0 21), .ref (gr g h0 22), .int w23_36, .long z24, .long z25, .long z26]) := k_39
          have z_40 : 0 ≤ w23_36.toInt ∧ w23_36.toInt ≤ 8 := z_40
          have z_43 : NBi w18_35 w23_36 kq1_37 nq1_38 := z_43
          have kp_48 := Kp.call kp_10 kc_29 (by decide)
          generalize H1 = H at hI hS ⊢
          refine W.widen (k := 0) (n := 0) (Nat.le_of_ble_eq_true rfl) (Nat.le_of_ble_eq_true rfl) ?_
          refine lv_aload_n hx hb dX12_script_102 rfl (lv_at hl 2 rfl) ?_
          refine lv_iconst (v := 0) hx hb dX12_script_103 (by decide) ?_
          have b_49 : 0 ≤ Int32.toInt 0 ∧ Int32.toInt 0 ≤ 200 := (by decide)
          refine k_put (ci := 12) (v := .int 0) (ty := .int) (C := RX12) (T := TX12) (N := 27) hx hb hts (fun _ h0_ => List.mem_cons_of_mem _ (List.mem_append_right _ (List.mem_append_left _ h0_))) tyX12 tyX12_ok nmX12 hown hK hI hS i_h0.1 k_39 rfl 12 (by decide) (hts (.fieldLink RX12 128 "DeadlineShareModel" "taped" "I") (List.mem_cons_of_mem _ (List.mem_append_left _ (List.mem_of_getElem? (i := 11) rfl)))) (fun _ h9 => h9) rfl (by decide +kernel) rfl rfl (Nat.le_of_ble_eq_true rfl) rfl (cl_12 i_h0 (by omega) b_49 (by omega)) dX12_script_104 (fun f_50 H locs e_51 hI hS => ?_)
          have k_53 : f_50 (gr g h0 4) = .inl (gc g 1, 906, .inr (.inl q)) := by rw [e_51, va_up_ne _ _ (ik_ne i_1 i_h0 (by decide))]; exact k_44
          have k_54 : f_50 (gr g h0 5) = .inl (gc g 1, 9060, .inr (.inl u)) := by rw [e_51, va_up_ne _ _ (ik_ne i_3 i_h0 (by decide))]; exact k_45
          have k_55 : f_50 (gr g h0 7) = .inl (gc g 1, 1812, .inr (.inl im)) := by rw [e_51, va_up_ne _ _ (ik_ne i_4 i_h0 (by decide))]; exact k_46
          have k_56 : f_50 (gr g h0 8) = .inl (gc g 3, 2, .inl kt) := by rw [e_51, va_up_ne _ _ (ik_ne i_5 i_h0 (by decide))]; exact k_47
          have k_57 : f_50 h0 = .inr (12, [.int (0 : Int32), .int z1, .ref (gr g h0 2), .ref (gr g h0 3), .ref (gr g h0 4), .ref (gr g h0 5), .ref (gr g h0 6), .ref (gr g h0 7), .ref (gr g h0 8), .ref (gr g h0 9), .int z10, .ref (gr g h0 11), .int 0, .int w13_30, .int w14_31, .int w15_32, .long w16_33, .int w17_34, .int w18_35, .ref (gr g h0 19), .ref (gr g h0 20), .ref (gr g h0 21), .ref (gr g h0 22), .int w23_36, .long z24, .long z25, .long z26]) := by rw [e_51]; exact va_up_self _ _ _
          have k_58 : f_50 (gr g h0 21) = .inl (gc g 0, 8, .inl kq1_37) := by rw [e_51, va_up_ne _ _ (ik_ne i_6 i_h0 (by decide))]; exact k_41
          have k_59 : f_50 (gr g h0 22) = .inl (gc g 0, 8, .inl nq1_38) := by rw [e_51, va_up_ne _ _ (ik_ne i_7 i_h0 (by decide))]; exact k_42
          have kp_52 := Kp.put kp_48 i_h0 (by decide) e_51
          refine lv_aload_n hx hb dX12_script_107 rfl (lv_at hl 2 rfl) ?_
          refine k_get (ci := 12) (v := .int w18_35) (C := RX12) (T := TX12) (N := 27) hx hb hts (fun _ h0_ => List.mem_cons_of_mem _ (List.mem_append_right _ (List.mem_append_left _ h0_))) hown hK hI i_h0.1 k_57 rfl 18 (by decide) (hts (.fieldLink RX12 201 "DeadlineShareModel" "bad" "Z") (List.mem_cons_of_mem _ (List.mem_append_left _ (List.mem_of_getElem? (i := 12) rfl)))) (fun _ h9 => h9) rfl dX12_script_108 ?_
          refine lv_if_eq (tgt := 121) hx hb dX12_script_111 (by decide) (fun c_60 => ?_) (fun c_60 => ?_)
          · have c_60 := kc_eq rfl (by decide : Int32.toInt 0 = 0) c_60
            refine lv_aload_n hx hb dX12_script_121 rfl (lv_at hl 2 rfl) ?_
            refine lv_iconst (v := 5) hx hb dX12_script_122 (by decide) ?_
            refine va_callv (va_runV (As := [.int 5]) (rest := []) ⟨hx, hb, hml, hown, hts⟩ (c_X12_remember l dC dI g A hG f_50 h0 5 (0 : Int32) z1 z10 0 w13_30 w14_31 w15_32 w16_33 w17_34 w18_35 w23_36 z24 z25 z26 q u im kt i_h0 k_57 (by first | omega | (simp only [k_c0]; omega)) (by decide) (by first | omega | (simp only [k_c0]; omega)) k_53 hc1_ok k_54 k_55 k_56 (by first | omega | decide | (simp only [show Int32.toInt 5 = 5 from by decide] <;> omega))) (cwV 1 hts (gi_V (fun w_ h0_ => ⟨List.mem_cons_of_mem _ (List.mem_append_right _ (List.mem_append_right _ (List.mem_append_right _ (List.mem_append_right _ (List.mem_append_right _ (List.mem_append_left _ h0_)))))), (tb_c_X12_remember w_ h0_).2⟩) (List.mem_cons_of_mem _ (List.mem_append_left _ (List.mem_of_getElem? (i := 13) rfl))) (List.mem_cons_of_mem _ (List.mem_append_left _ (List.mem_of_getElem? (i := 14) rfl))) (List.mem_cons_of_mem _ (List.mem_append_left _ (List.mem_of_getElem? (i := 15) rfl))) (List.mem_cons_of_mem _ (List.mem_append_left _ (List.mem_of_getElem? (i := 4) rfl)))) rfl rfl rfl (by decide +kernel) ⟨Nat.le_of_ble_eq_true rfl, Nat.le_of_ble_eq_true rfl⟩) ⟨fun a U g mk q => ⟨q.1, q.2.calling rfl rfl⟩, k_recv hK hI i_h0.1 k_57 (ci := 12) rfl, fun U hU hW => ⟨rfl, kIn.of hI hK hE hS hU hW⟩⟩ rfl rfl hl.1 rfl (lv_room (Nat.le_of_ble_eq_true rfl)) dX12_script_123 ⟨Nat.le_of_ble_eq_true rfl, Nat.le_of_ble_eq_true rfl⟩) hS (fun q _ h => h) (fun q h => h) (fun u9 t H1 locs ht hvm _ hB hz1 hk1 hS => ?_)
            obtain ⟨f_61, hI, kc_63, w10_64, u1_65, k_66, z_67, k_68, z_69⟩ := hB
            rw [ht] at hI
            have k_70 : f_61 (gr g h0 4) = .inl (gc g 1, 906, .inr (.inl q)) := Kp.at kc_63 i_1 (by decide) k_53
            have k_71 : f_61 (gr g h0 7) = .inl (gc g 1, 1812, .inr (.inl im)) := Kp.at kc_63 i_4 (by decide) k_55
            have k_72 : f_61 (gr g h0 8) = .inl (gc g 3, 2, .inl kt) := Kp.at kc_63 i_5 (by decide) k_56
            have k_73 : f_61 (gr g h0 21) = .inl (gc g 0, 8, .inl kq1_37) := Kp.at kc_63 i_6 (by decide) k_58
            have k_74 : f_61 (gr g h0 22) = .inl (gc g 0, 8, .inl nq1_38) := Kp.at kc_63 i_7 (by decide) k_59
            have k_66 : f_61 h0 = .inr (12, [.int (0 : Int32), .int z1, .ref (gr g h0 2), .ref (gr g h0 3), .ref (gr g h0 4), .ref (gr g h0 5), .ref (gr g h0 6), .ref (gr g h0 7), .ref (gr g h0 8), .ref (gr g h0 9), .int w10_64, .ref (gr g h0 11), .int (0 : Int32), .int w13_30, .int w14_31, .int w15_32, .long w16_33, .int w17_34, .int w18_35, .ref (gr g h0 19), .ref (gr g h0 20), .ref (gr g h0 21), .ref (gr g h0 22), .int w23_36, .long z24, .long z25, .long z26]) := k_66
            have z_67 : 0 ≤ w10_64.toInt ∧ w10_64.toInt ≤ 10 := z_67
            have z_69 : UIq w10_64 u1_65 im kt := z_69
            have kp_75 := Kp.call kp_52 kc_63 (by decide)
            generalize H1 = H at hI hS ⊢
            refine W.widen (k := 0) (n := 0) (Nat.le_of_ble_eq_true rfl) (Nat.le_of_ble_eq_true rfl) ?_
            refine lv_iconst (v := 0) hx hb dX12_script_126 (by decide) ?_
            refine lv_istore (lv' := [(4, .int 0), (3, .int y_26), (2, .int (nI (6 + 43 * m_21))), (0, .ref h0), (1, .int p1)]) hx hb dX12_script_127 hl (by decide) rfl (fun ls hl => ?_)
            have K_129 : ∀ (nn : Nat) (y_76 : Nat) (q_78 : Nat → Int64) (f_77 : Nat → va_E) (H : Heap) (locs : List Loc) (ls : Array Slot), 8 - y_76 < nn → Iv dC dI g A f_77 H → va_S A s.heap H locs → f_77 (gr g h0 4) = .inl (gc g 1, 906, .inr (.inl q_78)) → f_77 (gr g h0 7) = .inl (gc g 1, 1812, .inr (.inl im)) → f_77 (gr g h0 8) = .inl (gc g 3, 2, .inl kt) → f_77 (gr g h0 21) = .inl (gc g 0, 8, .inl kq1_37) → f_77 (gr g h0 22) = .inl (gc g 0, 8, .inl nq1_38) → f_77 h0 = .inr (12, [.int (0 : Int32), .int z1, .ref (gr g h0 2), .ref (gr g h0 3), .ref (gr g h0 4), .ref (gr g h0 5), .ref (gr g h0 6), .ref (gr g h0 7), .ref (gr g h0 8), .ref (gr g h0 9), .int w10_64, .ref (gr g h0 11), .int (0 : Int32), .int w13_30, .int w14_31, .int w15_32, .long w16_33, .int w17_34, .int w18_35, .ref (gr g h0 19), .ref (gr g h0 20), .ref (gr g h0 21), .ref (gr g h0 22), .int w23_36, .long z24, .long z25, .long z26]) → f_77 (gr g h0 5) = .inl (gc g 1, 9060, .inr (.inl u1_65)) → Kp g [12, 30, 32, 33, 37, 41, 42] f f_77 → (y_76 ≤ 8) → (RowX q_78 m_21) → (∀ j : Nat, j < y_76 → (q_78 (6 + 43 * m_21 + 16 + j)).toInt = (kq1_37 j).toInt ∧ (q_78 (6 + 43 * m_21 + 24 + j)).toInt = (nq1_38 j).toInt ∧ (q_78 (6 + 43 * m_21 + 32 + j)).toInt = (nq1_38 j).toInt) → ((q_78 0).toInt = (q 0).toInt) → ((q_78 1).toInt = (q 1).toInt) → lv_has ls 5 [(4, .int (nI y_76)), (3, .int y_26), (2, .int (nI (6 + 43 * m_21))), (0, .ref h0), (1, .int p1)] → W p l e (headSpec wq_c_X12_script ({ frames := 6, cells := 0, slots := 0, locals := 142 } : Room)).room s m ([.ref h0, .int p1].toArray) below meth c H locs 0 0 (MQ below (va_Qi (fun (r : Int32) (_ : Unit) => True) (fun (_ : Unit) t => ∃ f1 : Nat → va_E, Iv dC dI g A f1 t.heap ∧ Kp g [12, 30, 32, 33, 37, 41, 42] f f1 ∧ ∃ (w0 : Int32) (w1 : Int32) (w10 : Int32) (w12 : Int32) (w13 : Int32) (w14 : Int32) (w15 : Int32) (w16 : Int64) (w17 : Int32) (w18 : Int32) (w23 : Int32) (w24 : Int64) (w25 : Int64) (w26 : Int64) (q1 : Nat → Int64) (u1 : Nat → Int64) (im1 : Nat → Int64) (ik1 : Nat → Int32), (f1 h0 = .inr (12, [.int w0, .int w1, .ref (gr g h0 2), .ref (gr g h0 3), .ref (gr g h0 4), .ref (gr g h0 5), .ref (gr g h0 6), .ref (gr g h0 7), .ref (gr g h0 8), .ref (gr g h0 9), .int w10, .ref (gr g h0 11), .int w12, .int w13, .int w14, .int w15, .long w16, .int w17, .int w18, .ref (gr g h0 19), .ref (gr g h0 20), .ref (gr g h0 21), .ref (gr g h0 22), .int w23, .long w24, .long w25, .long w26])) ∧ (0 ≤ w10.toInt ∧ w10.toInt ≤ 10) ∧ (0 ≤ w12.toInt ∧ w12.toInt ≤ 200) ∧ (0 ≤ w23.toInt ∧ w23.toInt ≤ 8) ∧ (f1 (gr g h0 4) = .inl (gc g 1, 906, .inr (.inl q1))) ∧ (RowOK q1) ∧ (f1 (gr g h0 5) = .inl (gc g 1, 9060, .inr (.inl u1))) ∧ (f1 (gr g h0 7) = .inl (gc g 1, 1812, .inr (.inl im1))) ∧ (f1 (gr g h0 8) = .inl (gc g 3, 2, .inl ik1)) ∧ (UIq w10 u1 im1 ik1)) A) ([.ref h0, .int p1].toArray) s 0 0 A) (F0 m 129 ls []) := by
              intro nn
              induction nn with
              | zero => intro y_76 q_78 f_77 H locs ls m_92; exact absurd m_92 (Nat.not_lt_zero _)
              | succ nn ih =>
                intro y_76 q_78 f_77 H locs ls m_92 hI hS k_79 k_80 k_81 k_82 k_83 k_84 k_85 kp_86 t_87 t_88 t_89 t_90 t_91 hl
                refine lv_iload hx hb dX12_script_129 (lv_at hl 0 rfl) ?_
                refine lv_bipush (v := 8) hx hb dX12_script_131 (by decide) ?_
                refine lv_icmp_ge (tgt := 202) hx hb dX12_script_133 (by decide) (fun c_93 => ?_) (fun c_93 => ?_)
                · have c_93 := kc_le (by decide : Int32.toInt 8 = 8) (nI_toInt (n := y_76) (by omega)) c_93
                  refine lv_aload_n hx hb dX12_script_202 rfl (lv_at hl 3 rfl) ?_
                  refine k_get (ci := 12) (v := .ref (gr g h0 4)) (C := RX12) (T := TX12) (N := 27) hx hb hts (fun _ h0_ => List.mem_cons_of_mem _ (List.mem_append_right _ (List.mem_append_left _ h0_))) hown hK hI i_h0.1 k_84 rfl 4 (by decide) (hts (.fieldLink RX12 16 "DeadlineShareModel" "row" "[J") (List.mem_cons_of_mem _ (List.mem_append_left _ (List.mem_of_getElem? (i := 7) rfl)))) (fun _ h9 => h9) rfl dX12_script_203 ?_
                  refine lv_iload_n hx hb dX12_script_206 rfl (lv_at hl 2 rfl) ?_
                  refine lv_bipush (v := 13) hx hb dX12_script_207 (by decide) ?_
                  refine lv_iadd hx hb dX12_script_209 ?_
                  refine k_topi (y := nI (6 + 43 * m_21 + 13)) ((nI_add (6 + 43 * m_21) 13).trans (congrArg nI (by omega))) ?_
                  refine lv_aload_n hx hb dX12_script_210 rfl (lv_at hl 3 rfl) ?_
                  refine k_get (ci := 12) (v := .int w23_36) (C := RX12) (T := TX12) (N := 27) hx hb hts (fun _ h0_ => List.mem_cons_of_mem _ (List.mem_append_right _ (List.mem_append_left _ h0_))) hown hK hI i_h0.1 k_84 rfl 23 (by decide) (hts (.fieldLink RX12 208 "DeadlineShareModel" "nSteps" "I") (List.mem_cons_of_mem _ (List.mem_append_left _ (List.mem_of_getElem? (i := 16) rfl)))) (fun _ h9 => h9) rfl dX12_script_211 ?_
                  refine lv_i2l (v := w23_36.toInt64) hx hb dX12_script_214 rfl ?_
                  have t_96 := Int32.toInt_toInt64 w23_36
                  refine k_last hx hb hK hI hS i_1.1 1 k_79 rfl (vp_in_nI (by omega) (by omega)) (cl_32 i_1) dX12_script_215 (fun f_97 H locs e_98 hI hS => ?_)
                  generalize eq_99 : vp_updL q_78 (Int32.toNatClampNeg (nI (6 + 43 * m_21 + 13))) w23_36.toInt64 = q_99 at e_98
                  have k_101 : f_97 (gr g h0 4) = .inl (gc g 1, 906, .inr (.inl q_99)) := by rw [e_98]; exact va_up_self _ _ _
                  have k_102 : f_97 (gr g h0 7) = .inl (gc g 1, 1812, .inr (.inl im)) := by rw [e_98, va_up_ne _ _ (ik_ne i_4 i_1 (by decide))]; exact k_80
                  have k_103 : f_97 (gr g h0 8) = .inl (gc g 3, 2, .inl kt) := by rw [e_98, va_up_ne _ _ (ik_ne i_5 i_1 (by decide))]; exact k_81
                  have k_104 : f_97 (gr g h0 21) = .inl (gc g 0, 8, .inl kq1_37) := by rw [e_98, va_up_ne _ _ (ik_ne i_6 i_1 (by decide))]; exact k_82
                  have k_105 : f_97 (gr g h0 22) = .inl (gc g 0, 8, .inl nq1_38) := by rw [e_98, va_up_ne _ _ (ik_ne i_7 i_1 (by decide))]; exact k_83
                  have k_106 : f_97 h0 = .inr (12, [.int (0 : Int32), .int z1, .ref (gr g h0 2), .ref (gr g h0 3), .ref (gr g h0 4), .ref (gr g h0 5), .ref (gr g h0 6), .ref (gr g h0 7), .ref (gr g h0 8), .ref (gr g h0 9), .int w10_64, .ref (gr g h0 11), .int (0 : Int32), .int w13_30, .int w14_31, .int w15_32, .long w16_33, .int w17_34, .int w18_35, .ref (gr g h0 19), .ref (gr g h0 20), .ref (gr g h0 21), .ref (gr g h0 22), .int w23_36, .long z24, .long z25, .long z26]) := by rw [e_98, va_up_ne _ _ (ik_ne i_h0 i_1 (by decide))]; exact k_84
                  have k_107 : f_97 (gr g h0 5) = .inl (gc g 1, 9060, .inr (.inl u1_65)) := by rw [e_98, va_up_ne _ _ (ik_ne i_3 i_1 (by decide))]; exact k_85
                  have kp_100 := Kp.put kp_86 i_1 (by decide) e_98
                  have u_108 : vp_updL q_78 (6 + 43 * m_21 + 13) w23_36.toInt64 = q_99 := by rw [← eq_99, show Int32.toNatClampNeg (nI (6 + 43 * m_21 + 13)) = 6 + 43 * m_21 + 13 from (nI_clamp (by omega))]
                  have d_111 := ap_41 hI i_6 k_104
                  have d_110 : NBq w23_36 kq1_37 nq1_38 := z_43 (by omega)
                  have ok_109 : RowOK q_99 := by rw [← u_108]; exact rx_to t_88 (by omega) (by omega) (by omega) (fun k9 h9 => by have g1 := t_89 k9 (by omega); have g2 := d_111 k9 h9; have g3 := d_110 k9; omega)
                  have d_112 := rk_hd ok_109
                  have n_113 : (q_99 0).toInt = (q_78 0).toInt := by rw [← u_108, pk_uLn (by omega)]
                  have n_114 : (q_99 1).toInt = (q_78 1).toInt := by rw [← u_108, pk_uLn (by omega)]
                  have n_115 : (q_99 3).toInt = (q_78 3).toInt := by rw [← u_108, pk_uLn (by omega)]
                  have n_116 : (q_99 4).toInt = (q_78 4).toInt := by rw [← u_108, pk_uLn (by omega)]
                  have n_117 : (q_99 5).toInt = (q_78 5).toInt := by rw [← u_108, pk_uLn (by omega)]
                  refine lv_iload_n hx hb dX12_script_216 rfl (lv_at hl 1 rfl) ?_
                  have J_225 : ∀ (q_119 : Nat → Int64) (f_118 : Nat → va_E) (H : Heap) (locs : List Loc) (ls : Array Slot), Iv dC dI g A f_118 H → va_S A s.heap H locs → f_118 (gr g h0 4) = .inl (gc g 1, 906, .inr (.inl q_119)) → RowOK q_119 → f_118 (gr g h0 7) = .inl (gc g 1, 1812, .inr (.inl im)) → f_118 (gr g h0 8) = .inl (gc g 3, 2, .inl kt) → f_118 (gr g h0 21) = .inl (gc g 0, 8, .inl kq1_37) → f_118 (gr g h0 22) = .inl (gc g 0, 8, .inl nq1_38) → f_118 h0 = .inr (12, [.int (0 : Int32), .int z1, .ref (gr g h0 2), .ref (gr g h0 3), .ref (gr g h0 4), .ref (gr g h0 5), .ref (gr g h0 6), .ref (gr g h0 7), .ref (gr g h0 8), .ref (gr g h0 9), .int w10_64, .ref (gr g h0 11), .int (0 : Int32), .int w13_30, .int w14_31, .int w15_32, .long w16_33, .int w17_34, .int w18_35, .ref (gr g h0 19), .ref (gr g h0 20), .ref (gr g h0 21), .ref (gr g h0 22), .int w23_36, .long z24, .long z25, .long z26]) → f_118 (gr g h0 5) = .inl (gc g 1, 9060, .inr (.inl u1_65)) → Kp g [12, 30, 32, 33, 37, 41, 42] f f_118 → ((q_119 0).toInt = (q 0).toInt) → ((q_119 1).toInt = (q 1).toInt) → lv_has ls 5 [(4, .int (nI y_76)), (3, .int y_26), (2, .int (nI (6 + 43 * m_21))), (0, .ref h0), (1, .int p1)] → W p l e (headSpec wq_c_X12_script ({ frames := 6, cells := 0, slots := 0, locals := 142 } : Room)).room s m ([.ref h0, .int p1].toArray) below meth c H locs 0 0 (MQ below (va_Qi (fun (r : Int32) (_ : Unit) => True) (fun (_ : Unit) t => ∃ f1 : Nat → va_E, Iv dC dI g A f1 t.heap ∧ Kp g [12, 30, 32, 33, 37, 41, 42] f f1 ∧ ∃ (w0 : Int32) (w1 : Int32) (w10 : Int32) (w12 : Int32) (w13 : Int32) (w14 : Int32) (w15 : Int32) (w16 : Int64) (w17 : Int32) (w18 : Int32) (w23 : Int32) (w24 : Int64) (w25 : Int64) (w26 : Int64) (q1 : Nat → Int64) (u1 : Nat → Int64) (im1 : Nat → Int64) (ik1 : Nat → Int32), (f1 h0 = .inr (12, [.int w0, .int w1, .ref (gr g h0 2), .ref (gr g h0 3), .ref (gr g h0 4), .ref (gr g h0 5), .ref (gr g h0 6), .ref (gr g h0 7), .ref (gr g h0 8), .ref (gr g h0 9), .int w10, .ref (gr g h0 11), .int w12, .int w13, .int w14, .int w15, .long w16, .int w17, .int w18, .ref (gr g h0 19), .ref (gr g h0 20), .ref (gr g h0 21), .ref (gr g h0 22), .int w23, .long w24, .long w25, .long w26])) ∧ (0 ≤ w10.toInt ∧ w10.toInt ≤ 10) ∧ (0 ≤ w12.toInt ∧ w12.toInt ≤ 200) ∧ (0 ≤ w23.toInt ∧ w23.toInt ≤ 8) ∧ (f1 (gr g h0 4) = .inl (gc g 1, 906, .inr (.inl q1))) ∧ (RowOK q1) ∧ (f1 (gr g h0 5) = .inl (gc g 1, 9060, .inr (.inl u1))) ∧ (f1 (gr g h0 7) = .inl (gc g 1, 1812, .inr (.inl im1))) ∧ (f1 (gr g h0 8) = .inl (gc g 3, 2, .inl ik1)) ∧ (UIq w10 u1 im1 ik1)) A) ([.ref h0, .int p1].toArray) s 0 0 A) (F0 m 225 ls []) := by
                    intro q_119 f_118 H locs ls hI hS k_120 ok_121 k_122 k_123 k_124 k_125 k_126 k_127 kp_128 t_129 t_130 hl
                    have d_131 := rk_hd ok_121
                    refine lv_aload_n hx hb dX12_script_225 rfl (lv_at hl 3 rfl) ?_
                    refine lv_iload_n hx hb dX12_script_226 rfl (lv_at hl 4 rfl) ?_
                    refine k_topi (y := nI m_21) em_21 ?_
                    refine lv_iconst (v := 0) hx hb dX12_script_227 (by decide) ?_
                    refine lv_aload_n hx hb dX12_script_228 rfl (lv_at hl 3 rfl) ?_
                    refine k_get (ci := 12) (v := .ref (gr g h0 4)) (C := RX12) (T := TX12) (N := 27) hx hb hts (fun _ h0_ => List.mem_cons_of_mem _ (List.mem_append_right _ (List.mem_append_left _ h0_))) hown hK hI i_h0.1 k_126 rfl 4 (by decide) (hts (.fieldLink RX12 16 "DeadlineShareModel" "row" "[J") (List.mem_cons_of_mem _ (List.mem_append_left _ (List.mem_of_getElem? (i := 7) rfl)))) (fun _ h9 => h9) rfl dX12_script_229 ?_
                    refine lv_iconst (v := 1) hx hb dX12_script_232 (by decide) ?_
                    refine k_lald hx hb hK hI i_1.1 1 k_120 rfl (by unfold vp_in; decide) dX12_script_233 ?_
                    refine k_topl (y := q_119 1) (congrArg q_119 (show Int32.toNatClampNeg 1 = 1 by decide)) ?_
                    refine va_callv (va_runV (As := [.int (nI m_21), .int 0, .long (q_119 1)]) (rest := []) ⟨hx, hb, hml, hown, hts⟩ (c_X12_goOn l dC dI g A hG f_118 h0 m_21 0 (q_119 1) q_119 i_h0 k_120 ok_121 (by first | omega | decide | (simp only [show Int32.toInt 0 = 0 from by decide] <;> omega)) (by first | omega | decide | (simp only [show Int32.toInt 0 = 0 from by decide] <;> omega))) (cwV 3 hts (gi_V (fun w_ h0_ => ⟨List.mem_cons_of_mem _ (List.mem_append_right _ (List.mem_append_right _ (List.mem_append_right _ (List.mem_append_right _ (List.mem_append_right _ (List.mem_append_right _ (List.mem_append_left _ h0_))))))), (tb_c_X12_goOn w_ h0_).2⟩) (List.mem_cons_of_mem _ (List.mem_append_left _ (List.mem_of_getElem? (i := 17) rfl))) (List.mem_cons_of_mem _ (List.mem_append_left _ (List.mem_of_getElem? (i := 18) rfl))) (List.mem_cons_of_mem _ (List.mem_append_left _ (List.mem_of_getElem? (i := 19) rfl))) (List.mem_cons_of_mem _ (List.mem_append_left _ (List.mem_of_getElem? (i := 4) rfl)))) rfl rfl rfl (by decide +kernel) ⟨Nat.le_of_ble_eq_true rfl, Nat.le_of_ble_eq_true rfl⟩) ⟨fun a U g mk q => ⟨q.1, q.2.calling rfl rfl⟩, k_recv hK hI i_h0.1 k_126 (ci := 12) rfl, fun U hU hW => ⟨rfl, kIn.of hI hK hE hS hU hW⟩⟩ rfl rfl hl.1 rfl (lv_room (Nat.le_of_ble_eq_true rfl)) dX12_script_234 ⟨Nat.le_of_ble_eq_true rfl, Nat.le_of_ble_eq_true rfl⟩) hS (fun q _ h => h) (fun q h => h) (fun u9 t H1 locs ht hvm _ hB hz1 hk1 hS => ?_)
                    obtain ⟨f_134, hI, kc_136, q1_137, k_138, z_139, z_140, z_141⟩ := hB
                    rw [ht] at hI
                    have k_142 : f_134 (gr g h0 7) = .inl (gc g 1, 1812, .inr (.inl im)) := Kp.at kc_136 i_4 (by decide) k_122
                    have k_143 : f_134 (gr g h0 8) = .inl (gc g 3, 2, .inl kt) := Kp.at kc_136 i_5 (by decide) k_123
                    have k_144 : f_134 (gr g h0 21) = .inl (gc g 0, 8, .inl kq1_37) := Kp.at kc_136 i_6 (by decide) k_124
                    have k_145 : f_134 (gr g h0 22) = .inl (gc g 0, 8, .inl nq1_38) := Kp.at kc_136 i_7 (by decide) k_125
                    have k_146 : f_134 h0 = .inr (12, [.int (0 : Int32), .int z1, .ref (gr g h0 2), .ref (gr g h0 3), .ref (gr g h0 4), .ref (gr g h0 5), .ref (gr g h0 6), .ref (gr g h0 7), .ref (gr g h0 8), .ref (gr g h0 9), .int w10_64, .ref (gr g h0 11), .int (0 : Int32), .int w13_30, .int w14_31, .int w15_32, .long w16_33, .int w17_34, .int w18_35, .ref (gr g h0 19), .ref (gr g h0 20), .ref (gr g h0 21), .ref (gr g h0 22), .int w23_36, .long z24, .long z25, .long z26]) := Kp.at kc_136 i_h0 (by decide) k_126
                    have k_147 : f_134 (gr g h0 5) = .inl (gc g 1, 9060, .inr (.inl u1_65)) := Kp.at kc_136 i_3 (by decide) k_127
                    have z_139 : RowOK q1_137 := z_139
                    have d_148 := rk_hd z_139
                    have z_140 : (q1_137 0).toInt = (q_119 0).toInt := z_140
                    have z_141 : (q1_137 1).toInt = (q_119 1).toInt := z_141
                    have kp_149 := Kp.call kp_128 kc_136 (by decide)
                    generalize H1 = H at hI hS ⊢
                    refine W.widen (k := 0) (n := 0) (Nat.le_of_ble_eq_true rfl) (Nat.le_of_ble_eq_true rfl) ?_
                    refine lv_aload_n hx hb dX12_script_237 rfl (lv_at hl 3 rfl) ?_
                    refine lv_aload_n hx hb dX12_script_238 rfl (lv_at hl 3 rfl) ?_
                    refine k_get (ci := 12) (v := .int w23_36) (C := RX12) (T := TX12) (N := 27) hx hb hts (fun _ h0_ => List.mem_cons_of_mem _ (List.mem_append_right _ (List.mem_append_left _ h0_))) hown hK hI i_h0.1 k_146 rfl 23 (by decide) (hts (.fieldLink RX12 208 "DeadlineShareModel" "nSteps" "I") (List.mem_cons_of_mem _ (List.mem_append_left _ (List.mem_of_getElem? (i := 16) rfl)))) (fun _ h9 => h9) rfl dX12_script_239 ?_
                    refine va_calli (va_runV (As := [.int w23_36]) (rest := []) ⟨hx, hb, hml, hown, hts⟩ (c_X12_tell l dC dI g A hG f_134 h0 w23_36 (0 : Int32) z1 w10_64 (0 : Int32) w13_30 w14_31 w15_32 w16_33 w17_34 w18_35 w23_36 z24 z25 z26 i_h0 k_146 (by first | omega | (simp only [k_c0]; omega)) (by first | omega | (simp only [k_c0]; omega)) (by first | omega | (simp only [k_c0]; omega))) (cwV 1 hts (gi_V (fun w_ h0_ => ⟨List.mem_cons_of_mem _ (List.mem_append_right _ (List.mem_append_right _ (List.mem_append_right _ (List.mem_append_right _ (List.mem_append_right _ (List.mem_append_right _ (List.mem_append_right _ (List.mem_append_left _ h0_)))))))), (tb_c_X12_tell w_ h0_).2⟩) (List.mem_cons_of_mem _ (List.mem_append_left _ (List.mem_of_getElem? (i := 20) rfl))) (List.mem_cons_of_mem _ (List.mem_append_left _ (List.mem_of_getElem? (i := 21) rfl))) (List.mem_cons_of_mem _ (List.mem_append_left _ (List.mem_of_getElem? (i := 22) rfl))) (List.mem_cons_of_mem _ (List.mem_append_left _ (List.mem_of_getElem? (i := 4) rfl)))) rfl rfl rfl (by decide +kernel) ⟨Nat.le_of_ble_eq_true rfl, Nat.le_of_ble_eq_true rfl⟩) ⟨fun a U g mk q => ⟨q.1, q.2.calling rfl rfl⟩, k_recv hK hI i_h0.1 k_146 (ci := 12) rfl, fun U hU hW => ⟨rfl, kIn.of hI hK hE hS hU hW⟩⟩ rfl rfl hl.1 rfl (lv_room (Nat.le_of_ble_eq_true rfl)) dX12_script_242 ⟨Nat.le_of_ble_eq_true rfl, Nat.le_of_ble_eq_true rfl⟩) hS (fun q _ h => h) (fun q h => h) (fun r_152 u9 t H1 locs ht hvm w_151 hB hz1 hk1 hS => ?_)
                    obtain ⟨f_150, hI, kc_153, k_154⟩ := hB
                    rw [ht] at hI
                    have k_155 : f_150 (gr g h0 7) = .inl (gc g 1, 1812, .inr (.inl im)) := Kp.at kc_153 i_4 (by decide) k_142
                    have k_156 : f_150 (gr g h0 8) = .inl (gc g 3, 2, .inl kt) := Kp.at kc_153 i_5 (by decide) k_143
                    have k_157 : f_150 (gr g h0 21) = .inl (gc g 0, 8, .inl kq1_37) := Kp.at kc_153 i_6 (by decide) k_144
                    have k_158 : f_150 (gr g h0 22) = .inl (gc g 0, 8, .inl nq1_38) := Kp.at kc_153 i_7 (by decide) k_145
                    have k_159 : f_150 (gr g h0 5) = .inl (gc g 1, 9060, .inr (.inl u1_65)) := Kp.at kc_153 i_3 (by decide) k_147
                    have k_160 : f_150 (gr g h0 4) = .inl (gc g 1, 906, .inr (.inl q1_137)) := Kp.at kc_153 i_1 (by decide) k_138
                    have k_154 : f_150 h0 = .inr (12, [.int (0 : Int32), .int 0, .ref (gr g h0 2), .ref (gr g h0 3), .ref (gr g h0 4), .ref (gr g h0 5), .ref (gr g h0 6), .ref (gr g h0 7), .ref (gr g h0 8), .ref (gr g h0 9), .int w10_64, .ref (gr g h0 11), .int (0 : Int32), .int w13_30, .int w14_31, .int w15_32, .long w16_33, .int w17_34, .int w18_35, .ref (gr g h0 19), .ref (gr g h0 20), .ref (gr g h0 21), .ref (gr g h0 22), .int w23_36, .long z24, .long z25, .long z26]) := k_154
                    have kp_161 := Kp.call kp_149 kc_153 (by decide)
                    generalize H1 = H at hI hS ⊢
                    refine W.widen (k := 0) (n := 0) (Nat.le_of_ble_eq_true rfl) (Nat.le_of_ble_eq_true rfl) ?_
                    have w_151 : r_152.toInt = w23_36.toInt := w_151
                    exact W.iret (v := r_152) hx hb hr (fun t ht hW => ⟨⟨r_152, (), rfl, trivial, ⟨f_150, k_ret ht hI, kp_161, (0 : Int32), 0, w10_64, (0 : Int32), w13_30, w14_31, w15_32, w16_33, w17_34, w18_35, w23_36, z24, z25, z26, q1_137, u1_65, im, kt, k_154, (by first | omega | decide), (by first | omega | decide), (by first | omega | decide), k_160, z_139, k_159, k_155, k_156, z_69⟩⟩, hS.F ht⟩) hS.2.2 dX12_script_245
                  refine lv_if_eq (tgt := 225) hx hb dX12_script_217 (by decide) (fun c_162 => ?_) (fun c_162 => ?_)
                  · have c_162 := kc_eq rfl (by decide : Int32.toInt 0 = 0) c_162
                    exact J_225 q_99 f_97 _ _ _ hI hS k_101 ok_109 k_102 k_103 k_104 k_105 k_106 k_107 kp_100 (by first | omega | decide | exact Or.inl (by decide)) (by first | omega | decide | exact Or.inl (by decide)) (lv_sub hl [0, 1, 2, 3, 4] rfl)
                  · have c_162 := kn_eq rfl (by decide : Int32.toInt 0 = 0) c_162
                    refine lv_aload_n hx hb dX12_script_220 rfl (lv_at hl 3 rfl) ?_
                    refine lv_iload_n hx hb dX12_script_221 rfl (lv_at hl 4 rfl) ?_
                    refine k_topi (y := nI m_21) em_21 ?_
                    refine va_callv (va_runV (As := [.int (nI m_21)]) (rest := []) ⟨hx, hb, hml, hown, hts⟩ (c_X12_joins l dC dI g A hG f_97 h0 m_21 q_99 i_h0 k_101 ok_109 (by first | omega | decide | (simp only [k_c0, k_c1, k_cm1] <;> omega))) (cwV 1 hts (gi_V (fun w_ h0_ => ⟨List.mem_cons_of_mem _ (List.mem_append_right _ (List.mem_append_right _ (List.mem_append_right _ (List.mem_append_right _ (List.mem_append_right _ (List.mem_append_right _ (List.mem_append_right _ (List.mem_append_right _ (List.mem_append_left _ h0_))))))))), (tb_c_X12_joins w_ h0_).2⟩) (List.mem_cons_of_mem _ (List.mem_append_left _ (List.mem_of_getElem? (i := 23) rfl))) (List.mem_cons_of_mem _ (List.mem_append_left _ (List.mem_of_getElem? (i := 24) rfl))) (List.mem_cons_of_mem _ (List.mem_append_left _ (List.mem_of_getElem? (i := 25) rfl))) (List.mem_cons_of_mem _ (List.mem_append_left _ (List.mem_of_getElem? (i := 4) rfl)))) rfl rfl rfl (by decide +kernel) ⟨Nat.le_of_ble_eq_true rfl, Nat.le_of_ble_eq_true rfl⟩) ⟨fun a U g mk q => ⟨q.1, q.2.calling rfl rfl⟩, k_recv hK hI i_h0.1 k_106 (ci := 12) rfl, fun U hU hW => ⟨rfl, kIn.of hI hK hE hS hU hW⟩⟩ rfl rfl hl.1 rfl (lv_room (Nat.le_of_ble_eq_true rfl)) dX12_script_222 ⟨Nat.le_of_ble_eq_true rfl, Nat.le_of_ble_eq_true rfl⟩) hS (fun q _ h => h) (fun q h => h) (fun u9 t H1 locs ht hvm _ hB hz1 hk1 hS => ?_)
                    obtain ⟨f_163, hI, kc_165, q1_166, k_167, z_168, z_169, z_170⟩ := hB
                    rw [ht] at hI
                    have k_171 : f_163 (gr g h0 7) = .inl (gc g 1, 1812, .inr (.inl im)) := Kp.at kc_165 i_4 (by decide) k_102
                    have k_172 : f_163 (gr g h0 8) = .inl (gc g 3, 2, .inl kt) := Kp.at kc_165 i_5 (by decide) k_103
                    have k_173 : f_163 (gr g h0 21) = .inl (gc g 0, 8, .inl kq1_37) := Kp.at kc_165 i_6 (by decide) k_104
                    have k_174 : f_163 (gr g h0 22) = .inl (gc g 0, 8, .inl nq1_38) := Kp.at kc_165 i_7 (by decide) k_105
                    have k_175 : f_163 h0 = .inr (12, [.int (0 : Int32), .int z1, .ref (gr g h0 2), .ref (gr g h0 3), .ref (gr g h0 4), .ref (gr g h0 5), .ref (gr g h0 6), .ref (gr g h0 7), .ref (gr g h0 8), .ref (gr g h0 9), .int w10_64, .ref (gr g h0 11), .int (0 : Int32), .int w13_30, .int w14_31, .int w15_32, .long w16_33, .int w17_34, .int w18_35, .ref (gr g h0 19), .ref (gr g h0 20), .ref (gr g h0 21), .ref (gr g h0 22), .int w23_36, .long z24, .long z25, .long z26]) := Kp.at kc_165 i_h0 (by decide) k_106
                    have k_176 : f_163 (gr g h0 5) = .inl (gc g 1, 9060, .inr (.inl u1_65)) := Kp.at kc_165 i_3 (by decide) k_107
                    have z_168 : RowOK q1_166 := z_168
                    have d_177 := rk_hd z_168
                    have z_169 : (q1_166 0).toInt = (q_99 0).toInt := z_169
                    have z_170 : (q1_166 1).toInt = (q_99 1).toInt := z_170
                    have kp_178 := Kp.call kp_100 kc_165 (by decide)
                    generalize H1 = H at hI hS ⊢
                    refine W.widen (k := 0) (n := 0) (Nat.le_of_ble_eq_true rfl) (Nat.le_of_ble_eq_true rfl) ?_
                    exact J_225 q1_166 f_163 _ _ _ hI hS k_167 z_168 k_171 k_172 k_173 k_174 k_175 k_176 kp_178 (by first | omega | decide | exact Or.inl (by decide)) (by first | omega | decide | exact Or.inl (by decide)) (lv_sub hl [0, 1, 2, 3, 4] rfl)
                · have c_93 := kn_le (by decide : Int32.toInt 8 = 8) (nI_toInt (n := y_76) (by omega)) c_93
                  refine lv_aload_n hx hb dX12_script_136 rfl (lv_at hl 3 rfl) ?_
                  refine k_get (ci := 12) (v := .ref (gr g h0 4)) (C := RX12) (T := TX12) (N := 27) hx hb hts (fun _ h0_ => List.mem_cons_of_mem _ (List.mem_append_right _ (List.mem_append_left _ h0_))) hown hK hI i_h0.1 k_84 rfl 4 (by decide) (hts (.fieldLink RX12 16 "DeadlineShareModel" "row" "[J") (List.mem_cons_of_mem _ (List.mem_append_left _ (List.mem_of_getElem? (i := 7) rfl)))) (fun _ h9 => h9) rfl dX12_script_137 ?_
                  refine lv_iload_n hx hb dX12_script_140 rfl (lv_at hl 2 rfl) ?_
                  refine lv_bipush (v := 16) hx hb dX12_script_141 (by decide) ?_
                  refine lv_iadd hx hb dX12_script_143 ?_
                  refine k_topi (y := nI (6 + 43 * m_21 + 16)) ((nI_add (6 + 43 * m_21) 16).trans (congrArg nI (by omega))) ?_
                  refine lv_iload hx hb dX12_script_144 (lv_at hl 0 rfl) ?_
                  refine lv_iadd hx hb dX12_script_146 ?_
                  refine k_topi (y := nI (6 + 43 * m_21 + 16 + y_76)) ((nI_add (6 + 43 * m_21 + 16) y_76).trans (congrArg nI (by omega))) ?_
                  refine lv_aload_n hx hb dX12_script_147 rfl (lv_at hl 3 rfl) ?_
                  refine k_get (ci := 12) (v := .ref (gr g h0 21)) (C := RX12) (T := TX12) (N := 27) hx hb hts (fun _ h0_ => List.mem_cons_of_mem _ (List.mem_append_right _ (List.mem_append_left _ h0_))) hown hK hI i_h0.1 k_84 rfl 21 (by decide) (hts (.fieldLink RX12 59 "DeadlineShareModel" "kinds" "[I") (List.mem_cons_of_mem _ (List.mem_append_left _ (List.mem_of_getElem? (i := 26) rfl)))) (fun _ h9 => h9) rfl dX12_script_148 ?_
                  refine lv_iload hx hb dX12_script_151 (lv_at hl 0 rfl) ?_
                  refine k_iald hx hb hK hI i_6.1 0 k_82 rfl (vp_in_nI (by omega) (by omega)) dX12_script_153 ?_
                  refine k_topi (y := kq1_37 y_76) (congrArg kq1_37 (nI_clamp (by omega))) ?_
                  refine lv_i2l (v := (kq1_37 y_76).toInt64) hx hb dX12_script_154 rfl ?_
                  have t_183 := Int32.toInt_toInt64 (kq1_37 y_76)
                  refine k_last hx hb hK hI hS i_1.1 1 k_79 rfl (vp_in_nI (by omega) (by omega)) (cl_32 i_1) dX12_script_155 (fun f_184 H locs e_185 hI hS => ?_)
                  generalize eq_186 : vp_updL q_78 (Int32.toNatClampNeg (nI (6 + 43 * m_21 + 16 + y_76))) ((kq1_37 y_76).toInt64) = q_186 at e_185
                  have k_188 : f_184 (gr g h0 4) = .inl (gc g 1, 906, .inr (.inl q_186)) := by rw [e_185]; exact va_up_self _ _ _
                  have k_189 : f_184 (gr g h0 7) = .inl (gc g 1, 1812, .inr (.inl im)) := by rw [e_185, va_up_ne _ _ (ik_ne i_4 i_1 (by decide))]; exact k_80
                  have k_190 : f_184 (gr g h0 8) = .inl (gc g 3, 2, .inl kt) := by rw [e_185, va_up_ne _ _ (ik_ne i_5 i_1 (by decide))]; exact k_81
                  have k_191 : f_184 (gr g h0 21) = .inl (gc g 0, 8, .inl kq1_37) := by rw [e_185, va_up_ne _ _ (ik_ne i_6 i_1 (by decide))]; exact k_82
                  have k_192 : f_184 (gr g h0 22) = .inl (gc g 0, 8, .inl nq1_38) := by rw [e_185, va_up_ne _ _ (ik_ne i_7 i_1 (by decide))]; exact k_83
                  have k_193 : f_184 h0 = .inr (12, [.int (0 : Int32), .int z1, .ref (gr g h0 2), .ref (gr g h0 3), .ref (gr g h0 4), .ref (gr g h0 5), .ref (gr g h0 6), .ref (gr g h0 7), .ref (gr g h0 8), .ref (gr g h0 9), .int w10_64, .ref (gr g h0 11), .int (0 : Int32), .int w13_30, .int w14_31, .int w15_32, .long w16_33, .int w17_34, .int w18_35, .ref (gr g h0 19), .ref (gr g h0 20), .ref (gr g h0 21), .ref (gr g h0 22), .int w23_36, .long z24, .long z25, .long z26]) := by rw [e_185, va_up_ne _ _ (ik_ne i_h0 i_1 (by decide))]; exact k_84
                  have k_194 : f_184 (gr g h0 5) = .inl (gc g 1, 9060, .inr (.inl u1_65)) := by rw [e_185, va_up_ne _ _ (ik_ne i_3 i_1 (by decide))]; exact k_85
                  have kp_187 := Kp.put kp_86 i_1 (by decide) e_185
                  have u_195 : vp_updL q_78 (6 + 43 * m_21 + 16 + y_76) ((kq1_37 y_76).toInt64) = q_186 := by rw [← eq_186, show Int32.toNatClampNeg (nI (6 + 43 * m_21 + 16 + y_76)) = 6 + 43 * m_21 + 16 + y_76 from (nI_clamp (by omega))]
                  refine lv_aload_n hx hb dX12_script_156 rfl (lv_at hl 3 rfl) ?_
                  refine k_get (ci := 12) (v := .ref (gr g h0 4)) (C := RX12) (T := TX12) (N := 27) hx hb hts (fun _ h0_ => List.mem_cons_of_mem _ (List.mem_append_right _ (List.mem_append_left _ h0_))) hown hK hI i_h0.1 k_193 rfl 4 (by decide) (hts (.fieldLink RX12 16 "DeadlineShareModel" "row" "[J") (List.mem_cons_of_mem _ (List.mem_append_left _ (List.mem_of_getElem? (i := 7) rfl)))) (fun _ h9 => h9) rfl dX12_script_157 ?_
                  refine lv_iload_n hx hb dX12_script_160 rfl (lv_at hl 2 rfl) ?_
                  refine lv_bipush (v := 24) hx hb dX12_script_161 (by decide) ?_
                  refine lv_iadd hx hb dX12_script_163 ?_
                  refine k_topi (y := nI (6 + 43 * m_21 + 24)) ((nI_add (6 + 43 * m_21) 24).trans (congrArg nI (by omega))) ?_
                  refine lv_iload hx hb dX12_script_164 (lv_at hl 0 rfl) ?_
                  refine lv_iadd hx hb dX12_script_166 ?_
                  refine k_topi (y := nI (6 + 43 * m_21 + 24 + y_76)) ((nI_add (6 + 43 * m_21 + 24) y_76).trans (congrArg nI (by omega))) ?_
                  refine lv_aload_n hx hb dX12_script_167 rfl (lv_at hl 3 rfl) ?_
                  refine k_get (ci := 12) (v := .ref (gr g h0 22)) (C := RX12) (T := TX12) (N := 27) hx hb hts (fun _ h0_ => List.mem_cons_of_mem _ (List.mem_append_right _ (List.mem_append_left _ h0_))) hown hK hI i_h0.1 k_193 rfl 22 (by decide) (hts (.fieldLink RX12 62 "DeadlineShareModel" "numbers" "[I") (List.mem_cons_of_mem _ (List.mem_append_left _ (List.mem_of_getElem? (i := 27) rfl)))) (fun _ h9 => h9) rfl dX12_script_168 ?_
                  refine lv_iload hx hb dX12_script_171 (lv_at hl 0 rfl) ?_
                  refine k_iald hx hb hK hI i_7.1 0 k_192 rfl (vp_in_nI (by omega) (by omega)) dX12_script_173 ?_
                  refine k_topi (y := nq1_38 y_76) (congrArg nq1_38 (nI_clamp (by omega))) ?_
                  refine lv_i2l (v := (nq1_38 y_76).toInt64) hx hb dX12_script_174 rfl ?_
                  have t_200 := Int32.toInt_toInt64 (nq1_38 y_76)
                  refine k_last hx hb hK hI hS i_1.1 1 k_188 rfl (vp_in_nI (by omega) (by omega)) (cl_32 i_1) dX12_script_175 (fun f_201 H locs e_202 hI hS => ?_)
                  generalize eq_203 : vp_updL q_186 (Int32.toNatClampNeg (nI (6 + 43 * m_21 + 24 + y_76))) ((nq1_38 y_76).toInt64) = q_203 at e_202
                  have k_205 : f_201 (gr g h0 4) = .inl (gc g 1, 906, .inr (.inl q_203)) := by rw [e_202]; exact va_up_self _ _ _
                  have k_206 : f_201 (gr g h0 7) = .inl (gc g 1, 1812, .inr (.inl im)) := by rw [e_202, va_up_ne _ _ (ik_ne i_4 i_1 (by decide))]; exact k_189
                  have k_207 : f_201 (gr g h0 8) = .inl (gc g 3, 2, .inl kt) := by rw [e_202, va_up_ne _ _ (ik_ne i_5 i_1 (by decide))]; exact k_190
                  have k_208 : f_201 (gr g h0 21) = .inl (gc g 0, 8, .inl kq1_37) := by rw [e_202, va_up_ne _ _ (ik_ne i_6 i_1 (by decide))]; exact k_191
                  have k_209 : f_201 (gr g h0 22) = .inl (gc g 0, 8, .inl nq1_38) := by rw [e_202, va_up_ne _ _ (ik_ne i_7 i_1 (by decide))]; exact k_192
                  have k_210 : f_201 h0 = .inr (12, [.int (0 : Int32), .int z1, .ref (gr g h0 2), .ref (gr g h0 3), .ref (gr g h0 4), .ref (gr g h0 5), .ref (gr g h0 6), .ref (gr g h0 7), .ref (gr g h0 8), .ref (gr g h0 9), .int w10_64, .ref (gr g h0 11), .int (0 : Int32), .int w13_30, .int w14_31, .int w15_32, .long w16_33, .int w17_34, .int w18_35, .ref (gr g h0 19), .ref (gr g h0 20), .ref (gr g h0 21), .ref (gr g h0 22), .int w23_36, .long z24, .long z25, .long z26]) := by rw [e_202, va_up_ne _ _ (ik_ne i_h0 i_1 (by decide))]; exact k_193
                  have k_211 : f_201 (gr g h0 5) = .inl (gc g 1, 9060, .inr (.inl u1_65)) := by rw [e_202, va_up_ne _ _ (ik_ne i_3 i_1 (by decide))]; exact k_194
                  have kp_204 := Kp.put kp_187 i_1 (by decide) e_202
                  have u_212 : vp_updL q_186 (6 + 43 * m_21 + 24 + y_76) ((nq1_38 y_76).toInt64) = q_203 := by rw [← eq_203, show Int32.toNatClampNeg (nI (6 + 43 * m_21 + 24 + y_76)) = 6 + 43 * m_21 + 24 + y_76 from (nI_clamp (by omega))]
                  refine lv_aload_n hx hb dX12_script_176 rfl (lv_at hl 3 rfl) ?_
                  refine k_get (ci := 12) (v := .ref (gr g h0 4)) (C := RX12) (T := TX12) (N := 27) hx hb hts (fun _ h0_ => List.mem_cons_of_mem _ (List.mem_append_right _ (List.mem_append_left _ h0_))) hown hK hI i_h0.1 k_210 rfl 4 (by decide) (hts (.fieldLink RX12 16 "DeadlineShareModel" "row" "[J") (List.mem_cons_of_mem _ (List.mem_append_left _ (List.mem_of_getElem? (i := 7) rfl)))) (fun _ h9 => h9) rfl dX12_script_177 ?_
                  refine lv_iload_n hx hb dX12_script_180 rfl (lv_at hl 2 rfl) ?_
                  refine lv_bipush (v := 32) hx hb dX12_script_181 (by decide) ?_
                  refine lv_iadd hx hb dX12_script_183 ?_
                  refine k_topi (y := nI (6 + 43 * m_21 + 32)) ((nI_add (6 + 43 * m_21) 32).trans (congrArg nI (by omega))) ?_
                  refine lv_iload hx hb dX12_script_184 (lv_at hl 0 rfl) ?_
                  refine lv_iadd hx hb dX12_script_186 ?_
                  refine k_topi (y := nI (6 + 43 * m_21 + 32 + y_76)) ((nI_add (6 + 43 * m_21 + 32) y_76).trans (congrArg nI (by omega))) ?_
                  refine lv_aload_n hx hb dX12_script_187 rfl (lv_at hl 3 rfl) ?_
                  refine k_get (ci := 12) (v := .ref (gr g h0 22)) (C := RX12) (T := TX12) (N := 27) hx hb hts (fun _ h0_ => List.mem_cons_of_mem _ (List.mem_append_right _ (List.mem_append_left _ h0_))) hown hK hI i_h0.1 k_210 rfl 22 (by decide) (hts (.fieldLink RX12 62 "DeadlineShareModel" "numbers" "[I") (List.mem_cons_of_mem _ (List.mem_append_left _ (List.mem_of_getElem? (i := 27) rfl)))) (fun _ h9 => h9) rfl dX12_script_188 ?_
                  refine lv_iload hx hb dX12_script_191 (lv_at hl 0 rfl) ?_
                  refine k_iald hx hb hK hI i_7.1 0 k_209 rfl (vp_in_nI (by omega) (by omega)) dX12_script_193 ?_
                  refine k_topi (y := nq1_38 y_76) (congrArg nq1_38 (nI_clamp (by omega))) ?_
                  refine lv_i2l (v := (nq1_38 y_76).toInt64) hx hb dX12_script_194 rfl ?_
                  have t_217 := Int32.toInt_toInt64 (nq1_38 y_76)
                  refine k_last hx hb hK hI hS i_1.1 1 k_205 rfl (vp_in_nI (by omega) (by omega)) (cl_32 i_1) dX12_script_195 (fun f_218 H locs e_219 hI hS => ?_)
                  generalize eq_220 : vp_updL q_203 (Int32.toNatClampNeg (nI (6 + 43 * m_21 + 32 + y_76))) ((nq1_38 y_76).toInt64) = q_220 at e_219
                  have k_222 : f_218 (gr g h0 4) = .inl (gc g 1, 906, .inr (.inl q_220)) := by rw [e_219]; exact va_up_self _ _ _
                  have k_223 : f_218 (gr g h0 7) = .inl (gc g 1, 1812, .inr (.inl im)) := by rw [e_219, va_up_ne _ _ (ik_ne i_4 i_1 (by decide))]; exact k_206
                  have k_224 : f_218 (gr g h0 8) = .inl (gc g 3, 2, .inl kt) := by rw [e_219, va_up_ne _ _ (ik_ne i_5 i_1 (by decide))]; exact k_207
                  have k_225 : f_218 (gr g h0 21) = .inl (gc g 0, 8, .inl kq1_37) := by rw [e_219, va_up_ne _ _ (ik_ne i_6 i_1 (by decide))]; exact k_208
                  have k_226 : f_218 (gr g h0 22) = .inl (gc g 0, 8, .inl nq1_38) := by rw [e_219, va_up_ne _ _ (ik_ne i_7 i_1 (by decide))]; exact k_209
                  have k_227 : f_218 h0 = .inr (12, [.int (0 : Int32), .int z1, .ref (gr g h0 2), .ref (gr g h0 3), .ref (gr g h0 4), .ref (gr g h0 5), .ref (gr g h0 6), .ref (gr g h0 7), .ref (gr g h0 8), .ref (gr g h0 9), .int w10_64, .ref (gr g h0 11), .int (0 : Int32), .int w13_30, .int w14_31, .int w15_32, .long w16_33, .int w17_34, .int w18_35, .ref (gr g h0 19), .ref (gr g h0 20), .ref (gr g h0 21), .ref (gr g h0 22), .int w23_36, .long z24, .long z25, .long z26]) := by rw [e_219, va_up_ne _ _ (ik_ne i_h0 i_1 (by decide))]; exact k_210
                  have k_228 : f_218 (gr g h0 5) = .inl (gc g 1, 9060, .inr (.inl u1_65)) := by rw [e_219, va_up_ne _ _ (ik_ne i_3 i_1 (by decide))]; exact k_211
                  have kp_221 := Kp.put kp_204 i_1 (by decide) e_219
                  have u_229 : vp_updL q_203 (6 + 43 * m_21 + 32 + y_76) ((nq1_38 y_76).toInt64) = q_220 := by rw [← eq_220, show Int32.toNatClampNeg (nI (6 + 43 * m_21 + 32 + y_76)) = 6 + 43 * m_21 + 32 + y_76 from (nI_clamp (by omega))]
                  refine lv_iinc (v := nI (y_76 + 1)) (lv' := [(4, .int (nI (y_76 + 1))), (3, .int y_26), (2, .int (nI (6 + 43 * m_21))), (0, .ref h0), (1, .int p1)]) hx hb dX12_script_196 hl (k := 0) rfl (nI_1 _) (by decide) rfl (fun ls hl => ?_)
                  refine lv_goto (tgt := 129) hx hb dX12_script_199 (by decide) ?_
                  exact ih (y_76 + 1) q_220 f_218 _ _ _ (by omega) hI hS k_222 k_223 k_224 k_225 k_226 k_227 k_228 kp_221 (by first | omega | decide | exact Or.inl (by decide)) (by rw [← u_229, ← u_212, ← u_195]; exact (rx_upd (rx_upd (rx_upd t_88 (by omega) (by omega)) (by omega) (by omega)) (by omega) (by omega))) (fun j9 h9 => if h8 : j9 = y_76 then (by subst h8; refine ⟨?_, ?_, ?_⟩; rw [← u_229, pk_uLn (by omega), ← u_212, pk_uLn (by omega), ← u_195, pk_uLs]; exact Int32.toInt_toInt64 _; rw [← u_229, pk_uLn (by omega), ← u_212, pk_uLs]; exact Int32.toInt_toInt64 _; rw [← u_229, pk_uLs]; exact Int32.toInt_toInt64 _) else (by have g9 : ∀ x9 : Nat, x9 ≠ 6 + 43 * m_21 + 16 + y_76 → x9 ≠ 6 + 43 * m_21 + 24 + y_76 → x9 ≠ 6 + 43 * m_21 + 32 + y_76 → q_220 x9 = q_78 x9 := fun x9 a9 b9 c9 => (by rw [← u_229, pk_uLn c9, ← u_212, pk_uLn b9, ← u_195, pk_uLn a9]); rw [g9 _ (by omega) (by omega) (by omega), g9 _ (by omega) (by omega) (by omega), g9 _ (by omega) (by omega) (by omega)]; exact t_89 j9 (by omega))) (by rw [← u_229, pk_uLn (by omega), ← u_212, pk_uLn (by omega), ← u_195, pk_uLn (by omega)]; exact t_90) (by rw [← u_229, pk_uLn (by omega), ← u_212, pk_uLn (by omega), ← u_195, pk_uLn (by omega)]; exact t_91) (lv_sub hl [0, 1, 2, 3, 4] rfl)
            exact K_129 _ 0 q f_61 _ _ _ (Nat.lt_succ_self _) hI hS k_70 k_71 k_72 k_73 k_74 k_66 k_68 kp_75 (by first | omega | decide | exact Or.inl (by decide)) ⟨_, hc1_ok, fun _ _ => rfl⟩ (fun j9 h9 => absurd h9 (Nat.not_lt_zero j9)) (by first | omega | decide | exact Or.inl (by decide)) (by first | omega | decide | exact Or.inl (by decide)) (lv_sub hl [0, 1, 2, 3, 4] rfl)
          · have c_60 := kn_eq rfl (by decide : Int32.toInt 0 = 0) c_60
            refine lv_aload_n hx hb dX12_script_114 rfl (lv_at hl 2 rfl) ?_
            refine lv_bipush (v := (-6)) hx hb dX12_script_115 (by decide) ?_
            refine va_calli (va_runV (As := [.int (-6)]) (rest := []) ⟨hx, hb, hml, hown, hts⟩ (c_X12_refuse l dC dI g A hG f_50 h0 (-6) (0 : Int32) z1 z10 0 w13_30 w14_31 w15_32 w16_33 w17_34 w18_35 w23_36 z24 z25 z26 i_h0 k_57 (by first | omega | (simp only [k_c0]; omega)) (by decide) (by first | omega | (simp only [k_c0]; omega)) (by first | omega | decide | (simp only [show Int32.toInt (-6) = (-6) from by decide] <;> omega))) (cwV 1 hts (gi_V (fun w_ h0_ => ⟨List.mem_cons_of_mem _ (List.mem_append_right _ (List.mem_append_right _ (List.mem_append_right _ (List.mem_append_right _ (List.mem_append_right _ (List.mem_append_right _ (List.mem_append_right _ (List.mem_append_right _ (List.mem_append_right _ (List.mem_append_left _ h0_)))))))))), (tb_c_X12_refuse w_ h0_).2⟩) (List.mem_cons_of_mem _ (List.mem_append_left _ (List.mem_of_getElem? (i := 28) rfl))) (List.mem_cons_of_mem _ (List.mem_append_left _ (List.mem_of_getElem? (i := 29) rfl))) (List.mem_cons_of_mem _ (List.mem_append_left _ (List.mem_of_getElem? (i := 30) rfl))) (List.mem_cons_of_mem _ (List.mem_append_left _ (List.mem_of_getElem? (i := 4) rfl)))) rfl rfl rfl (by decide +kernel) ⟨Nat.le_of_ble_eq_true rfl, Nat.le_of_ble_eq_true rfl⟩) ⟨fun a U g mk q => ⟨q.1, q.2.calling rfl rfl⟩, k_recv hK hI i_h0.1 k_57 (ci := 12) rfl, fun U hU hW => ⟨rfl, kIn.of hI hK hE hS hU hW⟩⟩ rfl rfl hl.1 rfl (lv_room (Nat.le_of_ble_eq_true rfl)) dX12_script_117 ⟨Nat.le_of_ble_eq_true rfl, Nat.le_of_ble_eq_true rfl⟩) hS (fun q _ h => h) (fun q h => h) (fun r_232 u9 t H1 locs ht hvm w_231 hB hz1 hk1 hS => ?_)
            obtain ⟨f_230, hI, kc_233, k_234⟩ := hB
            rw [ht] at hI
            have k_235 : f_230 (gr g h0 4) = .inl (gc g 1, 906, .inr (.inl q)) := Kp.at kc_233 i_1 (by decide) k_53
            have k_236 : f_230 (gr g h0 5) = .inl (gc g 1, 9060, .inr (.inl u)) := Kp.at kc_233 i_3 (by decide) k_54
            have k_237 : f_230 (gr g h0 7) = .inl (gc g 1, 1812, .inr (.inl im)) := Kp.at kc_233 i_4 (by decide) k_55
            have k_238 : f_230 (gr g h0 8) = .inl (gc g 3, 2, .inl kt) := Kp.at kc_233 i_5 (by decide) k_56
            have k_239 : f_230 (gr g h0 21) = .inl (gc g 0, 8, .inl kq1_37) := Kp.at kc_233 i_6 (by decide) k_58
            have k_240 : f_230 (gr g h0 22) = .inl (gc g 0, 8, .inl nq1_38) := Kp.at kc_233 i_7 (by decide) k_59
            have k_234 : f_230 h0 = .inr (12, [.int (0 : Int32), .int (-6 : Int32), .ref (gr g h0 2), .ref (gr g h0 3), .ref (gr g h0 4), .ref (gr g h0 5), .ref (gr g h0 6), .ref (gr g h0 7), .ref (gr g h0 8), .ref (gr g h0 9), .int z10, .ref (gr g h0 11), .int (0 : Int32), .int w13_30, .int w14_31, .int w15_32, .long w16_33, .int w17_34, .int w18_35, .ref (gr g h0 19), .ref (gr g h0 20), .ref (gr g h0 21), .ref (gr g h0 22), .int w23_36, .long z24, .long z25, .long z26]) := k_234
            have kp_241 := Kp.call kp_52 kc_233 (by decide)
            generalize H1 = H at hI hS ⊢
            refine W.widen (k := 0) (n := 0) (Nat.le_of_ble_eq_true rfl) (Nat.le_of_ble_eq_true rfl) ?_
            have w_231 : r_232.toInt = (-6 : Int32).toInt := w_231
            have g_242 : Int32.toInt ((-6)) = (-6) := by decide
            exact W.iret (v := r_232) hx hb hr (fun t ht hW => ⟨⟨r_232, (), rfl, trivial, ⟨f_230, k_ret ht hI, kp_241, (0 : Int32), (-6 : Int32), z10, (0 : Int32), w13_30, w14_31, w15_32, w16_33, w17_34, w18_35, w23_36, z24, z25, z26, q, u, im, kt, k_234, (by first | omega | decide), (by first | omega | decide), (by first | omega | decide), k_235, hc1_ok, k_236, k_237, k_238, hU⟩⟩, hS.F ht⟩) hS.2.2 dX12_script_120
        refine lv_if_eq (tgt := 98) hx hb dX12_script_80 (by decide) (fun c_243 => ?_) (fun c_243 => ?_)
        · have c_243 := kc_eq rfl (by decide : Int32.toInt 0 = 0) c_243
          exact J_98  _ _ _ hI hS  (lv_sub hl [0, 1, 2, 3] rfl)
        · have c_243 := kn_eq rfl (by decide : Int32.toInt 0 = 0) c_243
          refine lv_aload_n hx hb dX12_script_83 rfl (lv_at hl 2 rfl) ?_
          refine lv_iload_n hx hb dX12_script_84 rfl (lv_at hl 3 rfl) ?_
          refine k_topi (y := nI m_21) em_21 ?_
          refine va_calli (va_runV (As := [.int (nI m_21)]) (rest := []) ⟨hx, hb, hml, hown, hts⟩ (c_X12_hasRoom l dC dI g A hG f_8 h0 m_21 q i_h0 k_12 hc1_ok (by first | omega | decide | (simp only [k_c0, k_c1, k_cm1] <;> omega))) (cwV 1 hts (gi_V (fun w_ h0_ => ⟨List.mem_cons_of_mem _ (List.mem_append_right _ (List.mem_append_right _ (List.mem_append_right _ (List.mem_append_right _ (List.mem_append_right _ (List.mem_append_right _ (List.mem_append_right _ (List.mem_append_right _ (List.mem_append_right _ (List.mem_append_right _ (List.mem_append_left _ h0_))))))))))), (tb_c_X12_hasRoom w_ h0_).2⟩) (List.mem_cons_of_mem _ (List.mem_append_left _ (List.mem_of_getElem? (i := 31) rfl))) (List.mem_cons_of_mem _ (List.mem_append_left _ (List.mem_of_getElem? (i := 32) rfl))) (List.mem_cons_of_mem _ (List.mem_append_left _ (List.mem_of_getElem? (i := 33) rfl))) (List.mem_cons_of_mem _ (List.mem_append_left _ (List.mem_of_getElem? (i := 4) rfl)))) rfl rfl rfl (by decide +kernel) ⟨Nat.le_of_ble_eq_true rfl, Nat.le_of_ble_eq_true rfl⟩) ⟨fun a U g mk q => ⟨q.1, q.2.calling rfl rfl⟩, k_recv hK hI i_h0.1 k_11 (ci := 12) rfl, fun U hU hW => ⟨rfl, kIn.of hI hK hE hS hU hW⟩⟩ rfl rfl hl.1 rfl (lv_room (Nat.le_of_ble_eq_true rfl)) dX12_script_85 ⟨Nat.le_of_ble_eq_true rfl, Nat.le_of_ble_eq_true rfl⟩) hS (fun q _ h => h) (fun q h => h) (fun r_245 u9 t H1 locs ht hvm w_244 hB hz1 hk1 hS => ?_)
          have hI : Iv dC dI g A f_8 t.heap := hB
          rw [ht] at hI
          generalize H1 = H at hI hS ⊢
          refine W.widen (k := 0) (n := 0) (Nat.le_of_ble_eq_true rfl) (Nat.le_of_ble_eq_true rfl) ?_
          refine lv_if_ne (tgt := 98) hx hb dX12_script_88 (by decide) (fun c_246 => ?_) (fun c_246 => ?_)
          · have c_246 := kn_eq rfl (by decide : Int32.toInt 0 = 0) c_246
            exact J_98  _ _ _ hI hS  (lv_sub hl [0, 1, 2, 3] rfl)
          · have c_246 := kc_eq rfl (by decide : Int32.toInt 0 = 0) c_246
            refine lv_aload_n hx hb dX12_script_91 rfl (lv_at hl 2 rfl) ?_
            refine lv_bipush (v := (-5)) hx hb dX12_script_92 (by decide) ?_
            refine va_calli (va_runV (As := [.int (-5)]) (rest := []) ⟨hx, hb, hml, hown, hts⟩ (c_X12_refuse l dC dI g A hG f_8 h0 (-5) 0 z1 z10 z12 z13 z14 z15 z16 z17 z18 z23 z24 z25 z26 i_h0 k_11 (by first | omega | (simp only [k_c0]; omega)) (by first | omega | (simp only [k_c0]; omega)) (by first | omega | (simp only [k_c0]; omega)) (by first | omega | decide | (simp only [show Int32.toInt (-5) = (-5) from by decide] <;> omega))) (cwV 1 hts (gi_V (fun w_ h0_ => ⟨List.mem_cons_of_mem _ (List.mem_append_right _ (List.mem_append_right _ (List.mem_append_right _ (List.mem_append_right _ (List.mem_append_right _ (List.mem_append_right _ (List.mem_append_right _ (List.mem_append_right _ (List.mem_append_right _ (List.mem_append_left _ h0_)))))))))), (tb_c_X12_refuse w_ h0_).2⟩) (List.mem_cons_of_mem _ (List.mem_append_left _ (List.mem_of_getElem? (i := 28) rfl))) (List.mem_cons_of_mem _ (List.mem_append_left _ (List.mem_of_getElem? (i := 29) rfl))) (List.mem_cons_of_mem _ (List.mem_append_left _ (List.mem_of_getElem? (i := 30) rfl))) (List.mem_cons_of_mem _ (List.mem_append_left _ (List.mem_of_getElem? (i := 4) rfl)))) rfl rfl rfl (by decide +kernel) ⟨Nat.le_of_ble_eq_true rfl, Nat.le_of_ble_eq_true rfl⟩) ⟨fun a U g mk q => ⟨q.1, q.2.calling rfl rfl⟩, k_recv hK hI i_h0.1 k_11 (ci := 12) rfl, fun U hU hW => ⟨rfl, kIn.of hI hK hE hS hU hW⟩⟩ rfl rfl hl.1 rfl (lv_room (Nat.le_of_ble_eq_true rfl)) dX12_script_94 ⟨Nat.le_of_ble_eq_true rfl, Nat.le_of_ble_eq_true rfl⟩) hS (fun q _ h => h) (fun q h => h) (fun r_249 u9 t H1 locs ht hvm w_248 hB hz1 hk1 hS => ?_)
            obtain ⟨f_247, hI, kc_250, k_251⟩ := hB
            rw [ht] at hI
            have k_252 : f_247 (gr g h0 4) = .inl (gc g 1, 906, .inr (.inl q)) := Kp.at kc_250 i_1 (by decide) k_12
            have k_253 : f_247 (gr g h0 5) = .inl (gc g 1, 9060, .inr (.inl u)) := Kp.at kc_250 i_3 (by decide) k_13
            have k_254 : f_247 (gr g h0 7) = .inl (gc g 1, 1812, .inr (.inl im)) := Kp.at kc_250 i_4 (by decide) k_14
            have k_255 : f_247 (gr g h0 8) = .inl (gc g 3, 2, .inl kt) := Kp.at kc_250 i_5 (by decide) k_15
            have k_256 : f_247 (gr g h0 21) = .inl (gc g 0, 8, .inl kq) := Kp.at kc_250 i_6 (by decide) k_16
            have k_257 : f_247 (gr g h0 22) = .inl (gc g 0, 8, .inl nq) := Kp.at kc_250 i_7 (by decide) k_17
            have k_251 : f_247 h0 = .inr (12, [.int (0 : Int32), .int (-5 : Int32), .ref (gr g h0 2), .ref (gr g h0 3), .ref (gr g h0 4), .ref (gr g h0 5), .ref (gr g h0 6), .ref (gr g h0 7), .ref (gr g h0 8), .ref (gr g h0 9), .int z10, .ref (gr g h0 11), .int z12, .int z13, .int z14, .int z15, .long z16, .int z17, .int z18, .ref (gr g h0 19), .ref (gr g h0 20), .ref (gr g h0 21), .ref (gr g h0 22), .int z23, .long z24, .long z25, .long z26]) := k_251
            have kp_258 := Kp.call kp_10 kc_250 (by decide)
            generalize H1 = H at hI hS ⊢
            refine W.widen (k := 0) (n := 0) (Nat.le_of_ble_eq_true rfl) (Nat.le_of_ble_eq_true rfl) ?_
            have w_248 : r_249.toInt = (-5 : Int32).toInt := w_248
            have g_259 : Int32.toInt ((-5)) = (-5) := by decide
            exact W.iret (v := r_249) hx hb hr (fun t ht hW => ⟨⟨r_249, (), rfl, trivial, ⟨f_247, k_ret ht hI, kp_258, (0 : Int32), (-5 : Int32), z10, z12, z13, z14, z15, z16, z17, z18, z23, z24, z25, z26, q, u, im, kt, k_251, (by first | omega | decide), (by first | omega | decide), (by first | omega | decide), k_252, hc1_ok, k_253, k_254, k_255, hU⟩⟩, hS.F ht⟩) hS.2.2 dX12_script_97
      have J_72 : ∀ (H : Heap) (locs : List Loc) (ls : Array Slot), Iv dC dI g A f_8 H → va_S A s.heap H locs → lv_has ls 5 [(3, .int y_26), (2, .int (nI (6 + 43 * m_21))), (0, .ref h0), (1, .int p1)] → W p l e (headSpec wq_c_X12_script ({ frames := 6, cells := 0, slots := 0, locals := 142 } : Room)).room s m ([.ref h0, .int p1].toArray) below meth c H locs 0 0 (MQ below (va_Qi (fun (r : Int32) (_ : Unit) => True) (fun (_ : Unit) t => ∃ f1 : Nat → va_E, Iv dC dI g A f1 t.heap ∧ Kp g [12, 30, 32, 33, 37, 41, 42] f f1 ∧ ∃ (w0 : Int32) (w1 : Int32) (w10 : Int32) (w12 : Int32) (w13 : Int32) (w14 : Int32) (w15 : Int32) (w16 : Int64) (w17 : Int32) (w18 : Int32) (w23 : Int32) (w24 : Int64) (w25 : Int64) (w26 : Int64) (q1 : Nat → Int64) (u1 : Nat → Int64) (im1 : Nat → Int64) (ik1 : Nat → Int32), (f1 h0 = .inr (12, [.int w0, .int w1, .ref (gr g h0 2), .ref (gr g h0 3), .ref (gr g h0 4), .ref (gr g h0 5), .ref (gr g h0 6), .ref (gr g h0 7), .ref (gr g h0 8), .ref (gr g h0 9), .int w10, .ref (gr g h0 11), .int w12, .int w13, .int w14, .int w15, .long w16, .int w17, .int w18, .ref (gr g h0 19), .ref (gr g h0 20), .ref (gr g h0 21), .ref (gr g h0 22), .int w23, .long w24, .long w25, .long w26])) ∧ (0 ≤ w10.toInt ∧ w10.toInt ≤ 10) ∧ (0 ≤ w12.toInt ∧ w12.toInt ≤ 200) ∧ (0 ≤ w23.toInt ∧ w23.toInt ≤ 8) ∧ (f1 (gr g h0 4) = .inl (gc g 1, 906, .inr (.inl q1))) ∧ (RowOK q1) ∧ (f1 (gr g h0 5) = .inl (gc g 1, 9060, .inr (.inl u1))) ∧ (f1 (gr g h0 7) = .inl (gc g 1, 1812, .inr (.inl im1))) ∧ (f1 (gr g h0 8) = .inl (gc g 3, 2, .inl ik1)) ∧ (UIq w10 u1 im1 ik1)) A) ([.ref h0, .int p1].toArray) s 0 0 A) (F0 m 72 ls []) := by
        intro H locs ls hI hS  hl
        refine lv_aload_n hx hb dX12_script_72 rfl (lv_at hl 2 rfl) ?_
        refine lv_bipush (v := (-4)) hx hb dX12_script_73 (by decide) ?_
        refine va_calli (va_runV (As := [.int (-4)]) (rest := []) ⟨hx, hb, hml, hown, hts⟩ (c_X12_refuse l dC dI g A hG f_8 h0 (-4) 0 z1 z10 z12 z13 z14 z15 z16 z17 z18 z23 z24 z25 z26 i_h0 k_11 (by first | omega | (simp only [k_c0]; omega)) (by first | omega | (simp only [k_c0]; omega)) (by first | omega | (simp only [k_c0]; omega)) (by first | omega | decide | (simp only [show Int32.toInt (-4) = (-4) from by decide] <;> omega))) (cwV 1 hts (gi_V (fun w_ h0_ => ⟨List.mem_cons_of_mem _ (List.mem_append_right _ (List.mem_append_right _ (List.mem_append_right _ (List.mem_append_right _ (List.mem_append_right _ (List.mem_append_right _ (List.mem_append_right _ (List.mem_append_right _ (List.mem_append_right _ (List.mem_append_left _ h0_)))))))))), (tb_c_X12_refuse w_ h0_).2⟩) (List.mem_cons_of_mem _ (List.mem_append_left _ (List.mem_of_getElem? (i := 28) rfl))) (List.mem_cons_of_mem _ (List.mem_append_left _ (List.mem_of_getElem? (i := 29) rfl))) (List.mem_cons_of_mem _ (List.mem_append_left _ (List.mem_of_getElem? (i := 30) rfl))) (List.mem_cons_of_mem _ (List.mem_append_left _ (List.mem_of_getElem? (i := 4) rfl)))) rfl rfl rfl (by decide +kernel) ⟨Nat.le_of_ble_eq_true rfl, Nat.le_of_ble_eq_true rfl⟩) ⟨fun a U g mk q => ⟨q.1, q.2.calling rfl rfl⟩, k_recv hK hI i_h0.1 k_11 (ci := 12) rfl, fun U hU hW => ⟨rfl, kIn.of hI hK hE hS hU hW⟩⟩ rfl rfl hl.1 rfl (lv_room (Nat.le_of_ble_eq_true rfl)) dX12_script_75 ⟨Nat.le_of_ble_eq_true rfl, Nat.le_of_ble_eq_true rfl⟩) hS (fun q _ h => h) (fun q h => h) (fun r_262 u9 t H1 locs ht hvm w_261 hB hz1 hk1 hS => ?_)
        obtain ⟨f_260, hI, kc_263, k_264⟩ := hB
        rw [ht] at hI
        have k_265 : f_260 (gr g h0 4) = .inl (gc g 1, 906, .inr (.inl q)) := Kp.at kc_263 i_1 (by decide) k_12
        have k_266 : f_260 (gr g h0 5) = .inl (gc g 1, 9060, .inr (.inl u)) := Kp.at kc_263 i_3 (by decide) k_13
        have k_267 : f_260 (gr g h0 7) = .inl (gc g 1, 1812, .inr (.inl im)) := Kp.at kc_263 i_4 (by decide) k_14
        have k_268 : f_260 (gr g h0 8) = .inl (gc g 3, 2, .inl kt) := Kp.at kc_263 i_5 (by decide) k_15
        have k_269 : f_260 (gr g h0 21) = .inl (gc g 0, 8, .inl kq) := Kp.at kc_263 i_6 (by decide) k_16
        have k_270 : f_260 (gr g h0 22) = .inl (gc g 0, 8, .inl nq) := Kp.at kc_263 i_7 (by decide) k_17
        have k_264 : f_260 h0 = .inr (12, [.int (0 : Int32), .int (-4 : Int32), .ref (gr g h0 2), .ref (gr g h0 3), .ref (gr g h0 4), .ref (gr g h0 5), .ref (gr g h0 6), .ref (gr g h0 7), .ref (gr g h0 8), .ref (gr g h0 9), .int z10, .ref (gr g h0 11), .int z12, .int z13, .int z14, .int z15, .long z16, .int z17, .int z18, .ref (gr g h0 19), .ref (gr g h0 20), .ref (gr g h0 21), .ref (gr g h0 22), .int z23, .long z24, .long z25, .long z26]) := k_264
        have kp_271 := Kp.call kp_10 kc_263 (by decide)
        generalize H1 = H at hI hS ⊢
        refine W.widen (k := 0) (n := 0) (Nat.le_of_ble_eq_true rfl) (Nat.le_of_ble_eq_true rfl) ?_
        have w_261 : r_262.toInt = (-4 : Int32).toInt := w_261
        have g_272 : Int32.toInt ((-4)) = (-4) := by decide
        exact W.iret (v := r_262) hx hb hr (fun t ht hW => ⟨⟨r_262, (), rfl, trivial, ⟨f_260, k_ret ht hI, kp_271, (0 : Int32), (-4 : Int32), z10, z12, z13, z14, z15, z16, z17, z18, z23, z24, z25, z26, q, u, im, kt, k_264, (by first | omega | decide), (by first | omega | decide), (by first | omega | decide), k_265, hc1_ok, k_266, k_267, k_268, hU⟩⟩, hS.F ht⟩) hS.2.2 dX12_script_78
      refine lv_if_eq (tgt := 59) hx hb dX12_script_45 (by decide) (fun c_273 => ?_) (fun c_273 => ?_)
      · have c_273 := kc_eq rfl (by decide : Int32.toInt 0 = 0) c_273
        refine lv_aload_n hx hb dX12_script_59 rfl (lv_at hl 2 rfl) ?_
        refine k_get (ci := 12) (v := .ref (gr g h0 4)) (C := RX12) (T := TX12) (N := 27) hx hb hts (fun _ h0_ => List.mem_cons_of_mem _ (List.mem_append_right _ (List.mem_append_left _ h0_))) hown hK hI i_h0.1 k_11 rfl 4 (by decide) (hts (.fieldLink RX12 16 "DeadlineShareModel" "row" "[J") (List.mem_cons_of_mem _ (List.mem_append_left _ (List.mem_of_getElem? (i := 7) rfl)))) (fun _ h9 => h9) rfl dX12_script_60 ?_
        refine lv_iload_n hx hb dX12_script_63 rfl (lv_at hl 1 rfl) ?_
        refine lv_iconst (v := 2) hx hb dX12_script_64 (by decide) ?_
        refine lv_iadd hx hb dX12_script_65 ?_
        refine k_topi (y := nI (6 + 43 * m_21 + 2)) ((nI_add (6 + 43 * m_21) 2).trans (congrArg nI (by omega))) ?_
        refine k_lald hx hb hK hI i_1.1 1 k_12 rfl (vp_in_nI (by omega) (by omega)) dX12_script_66 ?_
        refine k_topl (y := q (6 + 43 * m_21 + 2)) (congrArg q (nI_clamp (by omega))) ?_
        refine lv_lconst (v := 1) hx hb dX12_script_67 (by decide) ?_
        refine W.lcmp hx hb dX12_script_68 ?_
        refine lv_if_eq (tgt := 79) hx hb dX12_script_69 (by decide) (fun c_276 => ?_) (fun c_276 => ?_)
        · have c_276 := lc_eq rfl (by decide : Int64.toInt 1 = 1) ((lg_cmp_eq _ _).mp c_276)
          exact J_79  _ _ _ hI hS  (lv_sub hl [0, 1, 2, 3] rfl)
        · have c_276 := ln_eq rfl (by decide : Int64.toInt 1 = 1) (fun h9 => c_276 ((lg_cmp_eq _ _).mpr h9))
          exact J_72  _ _ _ hI hS  (lv_sub hl [0, 1, 2, 3] rfl)
      · have c_273 := kn_eq rfl (by decide : Int32.toInt 0 = 0) c_273
        refine lv_aload_n hx hb dX12_script_48 rfl (lv_at hl 2 rfl) ?_
        refine lv_iload_n hx hb dX12_script_49 rfl (lv_at hl 3 rfl) ?_
        refine k_topi (y := nI m_21) em_21 ?_
        refine va_calli (va_runV (As := [.int (nI m_21)]) (rest := []) ⟨hx, hb, hml, hown, hts⟩ (c_X12_isSpent l dC dI g A hG f_8 h0 m_21 q i_h0 k_12 hc1_ok (by first | omega | decide | (simp only [k_c0, k_c1, k_cm1] <;> omega))) (cwV 1 hts (gi_V (fun w_ h0_ => ⟨List.mem_cons_of_mem _ (List.mem_append_right _ (List.mem_append_right _ (List.mem_append_right _ (List.mem_append_right _ (List.mem_append_right _ (List.mem_append_right _ (List.mem_append_right _ (List.mem_append_right _ (List.mem_append_right _ (List.mem_append_right _ (List.mem_append_right _ (List.mem_append_left _ h0_)))))))))))), (tb_c_X12_isSpent w_ h0_).2⟩) (List.mem_cons_of_mem _ (List.mem_append_left _ (List.mem_of_getElem? (i := 34) rfl))) (List.mem_cons_of_mem _ (List.mem_append_left _ (List.mem_of_getElem? (i := 35) rfl))) (List.mem_cons_of_mem _ (List.mem_append_left _ (List.mem_of_getElem? (i := 36) rfl))) (List.mem_cons_of_mem _ (List.mem_append_left _ (List.mem_of_getElem? (i := 4) rfl)))) rfl rfl rfl (by decide +kernel) ⟨Nat.le_of_ble_eq_true rfl, Nat.le_of_ble_eq_true rfl⟩) ⟨fun a U g mk q => ⟨q.1, q.2.calling rfl rfl⟩, k_recv hK hI i_h0.1 k_11 (ci := 12) rfl, fun U hU hW => ⟨rfl, kIn.of hI hK hE hS hU hW⟩⟩ rfl rfl hl.1 rfl (lv_room (Nat.le_of_ble_eq_true rfl)) dX12_script_50 ⟨Nat.le_of_ble_eq_true rfl, Nat.le_of_ble_eq_true rfl⟩) hS (fun q _ h => h) (fun q h => h) (fun r_278 u9 t H1 locs ht hvm w_277 hB hz1 hk1 hS => ?_)
        have hI : Iv dC dI g A f_8 t.heap := hB
        rw [ht] at hI
        generalize H1 = H at hI hS ⊢
        refine W.widen (k := 0) (n := 0) (Nat.le_of_ble_eq_true rfl) (Nat.le_of_ble_eq_true rfl) ?_
        refine lv_if_eq (tgt := 79) hx hb dX12_script_53 (by decide) (fun c_279 => ?_) (fun c_279 => ?_)
        · have c_279 := kc_eq rfl (by decide : Int32.toInt 0 = 0) c_279
          exact J_79  _ _ _ hI hS  (lv_sub hl [0, 1, 2, 3] rfl)
        · have c_279 := kn_eq rfl (by decide : Int32.toInt 0 = 0) c_279
          refine lv_goto (tgt := 72) hx hb dX12_script_56 (by decide) ?_
          exact J_72  _ _ _ hI hS  (lv_sub hl [0, 1, 2, 3] rfl)
    refine lv_if_ne (tgt := 42) hx hb dX12_script_35 (by decide) (fun c_280 => ?_) (fun c_280 => ?_)
    · have c_280 := ln_eq rfl (by decide : Int64.toInt 0 = 0) (fun h9 => c_280 ((lg_cmp_eq _ _).mpr h9))
      refine lv_iconst (v := 0) hx hb dX12_script_42 (by decide) ?_
      exact J_43 0 _ _ _ hI hS  (lv_sub hl [0, 1, 2] rfl)
    · have c_280 := lc_eq rfl (by decide : Int64.toInt 0 = 0) ((lg_cmp_eq _ _).mp c_280)
      refine lv_iconst (v := 1) hx hb dX12_script_38 (by decide) ?_
      refine lv_goto (tgt := 43) hx hb dX12_script_39 (by decide) ?_
      exact J_43 1 _ _ _ hI hS  (lv_sub hl [0, 1, 2] rfl)
  · have c_20 := kc_eq rfl (by decide : Int32.toInt 0 = 0) c_20
    refine lv_aload_n hx hb dX12_script_13 rfl (lv_at hl 0 rfl) ?_
    refine lv_bipush (v := (-2)) hx hb dX12_script_14 (by decide) ?_
    refine va_calli (va_runV (As := [.int (-2)]) (rest := []) ⟨hx, hb, hml, hown, hts⟩ (c_X12_refuse l dC dI g A hG f_8 h0 (-2) 0 z1 z10 z12 z13 z14 z15 z16 z17 z18 z23 z24 z25 z26 i_h0 k_11 (by first | omega | (simp only [k_c0]; omega)) (by first | omega | (simp only [k_c0]; omega)) (by first | omega | (simp only [k_c0]; omega)) (by first | omega | decide | (simp only [show Int32.toInt (-2) = (-2) from by decide] <;> omega))) (cwV 1 hts (gi_V (fun w_ h0_ => ⟨List.mem_cons_of_mem _ (List.mem_append_right _ (List.mem_append_right _ (List.mem_append_right _ (List.mem_append_right _ (List.mem_append_right _ (List.mem_append_right _ (List.mem_append_right _ (List.mem_append_right _ (List.mem_append_right _ (List.mem_append_left _ h0_)))))))))), (tb_c_X12_refuse w_ h0_).2⟩) (List.mem_cons_of_mem _ (List.mem_append_left _ (List.mem_of_getElem? (i := 28) rfl))) (List.mem_cons_of_mem _ (List.mem_append_left _ (List.mem_of_getElem? (i := 29) rfl))) (List.mem_cons_of_mem _ (List.mem_append_left _ (List.mem_of_getElem? (i := 30) rfl))) (List.mem_cons_of_mem _ (List.mem_append_left _ (List.mem_of_getElem? (i := 4) rfl)))) rfl rfl rfl (by decide +kernel) ⟨Nat.le_of_ble_eq_true rfl, Nat.le_of_ble_eq_true rfl⟩) ⟨fun a U g mk q => ⟨q.1, q.2.calling rfl rfl⟩, k_recv hK hI i_h0.1 k_11 (ci := 12) rfl, fun U hU hW => ⟨rfl, kIn.of hI hK hE hS hU hW⟩⟩ rfl rfl hl.1 rfl (lv_room (Nat.le_of_ble_eq_true rfl)) dX12_script_16 ⟨Nat.le_of_ble_eq_true rfl, Nat.le_of_ble_eq_true rfl⟩) hS (fun q _ h => h) (fun q h => h) (fun r_283 u9 t H1 locs ht hvm w_282 hB hz1 hk1 hS => ?_)
    obtain ⟨f_281, hI, kc_284, k_285⟩ := hB
    rw [ht] at hI
    have k_286 : f_281 (gr g h0 4) = .inl (gc g 1, 906, .inr (.inl q)) := Kp.at kc_284 i_1 (by decide) k_12
    have k_287 : f_281 (gr g h0 5) = .inl (gc g 1, 9060, .inr (.inl u)) := Kp.at kc_284 i_3 (by decide) k_13
    have k_288 : f_281 (gr g h0 7) = .inl (gc g 1, 1812, .inr (.inl im)) := Kp.at kc_284 i_4 (by decide) k_14
    have k_289 : f_281 (gr g h0 8) = .inl (gc g 3, 2, .inl kt) := Kp.at kc_284 i_5 (by decide) k_15
    have k_290 : f_281 (gr g h0 21) = .inl (gc g 0, 8, .inl kq) := Kp.at kc_284 i_6 (by decide) k_16
    have k_291 : f_281 (gr g h0 22) = .inl (gc g 0, 8, .inl nq) := Kp.at kc_284 i_7 (by decide) k_17
    have k_285 : f_281 h0 = .inr (12, [.int (0 : Int32), .int (-2 : Int32), .ref (gr g h0 2), .ref (gr g h0 3), .ref (gr g h0 4), .ref (gr g h0 5), .ref (gr g h0 6), .ref (gr g h0 7), .ref (gr g h0 8), .ref (gr g h0 9), .int z10, .ref (gr g h0 11), .int z12, .int z13, .int z14, .int z15, .long z16, .int z17, .int z18, .ref (gr g h0 19), .ref (gr g h0 20), .ref (gr g h0 21), .ref (gr g h0 22), .int z23, .long z24, .long z25, .long z26]) := k_285
    have kp_292 := Kp.call kp_10 kc_284 (by decide)
    generalize H1 = H at hI hS ⊢
    refine W.widen (k := 0) (n := 0) (Nat.le_of_ble_eq_true rfl) (Nat.le_of_ble_eq_true rfl) ?_
    have w_282 : r_283.toInt = (-2 : Int32).toInt := w_282
    have g_293 : Int32.toInt ((-2)) = (-2) := by decide
    exact W.iret (v := r_283) hx hb hr (fun t ht hW => ⟨⟨r_283, (), rfl, trivial, ⟨f_281, k_ret ht hI, kp_292, (0 : Int32), (-2 : Int32), z10, z12, z13, z14, z15, z16, z17, z18, z23, z24, z25, z26, q, u, im, kt, k_285, (by first | omega | decide), (by first | omega | decide), (by first | omega | decide), k_286, hc1_ok, k_287, k_288, k_289, hU⟩⟩, hS.F ht⟩) hS.2.2 dX12_script_19
