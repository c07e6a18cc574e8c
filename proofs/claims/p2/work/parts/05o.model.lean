theorem tw_1000 : q_g (.constantLong RX12 242 (9)) := ⟨(List.mem_append_right _ (List.mem_of_getElem? (i := 1387) (by decide +kernel))), good_of_word (by decide +kernel)⟩
theorem tw_1001 : q_g (.selects RX12 yX12_putWord yX12_putWord) := ⟨(List.mem_append_left _ (List.mem_of_getElem? (i := 47) (by decide +kernel))), good_of_word (by decide +kernel)⟩
theorem tw_1002 : q_g (.instanceMethod yX12_putWord) := ⟨(List.mem_append_right _ (List.mem_of_getElem? (i := 1384) (by decide +kernel))), good_of_word (by decide +kernel)⟩
theorem tw_1003 : q_g (.methodLink RX12 238 yX12_putWord) := ⟨(List.mem_append_right _ (List.mem_of_getElem? (i := 1382) (by decide +kernel))), good_of_word (by decide +kernel)⟩
theorem tw_1004 : q_g (.code yX12_listing cX12_listing 6 (some .int)) := ⟨(List.mem_append_right _ (List.mem_of_getElem? (i := 1377) (by decide +kernel))), good_of_word (by decide +kernel)⟩
def ow_c_X12_listing : List Cond := [.fieldLink RX12 67 "DeadlineShareModel" "thrown" "I", .methodLink RX12 142 yX12_isTask, .instanceMethod yX12_isTask, .selects RX12 yX12_isTask yX12_isTask, .initialized RX12, .methodLink RX12 87 yX12_at, .static yX12_at, .fieldLink RX12 16 "DeadlineShareModel" "row" "[J", .fieldLink RX12 128 "DeadlineShareModel" "taped" "I", .methodLink RX12 80 yX12_tell, .instanceMethod yX12_tell, .selects RX12 yX12_tell yX12_tell, .fieldLink RX12 53 "DeadlineShareModel" "words" "[J", .methodLink RX12 238 yX12_putWord, .instanceMethod yX12_putWord, .selects RX12 yX12_putWord yX12_putWord, .methodLink RX12 235 yX12_put, .instanceMethod yX12_put, .selects RX12 yX12_put yX12_put, .constantLong RX12 242 (9), .constantLong RX12 197 (10), .methodLink RX12 76 yX12_refuse, .instanceMethod yX12_refuse, .selects RX12 yX12_refuse yX12_refuse]
def wq_c_X12_listing : List Cond := .code yX12_listing cX12_listing 6 (some .int) :: (ow_c_X12_listing ++ (u_ws RX12 TX12 27 ++ (wq_c_X12_isTask ++ (wq_c_X12_at ++ (wq_c_X12_tell ++ (wq_c_X12_putWord ++ (wq_c_X12_put ++ (wq_c_X12_refuse ++ ([] : List Cond)))))))))
theorem tb_c_X12_listing : ∀ w ∈ wq_c_X12_listing, q_g w := by
  unfold wq_c_X12_listing ow_c_X12_listing
  exact q_cons tw_1004 (q_app (q_cons tw_927 (q_cons tw_951 (q_cons tw_950 (q_cons tw_949 (q_cons tw_728 (q_cons tw_734 (q_cons tw_733 (q_cons tw_731 (q_cons tw_809 (q_cons tw_960 (q_cons tw_959 (q_cons tw_958 (q_cons tw_885 (q_cons tw_1003 (q_cons tw_1002 (q_cons tw_1001 (q_cons tw_815 (q_cons tw_814 (q_cons tw_813 (q_cons tw_1000 (q_cons tw_870 (q_cons tw_966 (q_cons tw_965 (q_cons tw_964 q_nil)))))))))))))))))))))))) (q_app tu_X12 (q_app tb_c_X12_isTask (q_app tb_c_X12_at (q_app tb_c_X12_tell (q_app tb_c_X12_putWord (q_app tb_c_X12_put (q_app tb_c_X12_refuse q_nil))))))))
set_option maxHeartbeats 4000000 in
set_option maxRecDepth 100000 in
theorem c_X12_listing (l : Launch) (dC : Nat → ClassId) (dI : Nat → Nat → Nat) (g : kG) (A : Nat → Prop) (hG : kWf g) (f : Nat → va_E) (h0 : Nat) (p1 : Int32) (z0 : Int32) (z1 : Int32) (z10 : Int32) (z12 : Int32) (z13 : Int32) (z14 : Int32) (z15 : Int32) (z16 : Int64) (z17 : Int32) (z18 : Int32) (z23 : Int32) (z24 : Int64) (z25 : Int64) (z26 : Int64) (q : Nat → Int64) (u : Nat → Int64) (im : Nat → Int64) (kt : Nat → Int32) (i_h0 : ik g 12 h0) (hc0 : f h0 = .inr (12, [.int z0, .int z1, .ref (gr g h0 2), .ref (gr g h0 3), .ref (gr g h0 4), .ref (gr g h0 5), .ref (gr g h0 6), .ref (gr g h0 7), .ref (gr g h0 8), .ref (gr g h0 9), .int z10, .ref (gr g h0 11), .int z12, .int z13, .int z14, .int z15, .long z16, .int z17, .int z18, .ref (gr g h0 19), .ref (gr g h0 20), .ref (gr g h0 21), .ref (gr g h0 22), .int z23, .long z24, .long z25, .long z26])) (hc0_10 : 0 ≤ z10.toInt ∧ z10.toInt ≤ 10) (hc0_12 : 0 ≤ z12.toInt ∧ z12.toInt ≤ 200) (hc0_23 : 0 ≤ z23.toInt ∧ z23.toInt ≤ 8) (hc1 : f (gr g h0 4) = .inl (gc g 1, 906, .inr (.inl q))) (hc1_ok : RowOK q) (hc2 : f (gr g h0 5) = .inl (gc g 1, 9060, .inr (.inl u))) (hc3 : f (gr g h0 7) = .inl (gc g 1, 1812, .inr (.inl im))) (hc4 : f (gr g h0 8) = .inl (gc g 3, 2, .inl kt)) (hU : UIq z10 u im kt) : Met l yX12_listing wq_c_X12_listing ({ frames := 2, cells := 0, slots := 0, locals := 46 } : Room) (va_Pc [.ref h0, .int p1] (fun U => kIn dC dI g A f U)) (va_Qi (fun (r : Int32) (_ : Unit) => True) (fun (_ : Unit) t => ∃ f1 : Nat → va_E, Iv dC dI g A f1 t.heap ∧ Kp g [12, 30, 38] f f1 ∧ ∃ (w0 : Int32) (w1 : Int32) (w10 : Int32) (w12 : Int32) (w13 : Int32) (w14 : Int32) (w15 : Int32) (w16 : Int64) (w17 : Int32) (w18 : Int32) (w23 : Int32) (w24 : Int64) (w25 : Int64) (w26 : Int64) (q1 : Nat → Int64) (u1 : Nat → Int64) (im1 : Nat → Int64) (ik1 : Nat → Int32), (f1 h0 = .inr (12, [.int w0, .int w1, .ref (gr g h0 2), .ref (gr g h0 3), .ref (gr g h0 4), .ref (gr g h0 5), .ref (gr g h0 6), .ref (gr g h0 7), .ref (gr g h0 8), .ref (gr g h0 9), .int w10, .ref (gr g h0 11), .int w12, .int w13, .int w14, .int w15, .long w16, .int w17, .int w18, .ref (gr g h0 19), .ref (gr g h0 20), .ref (gr g h0 21), .ref (gr g h0 22), .int w23, .long w24, .long w25, .long w26])) ∧ (0 ≤ w10.toInt ∧ w10.toInt ≤ 10) ∧ (0 ≤ w12.toInt ∧ w12.toInt ≤ 200) ∧ (0 ≤ w23.toInt ∧ w23.toInt ≤ 8) ∧ (f1 (gr g h0 4) = .inl (gc g 1, 906, .inr (.inl q1))) ∧ (RowOK q1) ∧ (f1 (gr g h0 5) = .inl (gc g 1, 9060, .inr (.inl u1))) ∧ (f1 (gr g h0 7) = .inl (gc g 1, 1812, .inr (.inl im1))) ∧ (f1 (gr g h0 8) = .inl (gc g 3, 2, .inl ik1)) ∧ (UIq w10 u1 im1 ik1)) A) 0 0 A := by
  refine Met.ofW (cc := cX12_listing) (maxL := 6) (ret := (some .int)) (by decide) rfl ?_
  intro p e s m args below meth c s₁ B hml hv
  obtain ⟨rfl, hI, hK, hE⟩ := hv
  have hx := B.exec
  have hb := B.bytes
  have hr := B.returns
  have hts := atoms_spec (ws := wq_c_X12_listing) B.pre
  have hown : s.vm.findClass RX12 = some m.cls := findClass_of_methodNamed B.named
  have hlocks := B.notSynchronized
  have hS : va_S A s.heap s.heap [] := va_S.rf
  have hk0 : Kp g [12, 30, 38] f f := Kp.rf
  have hl := lv_entry ([.ref h0, .int p1]) (n := 6) (Nat.le_of_ble_eq_true rfl)
  rw [lg_entry_eq]
  generalize (lg_sl ([.ref h0, .int p1]) ++ List.replicate (6 - (lg_sl ([.ref h0, .int p1])).length) Slot.unset).toArray = ls at hl ⊢
  have hl : lv_has ls 6 [(0, .ref h0), (1, .int p1)] := hl
  have i_1 := kw_12_4 hG i_h0
  have d_2 := rk_hd hc1_ok
  have i_3 := kw_12_5 hG i_h0
  have i_4 := kw_12_7 hG i_h0
  have i_5 := kw_12_8 hG i_h0
  refine lv_aload_n hx hb dX12_listing_0 rfl (lv_at hl 0 rfl) ?_
  refine lv_iconst (v := 0) hx hb dX12_listing_1 (by decide) ?_
  refine k_put (ci := 12) (v := .int 0) (ty := .int) (C := RX12) (T := TX12) (N := 27) hx hb hts (fun _ h0_ => List.mem_cons_of_mem _ (List.mem_append_right _ (List.mem_append_left _ h0_))) tyX12 tyX12_ok nmX12 hown hK hI hS i_h0.1 hc0 rfl 0 (by decide) (hts (.fieldLink RX12 67 "DeadlineShareModel" "thrown" "I") (List.mem_cons_of_mem _ (List.mem_append_left _ (List.mem_of_getElem? (i := 0) rfl)))) (fun _ h9 => h9) rfl (by decide +kernel) rfl rfl (Nat.le_of_ble_eq_true rfl) rfl (cl_12 i_h0 (by omega) (by omega) (by omega)) dX12_listing_2 (fun f_6 H locs e_7 hI hS => ?_)
  have k_9 : f_6 h0 = .inr (12, [.int 0, .int z1, .ref (gr g h0 2), .ref (gr g h0 3), .ref (gr g h0 4), .ref (gr g h0 5), .ref (gr g h0 6), .ref (gr g h0 7), .ref (gr g h0 8), .ref (gr g h0 9), .int z10, .ref (gr g h0 11), .int z12, .int z13, .int z14, .int z15, .long z16, .int z17, .int z18, .ref (gr g h0 19), .ref (gr g h0 20), .ref (gr g h0 21), .ref (gr g h0 22), .int z23, .long z24, .long z25, .long z26]) := by rw [e_7]; exact va_up_self _ _ _
  have k_10 : f_6 (gr g h0 4) = .inl (gc g 1, 906, .inr (.inl q)) := by rw [e_7, va_up_ne _ _ (ik_ne i_1 i_h0 (by decide))]; exact hc1
  have k_11 : f_6 (gr g h0 5) = .inl (gc g 1, 9060, .inr (.inl u)) := by rw [e_7, va_up_ne _ _ (ik_ne i_3 i_h0 (by decide))]; exact hc2
  have k_12 : f_6 (gr g h0 7) = .inl (gc g 1, 1812, .inr (.inl im)) := by rw [e_7, va_up_ne _ _ (ik_ne i_4 i_h0 (by decide))]; exact hc3
  have k_13 : f_6 (gr g h0 8) = .inl (gc g 3, 2, .inl kt) := by rw [e_7, va_up_ne _ _ (ik_ne i_5 i_h0 (by decide))]; exact hc4
  have kp_8 := Kp.put hk0 i_h0 (by decide) e_7
  refine lv_aload_n hx hb dX12_listing_5 rfl (lv_at hl 0 rfl) ?_
  refine lv_iload_n hx hb dX12_listing_6 rfl (lv_at hl 1 rfl) ?_
  refine va_calli (va_runV (As := [.int p1]) (rest := []) ⟨hx, hb, hml, hown, hts⟩ (c_X12_isTask l dC dI g A hG f_6 h0 p1 q i_h0 k_10 hc1_ok) (cwV 1 hts (gi_V (fun w_ h0_ => ⟨List.mem_cons_of_mem _ (List.mem_append_right _ (List.mem_append_right _ (List.mem_append_left _ h0_))), (tb_c_X12_isTask w_ h0_).2⟩) (List.mem_cons_of_mem _ (List.mem_append_left _ (List.mem_of_getElem? (i := 1) rfl))) (List.mem_cons_of_mem _ (List.mem_append_left _ (List.mem_of_getElem? (i := 2) rfl))) (List.mem_cons_of_mem _ (List.mem_append_left _ (List.mem_of_getElem? (i := 3) rfl))) (List.mem_cons_of_mem _ (List.mem_append_left _ (List.mem_of_getElem? (i := 4) rfl)))) rfl rfl rfl (by decide +kernel) ⟨Nat.le_of_ble_eq_true rfl, Nat.le_of_ble_eq_true rfl⟩) ⟨fun a U g mk q => ⟨q.1, q.2.calling rfl rfl⟩, k_recv hK hI i_h0.1 k_9 (ci := 12) rfl, fun U hU hW => ⟨rfl, kIn.of hI hK hE hS hU hW⟩⟩ rfl rfl hl.1 rfl (lv_room (Nat.le_of_ble_eq_true rfl)) dX12_listing_7 ⟨Nat.le_of_ble_eq_true rfl, Nat.le_of_ble_eq_true rfl⟩) hS (fun q _ h => h) (fun q h => h) (fun r_15 u9 t H1 locs ht hvm w_14 hB hz1 hk1 hS => ?_)
  have hI : Iv dC dI g A f_6 t.heap := hB
  rw [ht] at hI
  generalize H1 = H at hI hS ⊢
  refine W.widen (k := 0) (n := 0) (Nat.le_of_ble_eq_true rfl) (Nat.le_of_ble_eq_true rfl) ?_
  have w_14 : (r_15.toInt = 0 ∨ r_15.toInt = 1) ∧ (r_15.toInt = 0 ∨ (0 ≤ p1.toInt ∧ p1.toInt < (q 0).toInt)) := w_14
  refine lv_if_ne (tgt := 20) hx hb dX12_listing_10 (by decide) (fun c_16 => ?_) (fun c_16 => ?_)
  · have c_16 := kn_eq rfl (by decide : Int32.toInt 0 = 0) c_16
    obtain ⟨m_17, em_17, tm_17⟩ := k_nat (x := p1) (by omega)
    refine lv_iload_n hx hb dX12_listing_20 rfl (lv_at hl 1 rfl) ?_
    refine k_topi (y := nI m_17) em_17 ?_
    refine va_calli (va_runS (As := [.int (nI m_17)]) (rest := []) ⟨hx, hb, hml, hown, hts⟩ (c_X12_at l dC dI g A hG f_6 m_17) (va_cwS 1 hts (gi_S (fun w_ h0_ => ⟨List.mem_cons_of_mem _ (List.mem_append_right _ (List.mem_append_right _ (List.mem_append_right _ (List.mem_append_left _ h0_)))), (tb_c_X12_at w_ h0_).2⟩) (List.mem_cons_of_mem _ (List.mem_append_left _ (List.mem_of_getElem? (i := 5) rfl))) (List.mem_cons_of_mem _ (List.mem_append_left _ (List.mem_of_getElem? (i := 6) rfl))) (List.mem_cons_of_mem _ (List.mem_append_left _ (List.mem_of_getElem? (i := 4) rfl)))) rfl rfl rfl (by decide +kernel) ⟨Nat.le_of_ble_eq_true rfl, Nat.le_of_ble_eq_true rfl⟩) ⟨fun a U g mk q => ⟨q.1, q.2.calling rfl rfl⟩, fun U hU hW => ⟨rfl, kIn.of hI hK hE hS hU hW⟩⟩ rfl rfl hl.1 rfl (lv_room (Nat.le_of_ble_eq_true rfl)) dX12_listing_21 ⟨Nat.le_of_ble_eq_true rfl, Nat.le_of_ble_eq_true rfl⟩) hS (fun q _ h => h) (fun q h => h) (fun r_19 u9 t H1 locs ht hvm w_18 hB hz1 hk1 hS => ?_)
    have hI : Iv dC dI g A f_6 t.heap := hB
    rw [ht] at hI
    generalize H1 = H at hI hS ⊢
    refine W.widen (k := 0) (n := 0) (Nat.le_of_ble_eq_true rfl) (Nat.le_of_ble_eq_true rfl) ?_
    have w_18 : r_19 = nI (6 + 43 * m_17) := w_18
    refine k_topi (y := nI (6 + 43 * m_17)) w_18 ?_
    refine lv_istore_n (lv' := [(2, .int (nI (6 + 43 * m_17))), (0, .ref h0), (1, .int p1)]) hx hb dX12_listing_24 rfl hl (by decide) rfl (fun ls hl => ?_)
    refine lv_aload_n hx hb dX12_listing_25 rfl (lv_at hl 1 rfl) ?_
    refine k_get (ci := 12) (v := .ref (gr g h0 4)) (C := RX12) (T := TX12) (N := 27) hx hb hts (fun _ h0_ => List.mem_cons_of_mem _ (List.mem_append_right _ (List.mem_append_left _ h0_))) hown hK hI i_h0.1 k_9 rfl 4 (by decide) (hts (.fieldLink RX12 16 "DeadlineShareModel" "row" "[J") (List.mem_cons_of_mem _ (List.mem_append_left _ (List.mem_of_getElem? (i := 7) rfl)))) (fun _ h9 => h9) rfl dX12_listing_26 ?_
    refine lv_iload_n hx hb dX12_listing_29 rfl (lv_at hl 0 rfl) ?_
    refine lv_bipush (v := 13) hx hb dX12_listing_30 (by decide) ?_
    refine lv_iadd hx hb dX12_listing_32 ?_
    refine k_topi (y := nI (6 + 43 * m_17 + 13)) ((nI_add (6 + 43 * m_17) 13).trans (congrArg nI (by omega))) ?_
    refine k_lald hx hb hK hI i_1.1 1 k_10 rfl (vp_in_nI (by omega) (by omega)) dX12_listing_33 ?_
    refine k_topl (y := q (6 + 43 * m_17 + 13)) (congrArg q (nI_clamp (by omega))) ?_
    have d_22 := rk_13 hc1_ok (t := m_17) (by omega)
    refine lv_lconst (v := 0) hx hb dX12_listing_34 (by decide) ?_
    refine W.lcmp hx hb dX12_listing_35 ?_
    refine lv_if_ne (tgt := 46) hx hb dX12_listing_36 (by decide) (fun c_23 => ?_) (fun c_23 => ?_)
    · have c_23 := ln_eq rfl (by decide : Int64.toInt 0 = 0) (fun h9 => c_23 ((lg_cmp_eq _ _).mpr h9))
      refine lv_aload_n hx hb dX12_listing_46 rfl (lv_at hl 1 rfl) ?_
      refine lv_iconst (v := 0) hx hb dX12_listing_47 (by decide) ?_
      have b_24 : 0 ≤ Int32.toInt 0 ∧ Int32.toInt 0 ≤ 200 := (by decide)
      refine k_put (ci := 12) (v := .int 0) (ty := .int) (C := RX12) (T := TX12) (N := 27) hx hb hts (fun _ h0_ => List.mem_cons_of_mem _ (List.mem_append_right _ (List.mem_append_left _ h0_))) tyX12 tyX12_ok nmX12 hown hK hI hS i_h0.1 k_9 rfl 12 (by decide) (hts (.fieldLink RX12 128 "DeadlineShareModel" "taped" "I") (List.mem_cons_of_mem _ (List.mem_append_left _ (List.mem_of_getElem? (i := 8) rfl)))) (fun _ h9 => h9) rfl (by decide +kernel) rfl rfl (Nat.le_of_ble_eq_true rfl) rfl (cl_12 i_h0 (by omega) b_24 (by omega)) dX12_listing_48 (fun f_25 H locs e_26 hI hS => ?_)
      have k_28 : f_25 h0 = .inr (12, [.int 0, .int z1, .ref (gr g h0 2), .ref (gr g h0 3), .ref (gr g h0 4), .ref (gr g h0 5), .ref (gr g h0 6), .ref (gr g h0 7), .ref (gr g h0 8), .ref (gr g h0 9), .int z10, .ref (gr g h0 11), .int 0, .int z13, .int z14, .int z15, .long z16, .int z17, .int z18, .ref (gr g h0 19), .ref (gr g h0 20), .ref (gr g h0 21), .ref (gr g h0 22), .int z23, .long z24, .long z25, .long z26]) := by rw [e_26]; exact va_up_self _ _ _
      have k_29 : f_25 (gr g h0 4) = .inl (gc g 1, 906, .inr (.inl q)) := by rw [e_26, va_up_ne _ _ (ik_ne i_1 i_h0 (by decide))]; exact k_10
      have k_30 : f_25 (gr g h0 5) = .inl (gc g 1, 9060, .inr (.inl u)) := by rw [e_26, va_up_ne _ _ (ik_ne i_3 i_h0 (by decide))]; exact k_11
      have k_31 : f_25 (gr g h0 7) = .inl (gc g 1, 1812, .inr (.inl im)) := by rw [e_26, va_up_ne _ _ (ik_ne i_4 i_h0 (by decide))]; exact k_12
      have k_32 : f_25 (gr g h0 8) = .inl (gc g 3, 2, .inl kt) := by rw [e_26, va_up_ne _ _ (ik_ne i_5 i_h0 (by decide))]; exact k_13
      have kp_27 := Kp.put kp_8 i_h0 (by decide) e_26
      refine lv_iconst (v := 0) hx hb dX12_listing_51 (by decide) ?_
      refine lv_istore_n (lv' := [(3, .int 0), (2, .int (nI (6 + 43 * m_17))), (0, .ref h0), (1, .int p1)]) hx hb dX12_listing_52 rfl hl (by decide) rfl (fun ls hl => ?_)
      have K_53 : ∀ (nn : Nat) (y_33 : Nat) (y_35 : Int32) (f_34 : Nat → va_E) (H : Heap) (locs : List Loc) (ls : Array Slot), 8 - y_33 < nn → Iv dC dI g A f_34 H → va_S A s.heap H locs → f_34 h0 = .inr (12, [.int 0, .int z1, .ref (gr g h0 2), .ref (gr g h0 3), .ref (gr g h0 4), .ref (gr g h0 5), .ref (gr g h0 6), .ref (gr g h0 7), .ref (gr g h0 8), .ref (gr g h0 9), .int z10, .ref (gr g h0 11), .int y_35, .int z13, .int z14, .int z15, .long z16, .int z17, .int z18, .ref (gr g h0 19), .ref (gr g h0 20), .ref (gr g h0 21), .ref (gr g h0 22), .int z23, .long z24, .long z25, .long z26]) → f_34 (gr g h0 4) = .inl (gc g 1, 906, .inr (.inl q)) → f_34 (gr g h0 5) = .inl (gc g 1, 9060, .inr (.inl u)) → f_34 (gr g h0 7) = .inl (gc g 1, 1812, .inr (.inl im)) → f_34 (gr g h0 8) = .inl (gc g 3, 2, .inl kt) → Kp g [12, 30, 38] f f_34 → (y_33 ≤ 8) → (0 ≤ y_35.toInt ∧ y_35.toInt ≤ 9 * (y_33 : Int) + 0) → lv_has ls 6 [(3, .int (nI y_33)), (2, .int (nI (6 + 43 * m_17))), (0, .ref h0), (1, .int p1)] → W p l e (headSpec wq_c_X12_listing ({ frames := 2, cells := 0, slots := 0, locals := 46 } : Room)).room s m ([.ref h0, .int p1].toArray) below meth c H locs 0 0 (MQ below (va_Qi (fun (r : Int32) (_ : Unit) => True) (fun (_ : Unit) t => ∃ f1 : Nat → va_E, Iv dC dI g A f1 t.heap ∧ Kp g [12, 30, 38] f f1 ∧ ∃ (w0 : Int32) (w1 : Int32) (w10 : Int32) (w12 : Int32) (w13 : Int32) (w14 : Int32) (w15 : Int32) (w16 : Int64) (w17 : Int32) (w18 : Int32) (w23 : Int32) (w24 : Int64) (w25 : Int64) (w26 : Int64) (q1 : Nat → Int64) (u1 : Nat → Int64) (im1 : Nat → Int64) (ik1 : Nat → Int32), (f1 h0 = .inr (12, [.int w0, .int w1, .ref (gr g h0 2), .ref (gr g h0 3), .ref (gr g h0 4), .ref (gr g h0 5), .ref (gr g h0 6), .ref (gr g h0 7), .ref (gr g h0 8), .ref (gr g h0 9), .int w10, .ref (gr g h0 11), .int w12, .int w13, .int w14, .int w15, .long w16, .int w17, .int w18, .ref (gr g h0 19), .ref (gr g h0 20), .ref (gr g h0 21), .ref (gr g h0 22), .int w23, .long w24, .long w25, .long w26])) ∧ (0 ≤ w10.toInt ∧ w10.toInt ≤ 10) ∧ (0 ≤ w12.toInt ∧ w12.toInt ≤ 200) ∧ (0 ≤ w23.toInt ∧ w23.toInt ≤ 8) ∧ (f1 (gr g h0 4) = .inl (gc g 1, 906, .inr (.inl q1))) ∧ (RowOK q1) ∧ (f1 (gr g h0 5) = .inl (gc g 1, 9060, .inr (.inl u1))) ∧ (f1 (gr g h0 7) = .inl (gc g 1, 1812, .inr (.inl im1))) ∧ (f1 (gr g h0 8) = .inl (gc g 3, 2, .inl ik1)) ∧ (UIq w10 u1 im1 ik1)) A) ([.ref h0, .int p1].toArray) s 0 0 A) (F0 m 53 ls []) := by
        intro nn
        induction nn with
        | zero => intro y_33 y_35 f_34 H locs ls m_44; exact absurd m_44 (Nat.not_lt_zero _)
        | succ nn ih =>
          intro y_33 y_35 f_34 H locs ls m_44 hI hS k_36 k_37 k_38 k_39 k_40 kp_41 t_42 t_43 hl
          refine lv_iload_n hx hb dX12_listing_53 rfl (lv_at hl 0 rfl) ?_
          refine lv_i2l (v := lN (y_33)) hx hb dX12_listing_54 (nI_l (by omega)) ?_
          refine lv_aload_n hx hb dX12_listing_55 rfl (lv_at hl 2 rfl) ?_
          refine k_get (ci := 12) (v := .ref (gr g h0 4)) (C := RX12) (T := TX12) (N := 27) hx hb hts (fun _ h0_ => List.mem_cons_of_mem _ (List.mem_append_right _ (List.mem_append_left _ h0_))) hown hK hI i_h0.1 k_36 rfl 4 (by decide) (hts (.fieldLink RX12 16 "DeadlineShareModel" "row" "[J") (List.mem_cons_of_mem _ (List.mem_append_left _ (List.mem_of_getElem? (i := 7) rfl)))) (fun _ h9 => h9) rfl dX12_listing_56 ?_
          refine lv_iload_n hx hb dX12_listing_59 rfl (lv_at hl 1 rfl) ?_
          refine lv_bipush (v := 13) hx hb dX12_listing_60 (by decide) ?_
          refine lv_iadd hx hb dX12_listing_62 ?_
          refine k_topi (y := nI (6 + 43 * m_17 + 13)) ((nI_add (6 + 43 * m_17) 13).trans (congrArg nI (by omega))) ?_
          refine k_lald hx hb hK hI i_1.1 1 k_37 rfl (vp_in_nI (by omega) (by omega)) dX12_listing_63 ?_
          refine k_topl (y := q (6 + 43 * m_17 + 13)) (congrArg q (nI_clamp (by omega))) ?_
          have d_47 := rk_13 hc1_ok (t := m_17) (by omega)
          refine W.lcmp hx hb dX12_listing_64 ?_
          refine lv_if_ge (tgt := 161) hx hb dX12_listing_65 (by decide) (fun c_48 => ?_) (fun c_48 => ?_)
          · have c_48 := lc_le rfl (lN_toInt (n := y_33) (by omega)) ((lg_cmp_ge _ _).mp c_48)
            refine lv_aload_n hx hb dX12_listing_161 rfl (lv_at hl 2 rfl) ?_
            refine lv_aload_n hx hb dX12_listing_162 rfl (lv_at hl 2 rfl) ?_
            refine k_get (ci := 12) (v := .int y_35) (C := RX12) (T := TX12) (N := 27) hx hb hts (fun _ h0_ => List.mem_cons_of_mem _ (List.mem_append_right _ (List.mem_append_left _ h0_))) hown hK hI i_h0.1 k_36 rfl 12 (by decide) (hts (.fieldLink RX12 128 "DeadlineShareModel" "taped" "I") (List.mem_cons_of_mem _ (List.mem_append_left _ (List.mem_of_getElem? (i := 8) rfl)))) (fun _ h9 => h9) rfl dX12_listing_163 ?_
            refine va_calli (va_runV (As := [.int y_35]) (rest := []) ⟨hx, hb, hml, hown, hts⟩ (c_X12_tell l dC dI g A hG f_34 h0 y_35 0 z1 z10 y_35 z13 z14 z15 z16 z17 z18 z23 z24 z25 z26 i_h0 k_36 (by first | omega | (simp only [k_c0]; omega)) (by first | omega | (simp only [k_c0]; omega)) (by first | omega | (simp only [k_c0]; omega))) (cwV 1 hts (gi_V (fun w_ h0_ => ⟨List.mem_cons_of_mem _ (List.mem_append_right _ (List.mem_append_right _ (List.mem_append_right _ (List.mem_append_right _ (List.mem_append_left _ h0_))))), (tb_c_X12_tell w_ h0_).2⟩) (List.mem_cons_of_mem _ (List.mem_append_left _ (List.mem_of_getElem? (i := 9) rfl))) (List.mem_cons_of_mem _ (List.mem_append_left _ (List.mem_of_getElem? (i := 10) rfl))) (List.mem_cons_of_mem _ (List.mem_append_left _ (List.mem_of_getElem? (i := 11) rfl))) (List.mem_cons_of_mem _ (List.mem_append_left _ (List.mem_of_getElem? (i := 4) rfl)))) rfl rfl rfl (by decide +kernel) ⟨Nat.le_of_ble_eq_true rfl, Nat.le_of_ble_eq_true rfl⟩) ⟨fun a U g mk q => ⟨q.1, q.2.calling rfl rfl⟩, k_recv hK hI i_h0.1 k_36 (ci := 12) rfl, fun U hU hW => ⟨rfl, kIn.of hI hK hE hS hU hW⟩⟩ rfl rfl hl.1 rfl (lv_room (Nat.le_of_ble_eq_true rfl)) dX12_listing_166 ⟨Nat.le_of_ble_eq_true rfl, Nat.le_of_ble_eq_true rfl⟩) hS (fun q _ h => h) (fun q h => h) (fun r_51 u9 t H1 locs ht hvm w_50 hB hz1 hk1 hS => ?_)
            obtain ⟨f_49, hI, kc_52, k_53⟩ := hB
            rw [ht] at hI
            have k_54 : f_49 (gr g h0 4) = .inl (gc g 1, 906, .inr (.inl q)) := Kp.at kc_52 i_1 (by decide) k_37
            have k_55 : f_49 (gr g h0 5) = .inl (gc g 1, 9060, .inr (.inl u)) := Kp.at kc_52 i_3 (by decide) k_38
            have k_56 : f_49 (gr g h0 7) = .inl (gc g 1, 1812, .inr (.inl im)) := Kp.at kc_52 i_4 (by decide) k_39
            have k_57 : f_49 (gr g h0 8) = .inl (gc g 3, 2, .inl kt) := Kp.at kc_52 i_5 (by decide) k_40
            have k_53 : f_49 h0 = .inr (12, [.int (0 : Int32), .int 0, .ref (gr g h0 2), .ref (gr g h0 3), .ref (gr g h0 4), .ref (gr g h0 5), .ref (gr g h0 6), .ref (gr g h0 7), .ref (gr g h0 8), .ref (gr g h0 9), .int z10, .ref (gr g h0 11), .int y_35, .int z13, .int z14, .int z15, .long z16, .int z17, .int z18, .ref (gr g h0 19), .ref (gr g h0 20), .ref (gr g h0 21), .ref (gr g h0 22), .int z23, .long z24, .long z25, .long z26]) := k_53
            have kp_58 := Kp.call kp_41 kc_52 (by decide)
            generalize H1 = H at hI hS ⊢
            refine W.widen (k := 0) (n := 0) (Nat.le_of_ble_eq_true rfl) (Nat.le_of_ble_eq_true rfl) ?_
            have w_50 : r_51.toInt = y_35.toInt := w_50
            exact W.iret (v := r_51) hx hb hr (fun t ht hW => ⟨⟨r_51, (), rfl, trivial, ⟨f_49, k_ret ht hI, kp_58, (0 : Int32), 0, z10, y_35, z13, z14, z15, z16, z17, z18, z23, z24, z25, z26, q, u, im, kt, k_53, (by first | omega | decide), (by first | omega | decide), (by first | omega | decide), k_54, hc1_ok, k_55, k_56, k_57, hU⟩⟩, hS.F ht⟩) hS.2.2 dX12_listing_169
          · have c_48 := ln_le rfl (lN_toInt (n := y_33) (by omega)) (fun h9 => c_48 ((lg_cmp_ge _ _).mpr h9))
            refine lv_iload_n hx hb dX12_listing_68 rfl (lv_at hl 0 rfl) ?_
            have J_78 : ∀ (y_60 : Int32) (f_59 : Nat → va_E) (H : Heap) (locs : List Loc) (ls : Array Slot), Iv dC dI g A f_59 H → va_S A s.heap H locs → f_59 h0 = .inr (12, [.int 0, .int z1, .ref (gr g h0 2), .ref (gr g h0 3), .ref (gr g h0 4), .ref (gr g h0 5), .ref (gr g h0 6), .ref (gr g h0 7), .ref (gr g h0 8), .ref (gr g h0 9), .int z10, .ref (gr g h0 11), .int y_60, .int z13, .int z14, .int z15, .long z16, .int z17, .int z18, .ref (gr g h0 19), .ref (gr g h0 20), .ref (gr g h0 21), .ref (gr g h0 22), .int z23, .long z24, .long z25, .long z26]) → f_59 (gr g h0 4) = .inl (gc g 1, 906, .inr (.inl q)) → f_59 (gr g h0 5) = .inl (gc g 1, 9060, .inr (.inl u)) → f_59 (gr g h0 7) = .inl (gc g 1, 1812, .inr (.inl im)) → f_59 (gr g h0 8) = .inl (gc g 3, 2, .inl kt) → Kp g [12, 30, 38] f f_59 → (0 ≤ y_60.toInt ∧ y_60.toInt ≤ 9 * (y_33 : Int) + 1) → lv_has ls 6 [(3, .int (nI y_33)), (2, .int (nI (6 + 43 * m_17))), (0, .ref h0), (1, .int p1)] → W p l e (headSpec wq_c_X12_listing ({ frames := 2, cells := 0, slots := 0, locals := 46 } : Room)).room s m ([.ref h0, .int p1].toArray) below meth c H locs 0 0 (MQ below (va_Qi (fun (r : Int32) (_ : Unit) => True) (fun (_ : Unit) t => ∃ f1 : Nat → va_E, Iv dC dI g A f1 t.heap ∧ Kp g [12, 30, 38] f f1 ∧ ∃ (w0 : Int32) (w1 : Int32) (w10 : Int32) (w12 : Int32) (w13 : Int32) (w14 : Int32) (w15 : Int32) (w16 : Int64) (w17 : Int32) (w18 : Int32) (w23 : Int32) (w24 : Int64) (w25 : Int64) (w26 : Int64) (q1 : Nat → Int64) (u1 : Nat → Int64) (im1 : Nat → Int64) (ik1 : Nat → Int32), (f1 h0 = .inr (12, [.int w0, .int w1, .ref (gr g h0 2), .ref (gr g h0 3), .ref (gr g h0 4), .ref (gr g h0 5), .ref (gr g h0 6), .ref (gr g h0 7), .ref (gr g h0 8), .ref (gr g h0 9), .int w10, .ref (gr g h0 11), .int w12, .int w13, .int w14, .int w15, .long w16, .int w17, .int w18, .ref (gr g h0 19), .ref (gr g h0 20), .ref (gr g h0 21), .ref (gr g h0 22), .int w23, .long w24, .long w25, .long w26])) ∧ (0 ≤ w10.toInt ∧ w10.toInt ≤ 10) ∧ (0 ≤ w12.toInt ∧ w12.toInt ≤ 200) ∧ (0 ≤ w23.toInt ∧ w23.toInt ≤ 8) ∧ (f1 (gr g h0 4) = .inl (gc g 1, 906, .inr (.inl q1))) ∧ (RowOK q1) ∧ (f1 (gr g h0 5) = .inl (gc g 1, 9060, .inr (.inl u1))) ∧ (f1 (gr g h0 7) = .inl (gc g 1, 1812, .inr (.inl im1))) ∧ (f1 (gr g h0 8) = .inl (gc g 3, 2, .inl ik1)) ∧ (UIq w10 u1 im1 ik1)) A) ([.ref h0, .int p1].toArray) s 0 0 A) (F0 m 78 ls []) := by
              intro y_60 f_59 H locs ls hI hS k_61 k_62 k_63 k_64 k_65 kp_66 t_67 hl
              refine lv_aload_n hx hb dX12_listing_78 rfl (lv_at hl 2 rfl) ?_
              refine lv_aload_n hx hb dX12_listing_79 rfl (lv_at hl 2 rfl) ?_
              refine k_get (ci := 12) (v := .ref (gr g h0 19)) (C := RX12) (T := TX12) (N := 27) hx hb hts (fun _ h0_ => List.mem_cons_of_mem _ (List.mem_append_right _ (List.mem_append_left _ h0_))) hown hK hI i_h0.1 k_61 rfl 19 (by decide) (hts (.fieldLink RX12 53 "DeadlineShareModel" "words" "[J") (List.mem_cons_of_mem _ (List.mem_append_left _ (List.mem_of_getElem? (i := 12) rfl)))) (fun _ h9 => h9) rfl dX12_listing_80 ?_
              have i_69 := kw_12_19 hG i_h0
              refine lv_aload_n hx hb dX12_listing_83 rfl (lv_at hl 2 rfl) ?_
              refine k_get (ci := 12) (v := .ref (gr g h0 4)) (C := RX12) (T := TX12) (N := 27) hx hb hts (fun _ h0_ => List.mem_cons_of_mem _ (List.mem_append_right _ (List.mem_append_left _ h0_))) hown hK hI i_h0.1 k_61 rfl 4 (by decide) (hts (.fieldLink RX12 16 "DeadlineShareModel" "row" "[J") (List.mem_cons_of_mem _ (List.mem_append_left _ (List.mem_of_getElem? (i := 7) rfl)))) (fun _ h9 => h9) rfl dX12_listing_84 ?_
              refine lv_iload_n hx hb dX12_listing_87 rfl (lv_at hl 1 rfl) ?_
              refine lv_bipush (v := 16) hx hb dX12_listing_88 (by decide) ?_
              refine lv_iadd hx hb dX12_listing_90 ?_
              refine k_topi (y := nI (6 + 43 * m_17 + 16)) ((nI_add (6 + 43 * m_17) 16).trans (congrArg nI (by omega))) ?_
              refine lv_iload_n hx hb dX12_listing_91 rfl (lv_at hl 0 rfl) ?_
              refine lv_iadd hx hb dX12_listing_92 ?_
              refine k_topi (y := nI (6 + 43 * m_17 + 16 + y_33)) ((nI_add (6 + 43 * m_17 + 16) y_33).trans (congrArg nI (by omega))) ?_
              refine k_lald hx hb hK hI i_1.1 1 k_62 rfl (vp_in_nI (by omega) (by omega)) dX12_listing_93 ?_
              refine k_topl (y := q (6 + 43 * m_17 + 16 + y_33)) (congrArg q (nI_clamp (by omega))) ?_
              have d_72 := rk_k hc1_ok (t := m_17) (k := y_33) (by omega) (by omega)
              refine lv_l2i (v := (q (6 + 43 * m_17 + 16 + y_33)).toInt32) hx hb dX12_listing_94 rfl ?_
              refine lv_topi (fun v_73 ev_73 => ?_)
              have tv_73 := k_l2i (q (6 + 43 * m_17 + 16 + y_33))
              rw [← ev_73] at tv_73
              obtain ⟨m_74, em_74, tm_74⟩ := k_nat (x := v_73) (by omega)
              refine k_topi (y := nI m_74) em_74 ?_
              obtain ⟨q_76, k_75, b_77⟩ := op_39 hI i_69
              refine k_lald hx hb hK hI i_69.1 1 k_75 rfl (vp_in_nI (by omega) (by omega)) dX12_listing_95 ?_
              refine k_topl (y := q_76 m_74) (congrArg q_76 (nI_clamp (by omega))) ?_
              have d_78 := b_77 m_74 (by omega)
              refine va_callv (va_runV (As := [.long (q_76 m_74)]) (rest := []) ⟨hx, hb, hml, hown, hts⟩ (c_X12_putWord l dC dI g A hG f_59 h0 (q_76 m_74) 0 z1 z10 y_60 z13 z14 z15 z16 z17 z18 z23 z24 z25 z26 i_h0 k_61 (by first | omega | (simp only [k_c0]; omega)) (by first | omega | (simp only [k_c0]; omega)) (by first | omega | (simp only [k_c0]; omega)) (by first | omega | decide | (simp only [k_c0, k_c1, k_cm1] <;> omega)) (by first | omega | decide | (simp only [k_c0, k_c1, k_cm1] <;> omega))) (cwV 1 hts (gi_V (fun w_ h0_ => ⟨List.mem_cons_of_mem _ (List.mem_append_right _ (List.mem_append_right _ (List.mem_append_right _ (List.mem_append_right _ (List.mem_append_right _ (List.mem_append_left _ h0_)))))), (tb_c_X12_putWord w_ h0_).2⟩) (List.mem_cons_of_mem _ (List.mem_append_left _ (List.mem_of_getElem? (i := 13) rfl))) (List.mem_cons_of_mem _ (List.mem_append_left _ (List.mem_of_getElem? (i := 14) rfl))) (List.mem_cons_of_mem _ (List.mem_append_left _ (List.mem_of_getElem? (i := 15) rfl))) (List.mem_cons_of_mem _ (List.mem_append_left _ (List.mem_of_getElem? (i := 4) rfl)))) rfl rfl rfl (by decide +kernel) ⟨Nat.le_of_ble_eq_true rfl, Nat.le_of_ble_eq_true rfl⟩) ⟨fun a U g mk q => ⟨q.1, q.2.calling rfl rfl⟩, k_recv hK hI i_h0.1 k_61 (ci := 12) rfl, fun U hU hW => ⟨rfl, kIn.of hI hK hE hS hU hW⟩⟩ rfl rfl hl.1 rfl (lv_room (Nat.le_of_ble_eq_true rfl)) dX12_listing_96 ⟨Nat.le_of_ble_eq_true rfl, Nat.le_of_ble_eq_true rfl⟩) hS (fun q _ h => h) (fun q h => h) (fun u9 t H1 locs ht hvm _ hB hz1 hk1 hS => ?_)
              obtain ⟨f_79, hI, kc_81, w12_82, k_83, z_84⟩ := hB
              rw [ht] at hI
              have k_85 : f_79 (gr g h0 4) = .inl (gc g 1, 906, .inr (.inl q)) := Kp.at kc_81 i_1 (by decide) k_62
              have k_86 : f_79 (gr g h0 5) = .inl (gc g 1, 9060, .inr (.inl u)) := Kp.at kc_81 i_3 (by decide) k_63
              have k_87 : f_79 (gr g h0 7) = .inl (gc g 1, 1812, .inr (.inl im)) := Kp.at kc_81 i_4 (by decide) k_64
              have k_88 : f_79 (gr g h0 8) = .inl (gc g 3, 2, .inl kt) := Kp.at kc_81 i_5 (by decide) k_65
              have k_89 : f_79 (gr g h0 19) = .inl (gc g 1, 5, .inr (.inl q_76)) := Kp.at kc_81 i_69 (by decide) k_75
              have k_83 : f_79 h0 = .inr (12, [.int (0 : Int32), .int z1, .ref (gr g h0 2), .ref (gr g h0 3), .ref (gr g h0 4), .ref (gr g h0 5), .ref (gr g h0 6), .ref (gr g h0 7), .ref (gr g h0 8), .ref (gr g h0 9), .int z10, .ref (gr g h0 11), .int w12_82, .int z13, .int z14, .int z15, .long z16, .int z17, .int z18, .ref (gr g h0 19), .ref (gr g h0 20), .ref (gr g h0 21), .ref (gr g h0 22), .int z23, .long z24, .long z25, .long z26]) := k_83
              have z_84 : y_60.toInt ≤ w12_82.toInt ∧ w12_82.toInt ≤ y_60.toInt + 5 := z_84
              have kp_90 := Kp.call kp_66 kc_81 (by decide)
              generalize H1 = H at hI hS ⊢
              refine W.widen (k := 0) (n := 0) (Nat.le_of_ble_eq_true rfl) (Nat.le_of_ble_eq_true rfl) ?_
              refine lv_aload_n hx hb dX12_listing_99 rfl (lv_at hl 2 rfl) ?_
              refine lv_bipush (v := 32) hx hb dX12_listing_100 (by decide) ?_
              refine va_callv (va_runV (As := [.int 32]) (rest := []) ⟨hx, hb, hml, hown, hts⟩ (c_X12_put l dC dI g A hG f_79 h0 32 (0 : Int32) z1 z10 w12_82 z13 z14 z15 z16 z17 z18 z23 z24 z25 z26 i_h0 k_83 (by first | omega | (simp only [k_c0]; omega)) (by first | omega | (simp only [k_c0]; omega)) (by first | omega | (simp only [k_c0]; omega)) (by first | omega | decide | (simp only [show Int32.toInt 32 = 32 from by decide] <;> omega))) (cwV 1 hts (gi_V (fun w_ h0_ => ⟨List.mem_cons_of_mem _ (List.mem_append_right _ (List.mem_append_right _ (List.mem_append_right _ (List.mem_append_right _ (List.mem_append_right _ (List.mem_append_right _ (List.mem_append_left _ h0_))))))), (tb_c_X12_put w_ h0_).2⟩) (List.mem_cons_of_mem _ (List.mem_append_left _ (List.mem_of_getElem? (i := 16) rfl))) (List.mem_cons_of_mem _ (List.mem_append_left _ (List.mem_of_getElem? (i := 17) rfl))) (List.mem_cons_of_mem _ (List.mem_append_left _ (List.mem_of_getElem? (i := 18) rfl))) (List.mem_cons_of_mem _ (List.mem_append_left _ (List.mem_of_getElem? (i := 4) rfl)))) rfl rfl rfl (by decide +kernel) ⟨Nat.le_of_ble_eq_true rfl, Nat.le_of_ble_eq_true rfl⟩) ⟨fun a U g mk q => ⟨q.1, q.2.calling rfl rfl⟩, k_recv hK hI i_h0.1 k_83 (ci := 12) rfl, fun U hU hW => ⟨rfl, kIn.of hI hK hE hS hU hW⟩⟩ rfl rfl hl.1 rfl (lv_room (Nat.le_of_ble_eq_true rfl)) dX12_listing_102 ⟨Nat.le_of_ble_eq_true rfl, Nat.le_of_ble_eq_true rfl⟩) hS (fun q _ h => h) (fun q h => h) (fun u9 t H1 locs ht hvm _ hB hz1 hk1 hS => ?_)
              obtain ⟨f_91, hI, kc_93, w12_94, k_95, z_96⟩ := hB
              rw [ht] at hI
              have k_97 : f_91 (gr g h0 4) = .inl (gc g 1, 906, .inr (.inl q)) := Kp.at kc_93 i_1 (by decide) k_85
              have k_98 : f_91 (gr g h0 5) = .inl (gc g 1, 9060, .inr (.inl u)) := Kp.at kc_93 i_3 (by decide) k_86
              have k_99 : f_91 (gr g h0 7) = .inl (gc g 1, 1812, .inr (.inl im)) := Kp.at kc_93 i_4 (by decide) k_87
              have k_100 : f_91 (gr g h0 8) = .inl (gc g 3, 2, .inl kt) := Kp.at kc_93 i_5 (by decide) k_88
              have k_101 : f_91 (gr g h0 19) = .inl (gc g 1, 5, .inr (.inl q_76)) := Kp.at kc_93 i_69 (by decide) k_89
              have k_95 : f_91 h0 = .inr (12, [.int (0 : Int32), .int z1, .ref (gr g h0 2), .ref (gr g h0 3), .ref (gr g h0 4), .ref (gr g h0 5), .ref (gr g h0 6), .ref (gr g h0 7), .ref (gr g h0 8), .ref (gr g h0 9), .int z10, .ref (gr g h0 11), .int w12_94, .int z13, .int z14, .int z15, .long z16, .int z17, .int z18, .ref (gr g h0 19), .ref (gr g h0 20), .ref (gr g h0 21), .ref (gr g h0 22), .int z23, .long z24, .long z25, .long z26]) := k_95
              have z_96 : w12_94.toInt = w12_82.toInt + 1 := z_96
              have kp_102 := Kp.call kp_90 kc_93 (by decide)
              generalize H1 = H at hI hS ⊢
              refine W.widen (k := 0) (n := 0) (Nat.le_of_ble_eq_true rfl) (Nat.le_of_ble_eq_true rfl) ?_
              refine lv_aload_n hx hb dX12_listing_105 rfl (lv_at hl 2 rfl) ?_
              refine k_get (ci := 12) (v := .ref (gr g h0 4)) (C := RX12) (T := TX12) (N := 27) hx hb hts (fun _ h0_ => List.mem_cons_of_mem _ (List.mem_append_right _ (List.mem_append_left _ h0_))) hown hK hI i_h0.1 k_95 rfl 4 (by decide) (hts (.fieldLink RX12 16 "DeadlineShareModel" "row" "[J") (List.mem_cons_of_mem _ (List.mem_append_left _ (List.mem_of_getElem? (i := 7) rfl)))) (fun _ h9 => h9) rfl dX12_listing_106 ?_
              refine lv_iload_n hx hb dX12_listing_109 rfl (lv_at hl 1 rfl) ?_
              refine lv_bipush (v := 24) hx hb dX12_listing_110 (by decide) ?_
              refine lv_iadd hx hb dX12_listing_112 ?_
              refine k_topi (y := nI (6 + 43 * m_17 + 24)) ((nI_add (6 + 43 * m_17) 24).trans (congrArg nI (by omega))) ?_
              refine lv_iload_n hx hb dX12_listing_113 rfl (lv_at hl 0 rfl) ?_
              refine lv_iadd hx hb dX12_listing_114 ?_
              refine k_topi (y := nI (6 + 43 * m_17 + 24 + y_33)) ((nI_add (6 + 43 * m_17 + 24) y_33).trans (congrArg nI (by omega))) ?_
              refine k_lald hx hb hK hI i_1.1 1 k_97 rfl (vp_in_nI (by omega) (by omega)) dX12_listing_115 ?_
              refine k_topl (y := q (6 + 43 * m_17 + 24 + y_33)) (congrArg q (nI_clamp (by omega))) ?_
              have d_105 := rk_k hc1_ok (t := m_17) (k := y_33) (by omega) (by omega)
              refine lv_lstore (lv' := [(4, .long (q (6 + 43 * m_17 + 24 + y_33))), (3, .int (nI y_33)), (2, .int (nI (6 + 43 * m_17))), (0, .ref h0), (1, .int p1)]) hx hb dX12_listing_116 hl (by decide) rfl (fun ls hl => ?_)
              refine lv_lload hx hb dX12_listing_118 (lv_at hl 0 rfl) ?_
              refine lv_ldc2 hx hb hown (hts (.constantLong RX12 242 (9)) (List.mem_cons_of_mem _ (List.mem_append_left _ (List.mem_of_getElem? (i := 19) rfl)))) dX12_listing_120 ?_
              refine W.lcmp hx hb dX12_listing_123 ?_
              have J_141 : ∀ (y_107 : Int32) (f_106 : Nat → va_E) (H : Heap) (locs : List Loc) (ls : Array Slot), Iv dC dI g A f_106 H → va_S A s.heap H locs → f_106 h0 = .inr (12, [.int (0 : Int32), .int z1, .ref (gr g h0 2), .ref (gr g h0 3), .ref (gr g h0 4), .ref (gr g h0 5), .ref (gr g h0 6), .ref (gr g h0 7), .ref (gr g h0 8), .ref (gr g h0 9), .int z10, .ref (gr g h0 11), .int y_107, .int z13, .int z14, .int z15, .long z16, .int z17, .int z18, .ref (gr g h0 19), .ref (gr g h0 20), .ref (gr g h0 21), .ref (gr g h0 22), .int z23, .long z24, .long z25, .long z26]) → f_106 (gr g h0 4) = .inl (gc g 1, 906, .inr (.inl q)) → f_106 (gr g h0 5) = .inl (gc g 1, 9060, .inr (.inl u)) → f_106 (gr g h0 7) = .inl (gc g 1, 1812, .inr (.inl im)) → f_106 (gr g h0 8) = .inl (gc g 3, 2, .inl kt) → f_106 (gr g h0 19) = .inl (gc g 1, 5, .inr (.inl q_76)) → Kp g [12, 30, 38] f f_106 → (0 ≤ y_107.toInt ∧ y_107.toInt ≤ 9 * (y_33 : Int) + 8) → lv_has ls 6 [(4, .long (q (6 + 43 * m_17 + 24 + y_33))), (3, .int (nI y_33)), (2, .int (nI (6 + 43 * m_17))), (0, .ref h0), (1, .int p1)] → W p l e (headSpec wq_c_X12_listing ({ frames := 2, cells := 0, slots := 0, locals := 46 } : Room)).room s m ([.ref h0, .int p1].toArray) below meth c H locs 0 0 (MQ below (va_Qi (fun (r : Int32) (_ : Unit) => True) (fun (_ : Unit) t => ∃ f1 : Nat → va_E, Iv dC dI g A f1 t.heap ∧ Kp g [12, 30, 38] f f1 ∧ ∃ (w0 : Int32) (w1 : Int32) (w10 : Int32) (w12 : Int32) (w13 : Int32) (w14 : Int32) (w15 : Int32) (w16 : Int64) (w17 : Int32) (w18 : Int32) (w23 : Int32) (w24 : Int64) (w25 : Int64) (w26 : Int64) (q1 : Nat → Int64) (u1 : Nat → Int64) (im1 : Nat → Int64) (ik1 : Nat → Int32), (f1 h0 = .inr (12, [.int w0, .int w1, .ref (gr g h0 2), .ref (gr g h0 3), .ref (gr g h0 4), .ref (gr g h0 5), .ref (gr g h0 6), .ref (gr g h0 7), .ref (gr g h0 8), .ref (gr g h0 9), .int w10, .ref (gr g h0 11), .int w12, .int w13, .int w14, .int w15, .long w16, .int w17, .int w18, .ref (gr g h0 19), .ref (gr g h0 20), .ref (gr g h0 21), .ref (gr g h0 22), .int w23, .long w24, .long w25, .long w26])) ∧ (0 ≤ w10.toInt ∧ w10.toInt ≤ 10) ∧ (0 ≤ w12.toInt ∧ w12.toInt ≤ 200) ∧ (0 ≤ w23.toInt ∧ w23.toInt ≤ 8) ∧ (f1 (gr g h0 4) = .inl (gc g 1, 906, .inr (.inl q1))) ∧ (RowOK q1) ∧ (f1 (gr g h0 5) = .inl (gc g 1, 9060, .inr (.inl u1))) ∧ (f1 (gr g h0 7) = .inl (gc g 1, 1812, .inr (.inl im1))) ∧ (f1 (gr g h0 8) = .inl (gc g 3, 2, .inl ik1)) ∧ (UIq w10 u1 im1 ik1)) A) ([.ref h0, .int p1].toArray) s 0 0 A) (F0 m 141 ls []) := by
                intro y_107 f_106 H locs ls hI hS k_108 k_109 k_110 k_111 k_112 k_113 kp_114 t_115 hl
                refine lv_aload_n hx hb dX12_listing_141 rfl (lv_at hl 3 rfl) ?_
                refine lv_bipush (v := 48) hx hb dX12_listing_142 (by decide) ?_
                refine lv_lload hx hb dX12_listing_144 (lv_at hl 0 rfl) ?_
                refine lv_ldc2 hx hb hown (hts (.constantLong RX12 197 (10)) (List.mem_cons_of_mem _ (List.mem_append_left _ (List.mem_of_getElem? (i := 20) rfl)))) dX12_listing_146 ?_
                refine lv_lrem hx hb dX12_listing_149 (by decide) ?_
                refine lv_topl (fun v_116 ev_116 => ?_)
                refine lv_l2i (v := v_116.toInt32) hx hb dX12_listing_150 rfl ?_
                refine lv_topi (fun v_117 ev_117 => ?_)
                have tv_117 := k_l2i v_116
                rw [← ev_117] at tv_117
                refine lv_iadd hx hb dX12_listing_151 ?_
                refine lv_topi (fun v_118 ev_118 => ?_)
                have tv_118 := k_ad 48 v_117
                rw [← ev_118, show Int32.toInt 48 = 48 from by decide] at tv_118
                refine va_callv (va_runV (As := [.int v_118]) (rest := []) ⟨hx, hb, hml, hown, hts⟩ (c_X12_put l dC dI g A hG f_106 h0 v_118 (0 : Int32) z1 z10 y_107 z13 z14 z15 z16 z17 z18 z23 z24 z25 z26 i_h0 k_108 (by first | omega | (simp only [k_c0]; omega)) (by first | omega | (simp only [k_c0]; omega)) (by first | omega | (simp only [k_c0]; omega)) (by first | omega | decide | (simp only [k_c0, k_c1, k_cm1] <;> omega))) (cwV 1 hts (gi_V (fun w_ h0_ => ⟨List.mem_cons_of_mem _ (List.mem_append_right _ (List.mem_append_right _ (List.mem_append_right _ (List.mem_append_right _ (List.mem_append_right _ (List.mem_append_right _ (List.mem_append_left _ h0_))))))), (tb_c_X12_put w_ h0_).2⟩) (List.mem_cons_of_mem _ (List.mem_append_left _ (List.mem_of_getElem? (i := 16) rfl))) (List.mem_cons_of_mem _ (List.mem_append_left _ (List.mem_of_getElem? (i := 17) rfl))) (List.mem_cons_of_mem _ (List.mem_append_left _ (List.mem_of_getElem? (i := 18) rfl))) (List.mem_cons_of_mem _ (List.mem_append_left _ (List.mem_of_getElem? (i := 4) rfl)))) rfl rfl rfl (by decide +kernel) ⟨Nat.le_of_ble_eq_true rfl, Nat.le_of_ble_eq_true rfl⟩) ⟨fun a U g mk q => ⟨q.1, q.2.calling rfl rfl⟩, k_recv hK hI i_h0.1 k_108 (ci := 12) rfl, fun U hU hW => ⟨rfl, kIn.of hI hK hE hS hU hW⟩⟩ rfl rfl hl.1 rfl (lv_room (Nat.le_of_ble_eq_true rfl)) dX12_listing_152 ⟨Nat.le_of_ble_eq_true rfl, Nat.le_of_ble_eq_true rfl⟩) hS (fun q _ h => h) (fun q h => h) (fun u9 t H1 locs ht hvm _ hB hz1 hk1 hS => ?_)
                obtain ⟨f_119, hI, kc_121, w12_122, k_123, z_124⟩ := hB
                rw [ht] at hI
                have k_125 : f_119 (gr g h0 4) = .inl (gc g 1, 906, .inr (.inl q)) := Kp.at kc_121 i_1 (by decide) k_109
                have k_126 : f_119 (gr g h0 5) = .inl (gc g 1, 9060, .inr (.inl u)) := Kp.at kc_121 i_3 (by decide) k_110
                have k_127 : f_119 (gr g h0 7) = .inl (gc g 1, 1812, .inr (.inl im)) := Kp.at kc_121 i_4 (by decide) k_111
                have k_128 : f_119 (gr g h0 8) = .inl (gc g 3, 2, .inl kt) := Kp.at kc_121 i_5 (by decide) k_112
                have k_129 : f_119 (gr g h0 19) = .inl (gc g 1, 5, .inr (.inl q_76)) := Kp.at kc_121 i_69 (by decide) k_113
                have k_123 : f_119 h0 = .inr (12, [.int (0 : Int32), .int z1, .ref (gr g h0 2), .ref (gr g h0 3), .ref (gr g h0 4), .ref (gr g h0 5), .ref (gr g h0 6), .ref (gr g h0 7), .ref (gr g h0 8), .ref (gr g h0 9), .int z10, .ref (gr g h0 11), .int w12_122, .int z13, .int z14, .int z15, .long z16, .int z17, .int z18, .ref (gr g h0 19), .ref (gr g h0 20), .ref (gr g h0 21), .ref (gr g h0 22), .int z23, .long z24, .long z25, .long z26]) := k_123
                have z_124 : w12_122.toInt = y_107.toInt + 1 := z_124
                have kp_130 := Kp.call kp_114 kc_121 (by decide)
                generalize H1 = H at hI hS ⊢
                refine W.widen (k := 0) (n := 0) (Nat.le_of_ble_eq_true rfl) (Nat.le_of_ble_eq_true rfl) ?_
                refine lv_iinc (v := nI (y_33 + 1)) (lv' := [(3, .int (nI (y_33 + 1))), (4, .long (q (6 + 43 * m_17 + 24 + y_33))), (2, .int (nI (6 + 43 * m_17))), (0, .ref h0), (1, .int p1)]) hx hb dX12_listing_155 hl (k := 1) rfl (nI_1 _) (by decide) rfl (fun ls hl => ?_)
                refine lv_goto (tgt := 53) hx hb dX12_listing_158 (by decide) ?_
                exact ih (y_33 + 1) w12_122 f_119 _ _ _ (by omega) hI hS k_123 k_125 k_126 k_127 k_128 kp_130 (by first | omega | decide | exact Or.inl (by decide)) (by first | omega | decide | exact Or.inl (by decide)) (lv_sub hl [0, 2, 3, 4] rfl)
              refine lv_if_le (tgt := 141) hx hb dX12_listing_124 (by decide) (fun c_131 => ?_) (fun c_131 => ?_)
              · have c_131 := lc_le rfl (by decide : Int64.toInt 9 = 9) ((lg_cmp_le _ _).mp c_131)
                exact J_141 w12_94 f_91 _ _ _ hI hS k_95 k_97 k_98 k_99 k_100 k_101 kp_102 (by first | omega | decide | exact Or.inl (by decide)) (lv_sub hl [0, 1, 2, 3, 4] rfl)
              · have c_131 := ln_le rfl (by decide : Int64.toInt 9 = 9) (fun h9 => c_131 ((lg_cmp_le _ _).mpr h9))
                refine lv_aload_n hx hb dX12_listing_127 rfl (lv_at hl 3 rfl) ?_
                refine lv_bipush (v := 48) hx hb dX12_listing_128 (by decide) ?_
                refine lv_lload hx hb dX12_listing_130 (lv_at hl 0 rfl) ?_
                refine lv_ldc2 hx hb hown (hts (.constantLong RX12 197 (10)) (List.mem_cons_of_mem _ (List.mem_append_left _ (List.mem_of_getElem? (i := 20) rfl)))) dX12_listing_132 ?_
                refine lv_ldiv hx hb dX12_listing_135 (by decide) ?_
                refine lv_topl (fun v_132 ev_132 => ?_)
                refine lv_l2i (v := v_132.toInt32) hx hb dX12_listing_136 rfl ?_
                refine lv_topi (fun v_133 ev_133 => ?_)
                have tv_133 := k_l2i v_132
                rw [← ev_133] at tv_133
                refine lv_iadd hx hb dX12_listing_137 ?_
                refine lv_topi (fun v_134 ev_134 => ?_)
                have tv_134 := k_ad 48 v_133
                rw [← ev_134, show Int32.toInt 48 = 48 from by decide] at tv_134
                refine va_callv (va_runV (As := [.int v_134]) (rest := []) ⟨hx, hb, hml, hown, hts⟩ (c_X12_put l dC dI g A hG f_91 h0 v_134 (0 : Int32) z1 z10 w12_94 z13 z14 z15 z16 z17 z18 z23 z24 z25 z26 i_h0 k_95 (by first | omega | (simp only [k_c0]; omega)) (by first | omega | (simp only [k_c0]; omega)) (by first | omega | (simp only [k_c0]; omega)) (by first | omega | decide | (simp only [k_c0, k_c1, k_cm1] <;> omega))) (cwV 1 hts (gi_V (fun w_ h0_ => ⟨List.mem_cons_of_mem _ (List.mem_append_right _ (List.mem_append_right _ (List.mem_append_right _ (List.mem_append_right _ (List.mem_append_right _ (List.mem_append_right _ (List.mem_append_left _ h0_))))))), (tb_c_X12_put w_ h0_).2⟩) (List.mem_cons_of_mem _ (List.mem_append_left _ (List.mem_of_getElem? (i := 16) rfl))) (List.mem_cons_of_mem _ (List.mem_append_left _ (List.mem_of_getElem? (i := 17) rfl))) (List.mem_cons_of_mem _ (List.mem_append_left _ (List.mem_of_getElem? (i := 18) rfl))) (List.mem_cons_of_mem _ (List.mem_append_left _ (List.mem_of_getElem? (i := 4) rfl)))) rfl rfl rfl (by decide +kernel) ⟨Nat.le_of_ble_eq_true rfl, Nat.le_of_ble_eq_true rfl⟩) ⟨fun a U g mk q => ⟨q.1, q.2.calling rfl rfl⟩, k_recv hK hI i_h0.1 k_95 (ci := 12) rfl, fun U hU hW => ⟨rfl, kIn.of hI hK hE hS hU hW⟩⟩ rfl rfl hl.1 rfl (lv_room (Nat.le_of_ble_eq_true rfl)) dX12_listing_138 ⟨Nat.le_of_ble_eq_true rfl, Nat.le_of_ble_eq_true rfl⟩) hS (fun q _ h => h) (fun q h => h) (fun u9 t H1 locs ht hvm _ hB hz1 hk1 hS => ?_)
                obtain ⟨f_135, hI, kc_137, w12_138, k_139, z_140⟩ := hB
                rw [ht] at hI
                have k_141 : f_135 (gr g h0 4) = .inl (gc g 1, 906, .inr (.inl q)) := Kp.at kc_137 i_1 (by decide) k_97
                have k_142 : f_135 (gr g h0 5) = .inl (gc g 1, 9060, .inr (.inl u)) := Kp.at kc_137 i_3 (by decide) k_98
                have k_143 : f_135 (gr g h0 7) = .inl (gc g 1, 1812, .inr (.inl im)) := Kp.at kc_137 i_4 (by decide) k_99
                have k_144 : f_135 (gr g h0 8) = .inl (gc g 3, 2, .inl kt) := Kp.at kc_137 i_5 (by decide) k_100
                have k_145 : f_135 (gr g h0 19) = .inl (gc g 1, 5, .inr (.inl q_76)) := Kp.at kc_137 i_69 (by decide) k_101
                have k_139 : f_135 h0 = .inr (12, [.int (0 : Int32), .int z1, .ref (gr g h0 2), .ref (gr g h0 3), .ref (gr g h0 4), .ref (gr g h0 5), .ref (gr g h0 6), .ref (gr g h0 7), .ref (gr g h0 8), .ref (gr g h0 9), .int z10, .ref (gr g h0 11), .int w12_138, .int z13, .int z14, .int z15, .long z16, .int z17, .int z18, .ref (gr g h0 19), .ref (gr g h0 20), .ref (gr g h0 21), .ref (gr g h0 22), .int z23, .long z24, .long z25, .long z26]) := k_139
                have z_140 : w12_138.toInt = w12_94.toInt + 1 := z_140
                have kp_146 := Kp.call kp_102 kc_137 (by decide)
                generalize H1 = H at hI hS ⊢
                refine W.widen (k := 0) (n := 0) (Nat.le_of_ble_eq_true rfl) (Nat.le_of_ble_eq_true rfl) ?_
                exact J_141 w12_138 f_135 _ _ _ hI hS k_139 k_141 k_142 k_143 k_144 k_145 kp_146 (by first | omega | decide | exact Or.inl (by decide)) (lv_sub hl [0, 1, 2, 3, 4] rfl)
            refine lv_if_le (tgt := 78) hx hb dX12_listing_69 (by decide) (fun c_147 => ?_) (fun c_147 => ?_)
            · have c_147 := kc_le (nI_toInt (n := y_33) (by omega)) (by decide : Int32.toInt 0 = 0) c_147
              exact J_78 y_35 f_34 _ _ _ hI hS k_36 k_37 k_38 k_39 k_40 kp_41 (by first | omega | decide | exact Or.inl (by decide)) (lv_sub hl [0, 1, 2, 3] rfl)
            · have c_147 := kn_le (nI_toInt (n := y_33) (by omega)) (by decide : Int32.toInt 0 = 0) c_147
              refine lv_aload_n hx hb dX12_listing_72 rfl (lv_at hl 2 rfl) ?_
              refine lv_bipush (v := 44) hx hb dX12_listing_73 (by decide) ?_
              refine va_callv (va_runV (As := [.int 44]) (rest := []) ⟨hx, hb, hml, hown, hts⟩ (c_X12_put l dC dI g A hG f_34 h0 44 0 z1 z10 y_35 z13 z14 z15 z16 z17 z18 z23 z24 z25 z26 i_h0 k_36 (by first | omega | (simp only [k_c0]; omega)) (by first | omega | (simp only [k_c0]; omega)) (by first | omega | (simp only [k_c0]; omega)) (by first | omega | decide | (simp only [show Int32.toInt 44 = 44 from by decide] <;> omega))) (cwV 1 hts (gi_V (fun w_ h0_ => ⟨List.mem_cons_of_mem _ (List.mem_append_right _ (List.mem_append_right _ (List.mem_append_right _ (List.mem_append_right _ (List.mem_append_right _ (List.mem_append_right _ (List.mem_append_left _ h0_))))))), (tb_c_X12_put w_ h0_).2⟩) (List.mem_cons_of_mem _ (List.mem_append_left _ (List.mem_of_getElem? (i := 16) rfl))) (List.mem_cons_of_mem _ (List.mem_append_left _ (List.mem_of_getElem? (i := 17) rfl))) (List.mem_cons_of_mem _ (List.mem_append_left _ (List.mem_of_getElem? (i := 18) rfl))) (List.mem_cons_of_mem _ (List.mem_append_left _ (List.mem_of_getElem? (i := 4) rfl)))) rfl rfl rfl (by decide +kernel) ⟨Nat.le_of_ble_eq_true rfl, Nat.le_of_ble_eq_true rfl⟩) ⟨fun a U g mk q => ⟨q.1, q.2.calling rfl rfl⟩, k_recv hK hI i_h0.1 k_36 (ci := 12) rfl, fun U hU hW => ⟨rfl, kIn.of hI hK hE hS hU hW⟩⟩ rfl rfl hl.1 rfl (lv_room (Nat.le_of_ble_eq_true rfl)) dX12_listing_75 ⟨Nat.le_of_ble_eq_true rfl, Nat.le_of_ble_eq_true rfl⟩) hS (fun q _ h => h) (fun q h => h) (fun u9 t H1 locs ht hvm _ hB hz1 hk1 hS => ?_)
              obtain ⟨f_148, hI, kc_150, w12_151, k_152, z_153⟩ := hB
              rw [ht] at hI
              have k_154 : f_148 (gr g h0 4) = .inl (gc g 1, 906, .inr (.inl q)) := Kp.at kc_150 i_1 (by decide) k_37
              have k_155 : f_148 (gr g h0 5) = .inl (gc g 1, 9060, .inr (.inl u)) := Kp.at kc_150 i_3 (by decide) k_38
              have k_156 : f_148 (gr g h0 7) = .inl (gc g 1, 1812, .inr (.inl im)) := Kp.at kc_150 i_4 (by decide) k_39
              have k_157 : f_148 (gr g h0 8) = .inl (gc g 3, 2, .inl kt) := Kp.at kc_150 i_5 (by decide) k_40
              have k_152 : f_148 h0 = .inr (12, [.int (0 : Int32), .int z1, .ref (gr g h0 2), .ref (gr g h0 3), .ref (gr g h0 4), .ref (gr g h0 5), .ref (gr g h0 6), .ref (gr g h0 7), .ref (gr g h0 8), .ref (gr g h0 9), .int z10, .ref (gr g h0 11), .int w12_151, .int z13, .int z14, .int z15, .long z16, .int z17, .int z18, .ref (gr g h0 19), .ref (gr g h0 20), .ref (gr g h0 21), .ref (gr g h0 22), .int z23, .long z24, .long z25, .long z26]) := k_152
              have z_153 : w12_151.toInt = y_35.toInt + 1 := z_153
              have kp_158 := Kp.call kp_41 kc_150 (by decide)
              generalize H1 = H at hI hS ⊢
              refine W.widen (k := 0) (n := 0) (Nat.le_of_ble_eq_true rfl) (Nat.le_of_ble_eq_true rfl) ?_
              exact J_78 w12_151 f_148 _ _ _ hI hS k_152 k_154 k_155 k_156 k_157 kp_158 (by first | omega | decide | exact Or.inl (by decide)) (lv_sub hl [0, 1, 2, 3] rfl)
      exact K_53 _ 0 0 f_25 _ _ _ (Nat.lt_succ_self _) hI hS k_28 k_29 k_30 k_31 k_32 kp_27 (by first | omega | decide | exact Or.inl (by decide) | (simp only [show Int32.toInt 0 = 0 from by decide] <;> omega)) (by first | omega | decide | exact Or.inl (by decide) | (simp only [show Int32.toInt 0 = 0 from by decide] <;> omega)) (lv_sub hl [0, 1, 2, 3] rfl)
    · have c_23 := lc_eq rfl (by decide : Int64.toInt 0 = 0) ((lg_cmp_eq _ _).mp c_23)
      refine lv_aload_n hx hb dX12_listing_39 rfl (lv_at hl 1 rfl) ?_
      refine lv_bipush (v := (-4)) hx hb dX12_listing_40 (by decide) ?_
      refine va_calli (va_runV (As := [.int (-4)]) (rest := []) ⟨hx, hb, hml, hown, hts⟩ (c_X12_refuse l dC dI g A hG f_6 h0 (-4) 0 z1 z10 z12 z13 z14 z15 z16 z17 z18 z23 z24 z25 z26 i_h0 k_9 (by first | omega | (simp only [k_c0]; omega)) (by first | omega | (simp only [k_c0]; omega)) (by first | omega | (simp only [k_c0]; omega)) (by first | omega | decide | (simp only [show Int32.toInt (-4) = (-4) from by decide] <;> omega))) (cwV 1 hts (gi_V (fun w_ h0_ => ⟨List.mem_cons_of_mem _ (List.mem_append_right _ (List.mem_append_right _ (List.mem_append_right _ (List.mem_append_right _ (List.mem_append_right _ (List.mem_append_right _ (List.mem_append_right _ (List.mem_append_left _ h0_)))))))), (tb_c_X12_refuse w_ h0_).2⟩) (List.mem_cons_of_mem _ (List.mem_append_left _ (List.mem_of_getElem? (i := 21) rfl))) (List.mem_cons_of_mem _ (List.mem_append_left _ (List.mem_of_getElem? (i := 22) rfl))) (List.mem_cons_of_mem _ (List.mem_append_left _ (List.mem_of_getElem? (i := 23) rfl))) (List.mem_cons_of_mem _ (List.mem_append_left _ (List.mem_of_getElem? (i := 4) rfl)))) rfl rfl rfl (by decide +kernel) ⟨Nat.le_of_ble_eq_true rfl, Nat.le_of_ble_eq_true rfl⟩) ⟨fun a U g mk q => ⟨q.1, q.2.calling rfl rfl⟩, k_recv hK hI i_h0.1 k_9 (ci := 12) rfl, fun U hU hW => ⟨rfl, kIn.of hI hK hE hS hU hW⟩⟩ rfl rfl hl.1 rfl (lv_room (Nat.le_of_ble_eq_true rfl)) dX12_listing_42 ⟨Nat.le_of_ble_eq_true rfl, Nat.le_of_ble_eq_true rfl⟩) hS (fun q _ h => h) (fun q h => h) (fun r_161 u9 t H1 locs ht hvm w_160 hB hz1 hk1 hS => ?_)
      obtain ⟨f_159, hI, kc_162, k_163⟩ := hB
      rw [ht] at hI
      have k_164 : f_159 (gr g h0 4) = .inl (gc g 1, 906, .inr (.inl q)) := Kp.at kc_162 i_1 (by decide) k_10
      have k_165 : f_159 (gr g h0 5) = .inl (gc g 1, 9060, .inr (.inl u)) := Kp.at kc_162 i_3 (by decide) k_11
      have k_166 : f_159 (gr g h0 7) = .inl (gc g 1, 1812, .inr (.inl im)) := Kp.at kc_162 i_4 (by decide) k_12
      have k_167 : f_159 (gr g h0 8) = .inl (gc g 3, 2, .inl kt) := Kp.at kc_162 i_5 (by decide) k_13
      have k_163 : f_159 h0 = .inr (12, [.int (0 : Int32), .int (-4 : Int32), .ref (gr g h0 2), .ref (gr g h0 3), .ref (gr g h0 4), .ref (gr g h0 5), .ref (gr g h0 6), .ref (gr g h0 7), .ref (gr g h0 8), .ref (gr g h0 9), .int z10, .ref (gr g h0 11), .int z12, .int z13, .int z14, .int z15, .long z16, .int z17, .int z18, .ref (gr g h0 19), .ref (gr g h0 20), .ref (gr g h0 21), .ref (gr g h0 22), .int z23, .long z24, .long z25, .long z26]) := k_163
      have kp_168 := Kp.call kp_8 kc_162 (by decide)
      generalize H1 = H at hI hS ⊢
      refine W.widen (k := 0) (n := 0) (Nat.le_of_ble_eq_true rfl) (Nat.le_of_ble_eq_true rfl) ?_
      have w_160 : r_161.toInt = (-4 : Int32).toInt := w_160
      have g_169 : Int32.toInt ((-4)) = (-4) := by decide
      exact W.iret (v := r_161) hx hb hr (fun t ht hW => ⟨⟨r_161, (), rfl, trivial, ⟨f_159, k_ret ht hI, kp_168, (0 : Int32), (-4 : Int32), z10, z12, z13, z14, z15, z16, z17, z18, z23, z24, z25, z26, q, u, im, kt, k_163, (by first | omega | decide), (by first | omega | decide), (by first | omega | decide), k_164, hc1_ok, k_165, k_166, k_167, hU⟩⟩, hS.F ht⟩) hS.2.2 dX12_listing_45
  · have c_16 := kc_eq rfl (by decide : Int32.toInt 0 = 0) c_16
    refine lv_aload_n hx hb dX12_listing_13 rfl (lv_at hl 0 rfl) ?_
    refine lv_bipush (v := (-2)) hx hb dX12_listing_14 (by decide) ?_
    refine va_calli (va_runV (As := [.int (-2)]) (rest := []) ⟨hx, hb, hml, hown, hts⟩ (c_X12_refuse l dC dI g A hG f_6 h0 (-2) 0 z1 z10 z12 z13 z14 z15 z16 z17 z18 z23 z24 z25 z26 i_h0 k_9 (by first | omega | (simp only [k_c0]; omega)) (by first | omega | (simp only [k_c0]; omega)) (by first | omega | (simp only [k_c0]; omega)) (by first | omega | decide | (simp only [show Int32.toInt (-2) = (-2) from by decide] <;> omega))) (cwV 1 hts (gi_V (fun w_ h0_ => ⟨List.mem_cons_of_mem _ (List.mem_append_right _ (List.mem_append_right _ (List.mem_append_right _ (List.mem_append_right _ (List.mem_append_right _ (List.mem_append_right _ (List.mem_append_right _ (List.mem_append_left _ h0_)))))))), (tb_c_X12_refuse w_ h0_).2⟩) (List.mem_cons_of_mem _ (List.mem_append_left _ (List.mem_of_getElem? (i := 21) rfl))) (List.mem_cons_of_mem _ (List.mem_append_left _ (List.mem_of_getElem? (i := 22) rfl))) (List.mem_cons_of_mem _ (List.mem_append_left _ (List.mem_of_getElem? (i := 23) rfl))) (List.mem_cons_of_mem _ (List.mem_append_left _ (List.mem_of_getElem? (i := 4) rfl)))) rfl rfl rfl (by decide +kernel) ⟨Nat.le_of_ble_eq_true rfl, Nat.le_of_ble_eq_true rfl⟩) ⟨fun a U g mk q => ⟨q.1, q.2.calling rfl rfl⟩, k_recv hK hI i_h0.1 k_9 (ci := 12) rfl, fun U hU hW => ⟨rfl, kIn.of hI hK hE hS hU hW⟩⟩ rfl rfl hl.1 rfl (lv_room (Nat.le_of_ble_eq_true rfl)) dX12_listing_16 ⟨Nat.le_of_ble_eq_true rfl, Nat.le_of_ble_eq_true rfl⟩) hS (fun q _ h => h) (fun q h => h) (fun r_172 u9 t H1 locs ht hvm w_171 hB hz1 hk1 hS => ?_)
    obtain ⟨f_170, hI, kc_173, k_174⟩ := hB
    rw [ht] at hI
    have k_175 : f_170 (gr g h0 4) = .inl (gc g 1, 906, .inr (.inl q)) := Kp.at kc_173 i_1 (by decide) k_10
    have k_176 : f_170 (gr g h0 5) = .inl (gc g 1, 9060, .inr (.inl u)) := Kp.at kc_173 i_3 (by decide) k_11
    have k_177 : f_170 (gr g h0 7) = .inl (gc g 1, 1812, .inr (.inl im)) := Kp.at kc_173 i_4 (by decide) k_12
    have k_178 : f_170 (gr g h0 8) = .inl (gc g 3, 2, .inl kt) := Kp.at kc_173 i_5 (by decide) k_13
    have k_174 : f_170 h0 = .inr (12, [.int (0 : Int32), .int (-2 : Int32), .ref (gr g h0 2), .ref (gr g h0 3), .ref (gr g h0 4), .ref (gr g h0 5), .ref (gr g h0 6), .ref (gr g h0 7), .ref (gr g h0 8), .ref (gr g h0 9), .int z10, .ref (gr g h0 11), .int z12, .int z13, .int z14, .int z15, .long z16, .int z17, .int z18, .ref (gr g h0 19), .ref (gr g h0 20), .ref (gr g h0 21), .ref (gr g h0 22), .int z23, .long z24, .long z25, .long z26]) := k_174
    have kp_179 := Kp.call kp_8 kc_173 (by decide)
    generalize H1 = H at hI hS ⊢
    refine W.widen (k := 0) (n := 0) (Nat.le_of_ble_eq_true rfl) (Nat.le_of_ble_eq_true rfl) ?_
    have w_171 : r_172.toInt = (-2 : Int32).toInt := w_171
    have g_180 : Int32.toInt ((-2)) = (-2) := by decide
    exact W.iret (v := r_172) hx hb hr (fun t ht hW => ⟨⟨r_172, (), rfl, trivial, ⟨f_170, k_ret ht hI, kp_179, (0 : Int32), (-2 : Int32), z10, z12, z13, z14, z15, z16, z17, z18, z23, z24, z25, z26, q, u, im, kt, k_174, (by first | omega | decide), (by first | omega | decide), (by first | omega | decide), k_175, hc1_ok, k_176, k_177, k_178, hU⟩⟩, hS.F ht⟩) hS.2.2 dX12_listing_19
theorem tw_1005 : q_g (.code yX12_task cX12_task 5 (some .int)) := ⟨(List.mem_append_right _ (List.mem_of_getElem? (i := 1220) (by decide +kernel))), good_of_word (by decide +kernel)⟩
def ow_c_X12_task : List Cond := [.fieldLink RX12 67 "DeadlineShareModel" "thrown" "I", .constantLong RX12 135 (8), .methodLink RX12 83 yX12_in, .static yX12_in, .initialized RX12, .methodLink RX12 76 yX12_refuse, .instanceMethod yX12_refuse, .selects RX12 yX12_refuse yX12_refuse, .constantLong RX12 137 (20), .fieldLink RX12 16 "DeadlineShareModel" "row" "[J", .methodLink RX12 139 yX12_remember, .instanceMethod yX12_remember, .selects RX12 yX12_remember yX12_remember, .methodLink RX12 87 yX12_at, .static yX12_at, .methodLink RX12 80 yX12_tell, .instanceMethod yX12_tell, .selects RX12 yX12_tell yX12_tell]
def wq_c_X12_task : List Cond := .code yX12_task cX12_task 5 (some .int) :: (ow_c_X12_task ++ (u_ws RX12 TX12 27 ++ (wq_c_X12_in ++ (wq_c_X12_refuse ++ (wq_c_X12_remember ++ (wq_c_X12_at ++ (wq_c_X12_tell ++ ([] : List Cond))))))))
theorem tb_c_X12_task : ∀ w ∈ wq_c_X12_task, q_g w := by
  unfold wq_c_X12_task ow_c_X12_task
  exact q_cons tw_1005 (q_app (q_cons tw_927 (q_cons tw_956 (q_cons tw_730 (q_cons tw_729 (q_cons tw_728 (q_cons tw_966 (q_cons tw_965 (q_cons tw_964 (q_cons tw_970 (q_cons tw_731 (q_cons tw_963 (q_cons tw_962 (q_cons tw_961 (q_cons tw_734 (q_cons tw_733 (q_cons tw_960 (q_cons tw_959 (q_cons tw_958 q_nil)))))))))))))))))) (q_app tu_X12 (q_app tb_c_X12_in (q_app tb_c_X12_refuse (q_app tb_c_X12_remember (q_app tb_c_X12_at (q_app tb_c_X12_tell q_nil)))))))
set_option maxHeartbeats 4000000 in
set_option maxRecDepth 100000 in
theorem c_X12_task (l : Launch) (dC : Nat → ClassId) (dI : Nat → Nat → Nat) (g : kG) (A : Nat → Prop) (hG : kWf g) (f : Nat → va_E) (h0 : Nat) (p1 : Int32) (p2 : Int32) (z0 : Int32) (z1 : Int32) (z10 : Int32) (z12 : Int32) (z13 : Int32) (z14 : Int32) (z15 : Int32) (z16 : Int64) (z17 : Int32) (z18 : Int32) (z23 : Int32) (z24 : Int64) (z25 : Int64) (z26 : Int64) (q : Nat → Int64) (u : Nat → Int64) (im : Nat → Int64) (kt : Nat → Int32) (i_h0 : ik g 12 h0) (hc0 : f h0 = .inr (12, [.int z0, .int z1, .ref (gr g h0 2), .ref (gr g h0 3), .ref (gr g h0 4), .ref (gr g h0 5), .ref (gr g h0 6), .ref (gr g h0 7), .ref (gr g h0 8), .ref (gr g h0 9), .int z10, .ref (gr g h0 11), .int z12, .int z13, .int z14, .int z15, .long z16, .int z17, .int z18, .ref (gr g h0 19), .ref (gr g h0 20), .ref (gr g h0 21), .ref (gr g h0 22), .int z23, .long z24, .long z25, .long z26])) (hc0_10 : 0 ≤ z10.toInt ∧ z10.toInt ≤ 10) (hc0_12 : 0 ≤ z12.toInt ∧ z12.toInt ≤ 200) (hc0_23 : 0 ≤ z23.toInt ∧ z23.toInt ≤ 8) (hc1 : f (gr g h0 4) = .inl (gc g 1, 906, .inr (.inl q))) (hc1_ok : RowOK q) (hc2 : f (gr g h0 5) = .inl (gc g 1, 9060, .inr (.inl u))) (hc3 : f (gr g h0 7) = .inl (gc g 1, 1812, .inr (.inl im))) (hc4 : f (gr g h0 8) = .inl (gc g 3, 2, .inl kt)) (hU : UIq z10 u im kt) : Met l yX12_task wq_c_X12_task ({ frames := 1, cells := 0, slots := 0, locals := 25 } : Room) (va_Pc [.ref h0, .int p1, .int p2] (fun U => kIn dC dI g A f U)) (va_Qi (fun (r : Int32) (_ : Unit) => True) (fun (_ : Unit) t => ∃ f1 : Nat → va_E, Iv dC dI g A f1 t.heap ∧ Kp g [12, 30, 32, 33, 37] f f1 ∧ ∃ (w0 : Int32) (w1 : Int32) (w10 : Int32) (w12 : Int32) (w13 : Int32) (w14 : Int32) (w15 : Int32) (w16 : Int64) (w17 : Int32) (w18 : Int32) (w23 : Int32) (w24 : Int64) (w25 : Int64) (w26 : Int64) (q1 : Nat → Int64) (u1 : Nat → Int64) (im1 : Nat → Int64) (ik1 : Nat → Int32), (f1 h0 = .inr (12, [.int w0, .int w1, .ref (gr g h0 2), .ref (gr g h0 3), .ref (gr g h0 4), .ref (gr g h0 5), .ref (gr g h0 6), .ref (gr g h0 7), .ref (gr g h0 8), .ref (gr g h0 9), .int w10, .ref (gr g h0 11), .int w12, .int w13, .int w14, .int w15, .long w16, .int w17, .int w18, .ref (gr g h0 19), .ref (gr g h0 20), .ref (gr g h0 21), .ref (gr g h0 22), .int w23, .long w24, .long w25, .long w26])) ∧ (0 ≤ w10.toInt ∧ w10.toInt ≤ 10) ∧ (0 ≤ w12.toInt ∧ w12.toInt ≤ 200) ∧ (0 ≤ w23.toInt ∧ w23.toInt ≤ 8) ∧ (f1 (gr g h0 4) = .inl (gc g 1, 906, .inr (.inl q1))) ∧ (RowOK q1) ∧ (f1 (gr g h0 5) = .inl (gc g 1, 9060, .inr (.inl u1))) ∧ (f1 (gr g h0 7) = .inl (gc g 1, 1812, .inr (.inl im1))) ∧ (f1 (gr g h0 8) = .inl (gc g 3, 2, .inl ik1)) ∧ (UIq w10 u1 im1 ik1)) A) 0 0 A := by
  refine Met.ofW (cc := cX12_task) (maxL := 5) (ret := (some .int)) (by decide) rfl ?_
  intro p e s m args below meth c s₁ B hml hv
  obtain ⟨rfl, hI, hK, hE⟩ := hv
  have hx := B.exec
  have hb := B.bytes
  have hr := B.returns
  have hts := atoms_spec (ws := wq_c_X12_task) B.pre
  have hown : s.vm.findClass RX12 = some m.cls := findClass_of_methodNamed B.named
  have hlocks := B.notSynchronized
  have hS : va_S A s.heap s.heap [] := va_S.rf
  have hk0 : Kp g [12, 30, 32, 33, 37] f f := Kp.rf
  have hl := lv_entry ([.ref h0, .int p1, .int p2]) (n := 5) (Nat.le_of_ble_eq_true rfl)
  rw [lg_entry_eq]
  generalize (lg_sl ([.ref h0, .int p1, .int p2]) ++ List.replicate (5 - (lg_sl ([.ref h0, .int p1, .int p2])).length) Slot.unset).toArray = ls at hl ⊢
  have hl : lv_has ls 5 [(0, .ref h0), (1, .int p1), (2, .int p2)] := hl
  have i_1 := kw_12_4 hG i_h0
  have d_2 := rk_hd hc1_ok
  have i_3 := kw_12_5 hG i_h0
  have i_4 := kw_12_7 hG i_h0
  have i_5 := kw_12_8 hG i_h0
  refine lv_aload_n hx hb dX12_task_0 rfl (lv_at hl 0 rfl) ?_
  refine lv_iconst (v := 0) hx hb dX12_task_1 (by decide) ?_
  refine k_put (ci := 12) (v := .int 0) (ty := .int) (C := RX12) (T := TX12) (N := 27) hx hb hts (fun _ h0_ => List.mem_cons_of_mem _ (List.mem_append_right _ (List.mem_append_left _ h0_))) tyX12 tyX12_ok nmX12 hown hK hI hS i_h0.1 hc0 rfl 0 (by decide) (hts (.fieldLink RX12 67 "DeadlineShareModel" "thrown" "I") (List.mem_cons_of_mem _ (List.mem_append_left _ (List.mem_of_getElem? (i := 0) rfl)))) (fun _ h9 => h9) rfl (by decide +kernel) rfl rfl (Nat.le_of_ble_eq_true rfl) rfl (cl_12 i_h0 (by omega) (by omega) (by omega)) dX12_task_2 (fun f_6 H locs e_7 hI hS => ?_)
  have k_9 : f_6 h0 = .inr (12, [.int 0, .int z1, .ref (gr g h0 2), .ref (gr g h0 3), .ref (gr g h0 4), .ref (gr g h0 5), .ref (gr g h0 6), .ref (gr g h0 7), .ref (gr g h0 8), .ref (gr g h0 9), .int z10, .ref (gr g h0 11), .int z12, .int z13, .int z14, .int z15, .long z16, .int z17, .int z18, .ref (gr g h0 19), .ref (gr g h0 20), .ref (gr g h0 21), .ref (gr g h0 22), .int z23, .long z24, .long z25, .long z26]) := by rw [e_7]; exact va_up_self _ _ _
  have k_10 : f_6 (gr g h0 4) = .inl (gc g 1, 906, .inr (.inl q)) := by rw [e_7, va_up_ne _ _ (ik_ne i_1 i_h0 (by decide))]; exact hc1
  have k_11 : f_6 (gr g h0 5) = .inl (gc g 1, 9060, .inr (.inl u)) := by rw [e_7, va_up_ne _ _ (ik_ne i_3 i_h0 (by decide))]; exact hc2
  have k_12 : f_6 (gr g h0 7) = .inl (gc g 1, 1812, .inr (.inl im)) := by rw [e_7, va_up_ne _ _ (ik_ne i_4 i_h0 (by decide))]; exact hc3
  have k_13 : f_6 (gr g h0 8) = .inl (gc g 3, 2, .inl kt) := by rw [e_7, va_up_ne _ _ (ik_ne i_5 i_h0 (by decide))]; exact hc4
  have kp_8 := Kp.put hk0 i_h0 (by decide) e_7
  refine lv_iload_n hx hb dX12_task_5 rfl (lv_at hl 1 rfl) ?_
  refine lv_i2l (v := p1.toInt64) hx hb dX12_task_6 rfl ?_
  have t_14 := Int32.toInt_toInt64 p1
  have g_15 := Int32.toInt_lt p1
  have g_16 := Int32.le_toInt p1
  refine lv_lconst (v := 1) hx hb dX12_task_7 (by decide) ?_
  refine lv_ldc2 hx hb hown (hts (.constantLong RX12 135 (8)) (List.mem_cons_of_mem _ (List.mem_append_left _ (List.mem_of_getElem? (i := 1) rfl)))) dX12_task_8 ?_
  refine va_calli (va_runS (As := [.long p1.toInt64, .long 1, .long 8]) (rest := []) ⟨hx, hb, hml, hown, hts⟩ (c_X12_in l dC dI g A hG f_6 p1.toInt64 1 8) (va_cwS 3 hts (gi_S (fun w_ h0_ => ⟨List.mem_cons_of_mem _ (List.mem_append_right _ (List.mem_append_right _ (List.mem_append_left _ h0_))), (tb_c_X12_in w_ h0_).2⟩) (List.mem_cons_of_mem _ (List.mem_append_left _ (List.mem_of_getElem? (i := 2) rfl))) (List.mem_cons_of_mem _ (List.mem_append_left _ (List.mem_of_getElem? (i := 3) rfl))) (List.mem_cons_of_mem _ (List.mem_append_left _ (List.mem_of_getElem? (i := 4) rfl)))) rfl rfl rfl (by decide +kernel) ⟨Nat.le_of_ble_eq_true rfl, Nat.le_of_ble_eq_true rfl⟩) ⟨fun a U g mk q => ⟨q.1, q.2.calling rfl rfl⟩, fun U hU hW => ⟨rfl, kIn.of hI hK hE hS hU hW⟩⟩ rfl rfl hl.1 rfl (lv_room (Nat.le_of_ble_eq_true rfl)) dX12_task_11 ⟨Nat.le_of_ble_eq_true rfl, Nat.le_of_ble_eq_true rfl⟩) hS (fun q _ h => h) (fun q h => h) (fun r_18 u9 t H1 locs ht hvm w_17 hB hz1 hk1 hS => ?_)
  have hI : Iv dC dI g A f_6 t.heap := hB
  rw [ht] at hI
  generalize H1 = H at hI hS ⊢
  refine W.widen (k := 0) (n := 0) (Nat.le_of_ble_eq_true rfl) (Nat.le_of_ble_eq_true rfl) ?_
  have w_17 : (r_18.toInt = 0 ∧ (p1.toInt64.toInt < (1 : Int64).toInt ∨ (8 : Int64).toInt < p1.toInt64.toInt)) ∨ (r_18.toInt = 1 ∧ (1 : Int64).toInt ≤ p1.toInt64.toInt ∧ p1.toInt64.toInt ≤ (8 : Int64).toInt) := w_17
  have g_19 : Int64.toInt (1) = 1 := by decide
  have g_20 : Int64.toInt (8) = 8 := by decide
  have J_29 : ∀ (H : Heap) (locs : List Loc) (ls : Array Slot), Iv dC dI g A f_6 H → va_S A s.heap H locs → lv_has ls 5 [(0, .ref h0), (1, .int p1), (2, .int p2)] → W p l e (headSpec wq_c_X12_task ({ frames := 1, cells := 0, slots := 0, locals := 25 } : Room)).room s m ([.ref h0, .int p1, .int p2].toArray) below meth c H locs 0 0 (MQ below (va_Qi (fun (r : Int32) (_ : Unit) => True) (fun (_ : Unit) t => ∃ f1 : Nat → va_E, Iv dC dI g A f1 t.heap ∧ Kp g [12, 30, 32, 33, 37] f f1 ∧ ∃ (w0 : Int32) (w1 : Int32) (w10 : Int32) (w12 : Int32) (w13 : Int32) (w14 : Int32) (w15 : Int32) (w16 : Int64) (w17 : Int32) (w18 : Int32) (w23 : Int32) (w24 : Int64) (w25 : Int64) (w26 : Int64) (q1 : Nat → Int64) (u1 : Nat → Int64) (im1 : Nat → Int64) (ik1 : Nat → Int32), (f1 h0 = .inr (12, [.int w0, .int w1, .ref (gr g h0 2), .ref (gr g h0 3), .ref (gr g h0 4), .ref (gr g h0 5), .ref (gr g h0 6), .ref (gr g h0 7), .ref (gr g h0 8), .ref (gr g h0 9), .int w10, .ref (gr g h0 11), .int w12, .int w13, .int w14, .int w15, .long w16, .int w17, .int w18, .ref (gr g h0 19), .ref (gr g h0 20), .ref (gr g h0 21), .ref (gr g h0 22), .int w23, .long w24, .long w25, .long w26])) ∧ (0 ≤ w10.toInt ∧ w10.toInt ≤ 10) ∧ (0 ≤ w12.toInt ∧ w12.toInt ≤ 200) ∧ (0 ≤ w23.toInt ∧ w23.toInt ≤ 8) ∧ (f1 (gr g h0 4) = .inl (gc g 1, 906, .inr (.inl q1))) ∧ (RowOK q1) ∧ (f1 (gr g h0 5) = .inl (gc g 1, 9060, .inr (.inl u1))) ∧ (f1 (gr g h0 7) = .inl (gc g 1, 1812, .inr (.inl im1))) ∧ (f1 (gr g h0 8) = .inl (gc g 3, 2, .inl ik1)) ∧ (UIq w10 u1 im1 ik1)) A) ([.ref h0, .int p1, .int p2].toArray) s 0 0 A) (F0 m 29 ls []) := by
    intro H locs ls hI hS  hl
    refine lv_aload_n hx hb dX12_task_29 rfl (lv_at hl 0 rfl) ?_
    refine lv_iconst (v := (-1)) hx hb dX12_task_30 (by decide) ?_
    refine va_calli (va_runV (As := [.int (-1)]) (rest := []) ⟨hx, hb, hml, hown, hts⟩ (c_X12_refuse l dC dI g A hG f_6 h0 (-1) 0 z1 z10 z12 z13 z14 z15 z16 z17 z18 z23 z24 z25 z26 i_h0 k_9 (by first | omega | (simp only [k_c0]; omega)) (by first | omega | (simp only [k_c0]; omega)) (by first | omega | (simp only [k_c0]; omega)) (by first | omega | decide | (simp only [show Int32.toInt (-1) = (-1) from by decide] <;> omega))) (cwV 1 hts (gi_V (fun w_ h0_ => ⟨List.mem_cons_of_mem _ (List.mem_append_right _ (List.mem_append_right _ (List.mem_append_right _ (List.mem_append_left _ h0_)))), (tb_c_X12_refuse w_ h0_).2⟩) (List.mem_cons_of_mem _ (List.mem_append_left _ (List.mem_of_getElem? (i := 5) rfl))) (List.mem_cons_of_mem _ (List.mem_append_left _ (List.mem_of_getElem? (i := 6) rfl))) (List.mem_cons_of_mem _ (List.mem_append_left _ (List.mem_of_getElem? (i := 7) rfl))) (List.mem_cons_of_mem _ (List.mem_append_left _ (List.mem_of_getElem? (i := 4) rfl)))) rfl rfl rfl (by decide +kernel) ⟨Nat.le_of_ble_eq_true rfl, Nat.le_of_ble_eq_true rfl⟩) ⟨fun a U g mk q => ⟨q.1, q.2.calling rfl rfl⟩, k_recv hK hI i_h0.1 k_9 (ci := 12) rfl, fun U hU hW => ⟨rfl, kIn.of hI hK hE hS hU hW⟩⟩ rfl rfl hl.1 rfl (lv_room (Nat.le_of_ble_eq_true rfl)) dX12_task_31 ⟨Nat.le_of_ble_eq_true rfl, Nat.le_of_ble_eq_true rfl⟩) hS (fun q _ h => h) (fun q h => h) (fun r_23 u9 t H1 locs ht hvm w_22 hB hz1 hk1 hS => ?_)
    obtain ⟨f_21, hI, kc_24, k_25⟩ := hB
    rw [ht] at hI
    have k_26 : f_21 (gr g h0 4) = .inl (gc g 1, 906, .inr (.inl q)) := Kp.at kc_24 i_1 (by decide) k_10
    have k_27 : f_21 (gr g h0 5) = .inl (gc g 1, 9060, .inr (.inl u)) := Kp.at kc_24 i_3 (by decide) k_11
    have k_28 : f_21 (gr g h0 7) = .inl (gc g 1, 1812, .inr (.inl im)) := Kp.at kc_24 i_4 (by decide) k_12
    have k_29 : f_21 (gr g h0 8) = .inl (gc g 3, 2, .inl kt) := Kp.at kc_24 i_5 (by decide) k_13
    have k_25 : f_21 h0 = .inr (12, [.int (0 : Int32), .int (-1 : Int32), .ref (gr g h0 2), .ref (gr g h0 3), .ref (gr g h0 4), .ref (gr g h0 5), .ref (gr g h0 6), .ref (gr g h0 7), .ref (gr g h0 8), .ref (gr g h0 9), .int z10, .ref (gr g h0 11), .int z12, .int z13, .int z14, .int z15, .long z16, .int z17, .int z18, .ref (gr g h0 19), .ref (gr g h0 20), .ref (gr g h0 21), .ref (gr g h0 22), .int z23, .long z24, .long z25, .long z26]) := k_25
    have kp_30 := Kp.call kp_8 kc_24 (by decide)
    generalize H1 = H at hI hS ⊢
    refine W.widen (k := 0) (n := 0) (Nat.le_of_ble_eq_true rfl) (Nat.le_of_ble_eq_true rfl) ?_
    have w_22 : r_23.toInt = (-1 : Int32).toInt := w_22
    have g_31 : Int32.toInt ((-1)) = (-1) := by decide
    exact W.iret (v := r_23) hx hb hr (fun t ht hW => ⟨⟨r_23, (), rfl, trivial, ⟨f_21, k_ret ht hI, kp_30, (0 : Int32), (-1 : Int32), z10, z12, z13, z14, z15, z16, z17, z18, z23, z24, z25, z26, q, u, im, kt, k_25, (by first | omega | decide), (by first | omega | decide), (by first | omega | decide), k_26, hc1_ok, k_27, k_28, k_29, hU⟩⟩, hS.F ht⟩) hS.2.2 dX12_task_34
  refine lv_if_eq (tgt := 29) hx hb dX12_task_14 (by decide) (fun c_32 => ?_) (fun c_32 => ?_)
  · have c_32 := kc_eq rfl (by decide : Int32.toInt 0 = 0) c_32
    exact J_29  _ _ _ hI hS  (lv_sub hl [0, 1, 2] rfl)
  · have c_32 := kn_eq rfl (by decide : Int32.toInt 0 = 0) c_32
    refine lv_iload_n hx hb dX12_task_17 rfl (lv_at hl 2 rfl) ?_
    refine lv_i2l (v := p2.toInt64) hx hb dX12_task_18 rfl ?_
    have t_33 := Int32.toInt_toInt64 p2
    have g_34 := Int32.toInt_lt p2
    have g_35 := Int32.le_toInt p2
    refine lv_lconst (v := 1) hx hb dX12_task_19 (by decide) ?_
    refine lv_ldc2 hx hb hown (hts (.constantLong RX12 137 (20)) (List.mem_cons_of_mem _ (List.mem_append_left _ (List.mem_of_getElem? (i := 8) rfl)))) dX12_task_20 ?_
    refine va_calli (va_runS (As := [.long p2.toInt64, .long 1, .long 20]) (rest := []) ⟨hx, hb, hml, hown, hts⟩ (c_X12_in l dC dI g A hG f_6 p2.toInt64 1 20) (va_cwS 3 hts (gi_S (fun w_ h0_ => ⟨List.mem_cons_of_mem _ (List.mem_append_right _ (List.mem_append_right _ (List.mem_append_left _ h0_))), (tb_c_X12_in w_ h0_).2⟩) (List.mem_cons_of_mem _ (List.mem_append_left _ (List.mem_of_getElem? (i := 2) rfl))) (List.mem_cons_of_mem _ (List.mem_append_left _ (List.mem_of_getElem? (i := 3) rfl))) (List.mem_cons_of_mem _ (List.mem_append_left _ (List.mem_of_getElem? (i := 4) rfl)))) rfl rfl rfl (by decide +kernel) ⟨Nat.le_of_ble_eq_true rfl, Nat.le_of_ble_eq_true rfl⟩) ⟨fun a U g mk q => ⟨q.1, q.2.calling rfl rfl⟩, fun U hU hW => ⟨rfl, kIn.of hI hK hE hS hU hW⟩⟩ rfl rfl hl.1 rfl (lv_room (Nat.le_of_ble_eq_true rfl)) dX12_task_23 ⟨Nat.le_of_ble_eq_true rfl, Nat.le_of_ble_eq_true rfl⟩) hS (fun q _ h => h) (fun q h => h) (fun r_37 u9 t H1 locs ht hvm w_36 hB hz1 hk1 hS => ?_)
    have hI : Iv dC dI g A f_6 t.heap := hB
    rw [ht] at hI
    generalize H1 = H at hI hS ⊢
    refine W.widen (k := 0) (n := 0) (Nat.le_of_ble_eq_true rfl) (Nat.le_of_ble_eq_true rfl) ?_
    have w_36 : (r_37.toInt = 0 ∧ (p2.toInt64.toInt < (1 : Int64).toInt ∨ (20 : Int64).toInt < p2.toInt64.toInt)) ∨ (r_37.toInt = 1 ∧ (1 : Int64).toInt ≤ p2.toInt64.toInt ∧ p2.toInt64.toInt ≤ (20 : Int64).toInt) := w_36
    have g_38 : Int64.toInt (1) = 1 := by decide
    have g_39 : Int64.toInt (20) = 20 := by decide
    refine lv_if_ne (tgt := 35) hx hb dX12_task_26 (by decide) (fun c_40 => ?_) (fun c_40 => ?_)
    · have c_40 := kn_eq rfl (by decide : Int32.toInt 0 = 0) c_40
      refine lv_aload_n hx hb dX12_task_35 rfl (lv_at hl 0 rfl) ?_
      refine k_get (ci := 12) (v := .ref (gr g h0 4)) (C := RX12) (T := TX12) (N := 27) hx hb hts (fun _ h0_ => List.mem_cons_of_mem _ (List.mem_append_right _ (List.mem_append_left _ h0_))) hown hK hI i_h0.1 k_9 rfl 4 (by decide) (hts (.fieldLink RX12 16 "DeadlineShareModel" "row" "[J") (List.mem_cons_of_mem _ (List.mem_append_left _ (List.mem_of_getElem? (i := 9) rfl)))) (fun _ h9 => h9) rfl dX12_task_36 ?_
      refine lv_iconst (v := 0) hx hb dX12_task_39 (by decide) ?_
      refine k_lald hx hb hK hI i_1.1 1 k_10 rfl (by unfold vp_in; decide) dX12_task_40 ?_
      refine k_topl (y := q 0) (congrArg q (show Int32.toNatClampNeg 0 = 0 by decide)) ?_
      refine lv_l2i (v := (q 0).toInt32) hx hb dX12_task_41 rfl ?_
      refine lv_topi (fun v_43 ev_43 => ?_)
      have tv_43 := k_l2i (q 0)
      rw [← ev_43] at tv_43
      obtain ⟨m_44, em_44, tm_44⟩ := k_nat (x := v_43) (by omega)
      refine k_topi (y := nI m_44) em_44 ?_
      refine lv_istore_n (lv' := [(3, .int (nI m_44)), (0, .ref h0), (1, .int p1), (2, .int p2)]) hx hb dX12_task_42 rfl hl (by decide) rfl (fun ls hl => ?_)
      refine lv_iload_n hx hb dX12_task_43 rfl (lv_at hl 0 rfl) ?_
      refine lv_bipush (v := 12) hx hb dX12_task_44 (by decide) ?_
      refine lv_icmp_ne (tgt := 56) hx hb dX12_task_46 (by decide) (fun c_45 => ?_) (fun c_45 => ?_)
      · have c_45 := kn_eq (nI_toInt (n := m_44) (by omega)) (by decide : Int32.toInt 12 = 12) c_45
        refine lv_aload_n hx hb dX12_task_56 rfl (lv_at hl 1 rfl) ?_
        refine lv_iconst (v := 0) hx hb dX12_task_57 (by decide) ?_
        refine va_callv (va_runV (As := [.int 0]) (rest := []) ⟨hx, hb, hml, hown, hts⟩ (c_X12_remember l dC dI g A hG f_6 h0 0 0 z1 z10 z12 z13 z14 z15 z16 z17 z18 z23 z24 z25 z26 q u im kt i_h0 k_9 (by first | omega | (simp only [k_c0]; omega)) (by first | omega | (simp only [k_c0]; omega)) (by first | omega | (simp only [k_c0]; omega)) k_10 hc1_ok k_11 k_12 k_13 (by first | omega | decide | (simp only [show Int32.toInt 0 = 0 from by decide] <;> omega))) (cwV 1 hts (gi_V (fun w_ h0_ => ⟨List.mem_cons_of_mem _ (List.mem_append_right _ (List.mem_append_right _ (List.mem_append_right _ (List.mem_append_right _ (List.mem_append_left _ h0_))))), (tb_c_X12_remember w_ h0_).2⟩) (List.mem_cons_of_mem _ (List.mem_append_left _ (List.mem_of_getElem? (i := 10) rfl))) (List.mem_cons_of_mem _ (List.mem_append_left _ (List.mem_of_getElem? (i := 11) rfl))) (List.mem_cons_of_mem _ (List.mem_append_left _ (List.mem_of_getElem? (i := 12) rfl))) (List.mem_cons_of_mem _ (List.mem_append_left _ (List.mem_of_getElem? (i := 4) rfl)))) rfl rfl rfl (by decide +kernel) ⟨Nat.le_of_ble_eq_true rfl, Nat.le_of_ble_eq_true rfl⟩) ⟨fun a U g mk q => ⟨q.1, q.2.calling rfl rfl⟩, k_recv hK hI i_h0.1 k_9 (ci := 12) rfl, fun U hU hW => ⟨rfl, kIn.of hI hK hE hS hU hW⟩⟩ rfl rfl hl.1 rfl (lv_room (Nat.le_of_ble_eq_true rfl)) dX12_task_58 ⟨Nat.le_of_ble_eq_true rfl, Nat.le_of_ble_eq_true rfl⟩) hS (fun q _ h => h) (fun q h => h) (fun u9 t H1 locs ht hvm _ hB hz1 hk1 hS => ?_)
        obtain ⟨f_46, hI, kc_48, w10_49, u1_50, k_51, z_52, k_53, z_54⟩ := hB
        rw [ht] at hI
        have k_55 : f_46 (gr g h0 4) = .inl (gc g 1, 906, .inr (.inl q)) := Kp.at kc_48 i_1 (by decide) k_10
        have k_56 : f_46 (gr g h0 7) = .inl (gc g 1, 1812, .inr (.inl im)) := Kp.at kc_48 i_4 (by decide) k_12
        have k_57 : f_46 (gr g h0 8) = .inl (gc g 3, 2, .inl kt) := Kp.at kc_48 i_5 (by decide) k_13
        have k_51 : f_46 h0 = .inr (12, [.int (0 : Int32), .int z1, .ref (gr g h0 2), .ref (gr g h0 3), .ref (gr g h0 4), .ref (gr g h0 5), .ref (gr g h0 6), .ref (gr g h0 7), .ref (gr g h0 8), .ref (gr g h0 9), .int w10_49, .ref (gr g h0 11), .int z12, .int z13, .int z14, .int z15, .long z16, .int z17, .int z18, .ref (gr g h0 19), .ref (gr g h0 20), .ref (gr g h0 21), .ref (gr g h0 22), .int z23, .long z24, .long z25, .long z26]) := k_51
        have z_52 : 0 ≤ w10_49.toInt ∧ w10_49.toInt ≤ 10 := z_52
        have z_54 : UIq w10_49 u1_50 im kt := z_54
        have kp_58 := Kp.call kp_8 kc_48 (by decide)
        generalize H1 = H at hI hS ⊢
        refine W.widen (k := 0) (n := 0) (Nat.le_of_ble_eq_true rfl) (Nat.le_of_ble_eq_true rfl) ?_
        refine lv_iconst (v := 0) hx hb dX12_task_61 (by decide) ?_
        refine lv_istore (lv' := [(4, .int 0), (3, .int (nI m_44)), (0, .ref h0), (1, .int p1), (2, .int p2)]) hx hb dX12_task_62 hl (by decide) rfl (fun ls hl => ?_)
        have K_64 : ∀ (nn : Nat) (y_59 : Nat) (q_61 : Nat → Int64) (f_60 : Nat → va_E) (H : Heap) (locs : List Loc) (ls : Array Slot), 43 - y_59 < nn → Iv dC dI g A f_60 H → va_S A s.heap H locs → f_60 (gr g h0 4) = .inl (gc g 1, 906, .inr (.inl q_61)) → RowOK q_61 → f_60 (gr g h0 7) = .inl (gc g 1, 1812, .inr (.inl im)) → f_60 (gr g h0 8) = .inl (gc g 3, 2, .inl kt) → f_60 h0 = .inr (12, [.int (0 : Int32), .int z1, .ref (gr g h0 2), .ref (gr g h0 3), .ref (gr g h0 4), .ref (gr g h0 5), .ref (gr g h0 6), .ref (gr g h0 7), .ref (gr g h0 8), .ref (gr g h0 9), .int w10_49, .ref (gr g h0 11), .int z12, .int z13, .int z14, .int z15, .long z16, .int z17, .int z18, .ref (gr g h0 19), .ref (gr g h0 20), .ref (gr g h0 21), .ref (gr g h0 22), .int z23, .long z24, .long z25, .long z26]) → f_60 (gr g h0 5) = .inl (gc g 1, 9060, .inr (.inl u1_50)) → Kp g [12, 30, 32, 33, 37] f f_60 → (y_59 ≤ 43) → (∀ j : Nat, j < y_59 → q_61 (6 + 43 * m_44 + j) = 0) → ((q_61 0).toInt = (q 0).toInt) → ((q_61 1).toInt = (q 1).toInt) → lv_has ls 5 [(4, .int (nI y_59)), (3, .int (nI m_44)), (0, .ref h0), (1, .int p1), (2, .int p2)] → W p l e (headSpec wq_c_X12_task ({ frames := 1, cells := 0, slots := 0, locals := 25 } : Room)).room s m ([.ref h0, .int p1, .int p2].toArray) below meth c H locs 0 0 (MQ below (va_Qi (fun (r : Int32) (_ : Unit) => True) (fun (_ : Unit) t => ∃ f1 : Nat → va_E, Iv dC dI g A f1 t.heap ∧ Kp g [12, 30, 32, 33, 37] f f1 ∧ ∃ (w0 : Int32) (w1 : Int32) (w10 : Int32) (w12 : Int32) (w13 : Int32) (w14 : Int32) (w15 : Int32) (w16 : Int64) (w17 : Int32) (w18 : Int32) (w23 : Int32) (w24 : Int64) (w25 : Int64) (w26 : Int64) (q1 : Nat → Int64) (u1 : Nat → Int64) (im1 : Nat → Int64) (ik1 : Nat → Int32), (f1 h0 = .inr (12, [.int w0, .int w1, .ref (gr g h0 2), .ref (gr g h0 3), .ref (gr g h0 4), .ref (gr g h0 5), .ref (gr g h0 6), .ref (gr g h0 7), .ref (gr g h0 8), .ref (gr g h0 9), .int w10, .ref (gr g h0 11), .int w12, .int w13, .int w14, .int w15, .long w16, .int w17, .int w18, .ref (gr g h0 19), .ref (gr g h0 20), .ref (gr g h0 21), .ref (gr g h0 22), .int w23, .long w24, .long w25, .long w26])) ∧ (0 ≤ w10.toInt ∧ w10.toInt ≤ 10) ∧ (0 ≤ w12.toInt ∧ w12.toInt ≤ 200) ∧ (0 ≤ w23.toInt ∧ w23.toInt ≤ 8) ∧ (f1 (gr g h0 4) = .inl (gc g 1, 906, .inr (.inl q1))) ∧ (RowOK q1) ∧ (f1 (gr g h0 5) = .inl (gc g 1, 9060, .inr (.inl u1))) ∧ (f1 (gr g h0 7) = .inl (gc g 1, 1812, .inr (.inl im1))) ∧ (f1 (gr g h0 8) = .inl (gc g 3, 2, .inl ik1)) ∧ (UIq w10 u1 im1 ik1)) A) ([.ref h0, .int p1, .int p2].toArray) s 0 0 A) (F0 m 64 ls []) := by
          intro nn
          induction nn with
          | zero => intro y_59 q_61 f_60 H locs ls m_73; exact absurd m_73 (Nat.not_lt_zero _)
          | succ nn ih =>
            intro y_59 q_61 f_60 H locs ls m_73 hI hS k_62 ok_63 k_64 k_65 k_66 k_67 kp_68 t_71 t_72 t_69 t_70 hl
            have d_74 := rk_hd ok_63
            refine lv_iload hx hb dX12_task_64 (lv_at hl 0 rfl) ?_
            refine lv_bipush (v := 43) hx hb dX12_task_66 (by decide) ?_
            refine lv_icmp_ge (tgt := 90) hx hb dX12_task_68 (by decide) (fun c_75 => ?_) (fun c_75 => ?_)
            · have c_75 := kc_le (by decide : Int32.toInt 43 = 43) (nI_toInt (n := y_59) (by omega)) c_75
              refine lv_aload_n hx hb dX12_task_90 rfl (lv_at hl 2 rfl) ?_
              refine k_get (ci := 12) (v := .ref (gr g h0 4)) (C := RX12) (T := TX12) (N := 27) hx hb hts (fun _ h0_ => List.mem_cons_of_mem _ (List.mem_append_right _ (List.mem_append_left _ h0_))) hown hK hI i_h0.1 k_66 rfl 4 (by decide) (hts (.fieldLink RX12 16 "DeadlineShareModel" "row" "[J") (List.mem_cons_of_mem _ (List.mem_append_left _ (List.mem_of_getElem? (i := 9) rfl)))) (fun _ h9 => h9) rfl dX12_task_91 ?_
              refine lv_iload_n hx hb dX12_task_94 rfl (lv_at hl 1 rfl) ?_
              refine va_calli (va_runS (As := [.int (nI m_44)]) (rest := [.ref (gr g h0 4)]) ⟨hx, hb, hml, hown, hts⟩ (c_X12_at l dC dI g A hG f_60 m_44) (va_cwS 1 hts (gi_S (fun w_ h0_ => ⟨List.mem_cons_of_mem _ (List.mem_append_right _ (List.mem_append_right _ (List.mem_append_right _ (List.mem_append_right _ (List.mem_append_right _ (List.mem_append_left _ h0_)))))), (tb_c_X12_at w_ h0_).2⟩) (List.mem_cons_of_mem _ (List.mem_append_left _ (List.mem_of_getElem? (i := 13) rfl))) (List.mem_cons_of_mem _ (List.mem_append_left _ (List.mem_of_getElem? (i := 14) rfl))) (List.mem_cons_of_mem _ (List.mem_append_left _ (List.mem_of_getElem? (i := 4) rfl)))) rfl rfl rfl (by decide +kernel) ⟨Nat.le_of_ble_eq_true rfl, Nat.le_of_ble_eq_true rfl⟩) ⟨fun a U g mk q => ⟨q.1, q.2.calling rfl rfl⟩, fun U hU hW => ⟨rfl, kIn.of hI hK hE hS hU hW⟩⟩ rfl rfl hl.1 rfl (lv_room (Nat.le_of_ble_eq_true rfl)) dX12_task_95 ⟨Nat.le_of_ble_eq_true rfl, Nat.le_of_ble_eq_true rfl⟩) hS (fun q _ h => h) (fun q h => h) (fun r_79 u9 t H1 locs ht hvm w_78 hB hz1 hk1 hS => ?_)
              have hI : Iv dC dI g A f_60 t.heap := hB
              rw [ht] at hI
              generalize H1 = H at hI hS ⊢
              refine W.widen (k := 0) (n := 0) (Nat.le_of_ble_eq_true rfl) (Nat.le_of_ble_eq_true rfl) ?_
              have w_78 : r_79 = nI (6 + 43 * m_44) := w_78
              refine k_topi (y := nI (6 + 43 * m_44)) w_78 ?_
              refine lv_iconst (v := 0) hx hb dX12_task_98 (by decide) ?_
              refine lv_iadd hx hb dX12_task_99 ?_
              refine k_topi (y := nI (6 + 43 * m_44)) ((nI_add (6 + 43 * m_44) 0).trans (congrArg nI (by omega))) ?_
              refine lv_iload_n hx hb dX12_task_100 rfl (lv_at hl 3 rfl) ?_
              refine lv_i2l (v := p1.toInt64) hx hb dX12_task_101 rfl ?_
              have t_80 := Int32.toInt_toInt64 p1
              have g_81 := Int32.toInt_lt p1
              have g_82 := Int32.le_toInt p1
              refine k_last hx hb hK hI hS i_1.1 1 k_62 rfl (vp_in_nI (by omega) (by omega)) (cl_32 i_1) dX12_task_102 (fun f_83 H locs e_84 hI hS => ?_)
              generalize eq_85 : vp_updL q_61 (Int32.toNatClampNeg (nI (6 + 43 * m_44))) p1.toInt64 = q_85 at e_84
              have k_87 : f_83 (gr g h0 4) = .inl (gc g 1, 906, .inr (.inl q_85)) := by rw [e_84]; exact va_up_self _ _ _
              have k_88 : f_83 (gr g h0 7) = .inl (gc g 1, 1812, .inr (.inl im)) := by rw [e_84, va_up_ne _ _ (ik_ne i_4 i_1 (by decide))]; exact k_64
              have k_89 : f_83 (gr g h0 8) = .inl (gc g 3, 2, .inl kt) := by rw [e_84, va_up_ne _ _ (ik_ne i_5 i_1 (by decide))]; exact k_65
              have k_90 : f_83 h0 = .inr (12, [.int (0 : Int32), .int z1, .ref (gr g h0 2), .ref (gr g h0 3), .ref (gr g h0 4), .ref (gr g h0 5), .ref (gr g h0 6), .ref (gr g h0 7), .ref (gr g h0 8), .ref (gr g h0 9), .int w10_49, .ref (gr g h0 11), .int z12, .int z13, .int z14, .int z15, .long z16, .int z17, .int z18, .ref (gr g h0 19), .ref (gr g h0 20), .ref (gr g h0 21), .ref (gr g h0 22), .int z23, .long z24, .long z25, .long z26]) := by rw [e_84, va_up_ne _ _ (ik_ne i_h0 i_1 (by decide))]; exact k_66
              have k_91 : f_83 (gr g h0 5) = .inl (gc g 1, 9060, .inr (.inl u1_50)) := by rw [e_84, va_up_ne _ _ (ik_ne i_3 i_1 (by decide))]; exact k_67
              have kp_86 := Kp.put kp_68 i_1 (by decide) e_84
              have u_92 : vp_updL q_61 (6 + 43 * m_44) p1.toInt64 = q_85 := by rw [← eq_85, show Int32.toNatClampNeg (nI (6 + 43 * m_44)) = 6 + 43 * m_44 from (nI_clamp (by omega))]
              have ok_93 : RowOK q_85 := by rw [← u_92]; exact rk_upd ok_63 (by refine ⟨⟨by omega, by omega, by omega, by omega, by omega⟩, fun t9 ht9 => ⟨by omega, by omega, by omega, by omega, by omega, by omega⟩, fun t9 k9 ht9 hk9 => ⟨by omega, by omega, by omega⟩, by omega⟩)
              have d_94 := rk_hd ok_93
              have n_95 : (q_85 0).toInt = (q_61 0).toInt := by rw [← u_92, pk_uLn (by omega)]
              have n_96 : (q_85 1).toInt = (q_61 1).toInt := by rw [← u_92, pk_uLn (by omega)]
              have n_97 : (q_85 3).toInt = (q_61 3).toInt := by rw [← u_92, pk_uLn (by omega)]
              have n_98 : (q_85 4).toInt = (q_61 4).toInt := by rw [← u_92, pk_uLn (by omega)]
              have n_99 : (q_85 5).toInt = (q_61 5).toInt := by rw [← u_92, pk_uLn (by omega)]
              refine lv_aload_n hx hb dX12_task_103 rfl (lv_at hl 2 rfl) ?_
              refine k_get (ci := 12) (v := .ref (gr g h0 4)) (C := RX12) (T := TX12) (N := 27) hx hb hts (fun _ h0_ => List.mem_cons_of_mem _ (List.mem_append_right _ (List.mem_append_left _ h0_))) hown hK hI i_h0.1 k_90 rfl 4 (by decide) (hts (.fieldLink RX12 16 "DeadlineShareModel" "row" "[J") (List.mem_cons_of_mem _ (List.mem_append_left _ (List.mem_of_getElem? (i := 9) rfl)))) (fun _ h9 => h9) rfl dX12_task_104 ?_
              refine lv_iload_n hx hb dX12_task_107 rfl (lv_at hl 1 rfl) ?_
              refine va_calli (va_runS (As := [.int (nI m_44)]) (rest := [.ref (gr g h0 4)]) ⟨hx, hb, hml, hown, hts⟩ (c_X12_at l dC dI g A hG f_83 m_44) (va_cwS 1 hts (gi_S (fun w_ h0_ => ⟨List.mem_cons_of_mem _ (List.mem_append_right _ (List.mem_append_right _ (List.mem_append_right _ (List.mem_append_right _ (List.mem_append_right _ (List.mem_append_left _ h0_)))))), (tb_c_X12_at w_ h0_).2⟩) (List.mem_cons_of_mem _ (List.mem_append_left _ (List.mem_of_getElem? (i := 13) rfl))) (List.mem_cons_of_mem _ (List.mem_append_left _ (List.mem_of_getElem? (i := 14) rfl))) (List.mem_cons_of_mem _ (List.mem_append_left _ (List.mem_of_getElem? (i := 4) rfl)))) rfl rfl rfl (by decide +kernel) ⟨Nat.le_of_ble_eq_true rfl, Nat.le_of_ble_eq_true rfl⟩) ⟨fun a U g mk q => ⟨q.1, q.2.calling rfl rfl⟩, fun U hU hW => ⟨rfl, kIn.of hI hK hE hS hU hW⟩⟩ rfl rfl hl.1 rfl (lv_room (Nat.le_of_ble_eq_true rfl)) dX12_task_108 ⟨Nat.le_of_ble_eq_true rfl, Nat.le_of_ble_eq_true rfl⟩) hS (fun q _ h => h) (fun q h => h) (fun r_103 u9 t H1 locs ht hvm w_102 hB hz1 hk1 hS => ?_)
              have hI : Iv dC dI g A f_83 t.heap := hB
              rw [ht] at hI
              generalize H1 = H at hI hS ⊢
              refine W.widen (k := 0) (n := 0) (Nat.le_of_ble_eq_true rfl) (Nat.le_of_ble_eq_true rfl) ?_
              have w_102 : r_103 = nI (6 + 43 * m_44) := w_102
              refine k_topi (y := nI (6 + 43 * m_44)) w_102 ?_
              refine lv_iconst (v := 1) hx hb dX12_task_111 (by decide) ?_
              refine lv_iadd hx hb dX12_task_112 ?_
              refine k_topi (y := nI (6 + 43 * m_44 + 1)) ((nI_add (6 + 43 * m_44) 1).trans (congrArg nI (by omega))) ?_
              refine lv_iload_n hx hb dX12_task_113 rfl (lv_at hl 4 rfl) ?_
              refine lv_i2l (v := p2.toInt64) hx hb dX12_task_114 rfl ?_
              have t_104 := Int32.toInt_toInt64 p2
              have g_105 := Int32.toInt_lt p2
              have g_106 := Int32.le_toInt p2
              refine k_last hx hb hK hI hS i_1.1 1 k_87 rfl (vp_in_nI (by omega) (by omega)) (cl_32 i_1) dX12_task_115 (fun f_107 H locs e_108 hI hS => ?_)
              generalize eq_109 : vp_updL q_85 (Int32.toNatClampNeg (nI (6 + 43 * m_44 + 1))) p2.toInt64 = q_109 at e_108
              have k_111 : f_107 (gr g h0 4) = .inl (gc g 1, 906, .inr (.inl q_109)) := by rw [e_108]; exact va_up_self _ _ _
              have k_112 : f_107 (gr g h0 7) = .inl (gc g 1, 1812, .inr (.inl im)) := by rw [e_108, va_up_ne _ _ (ik_ne i_4 i_1 (by decide))]; exact k_88
              have k_113 : f_107 (gr g h0 8) = .inl (gc g 3, 2, .inl kt) := by rw [e_108, va_up_ne _ _ (ik_ne i_5 i_1 (by decide))]; exact k_89
              have k_114 : f_107 h0 = .inr (12, [.int (0 : Int32), .int z1, .ref (gr g h0 2), .ref (gr g h0 3), .ref (gr g h0 4), .ref (gr g h0 5), .ref (gr g h0 6), .ref (gr g h0 7), .ref (gr g h0 8), .ref (gr g h0 9), .int w10_49, .ref (gr g h0 11), .int z12, .int z13, .int z14, .int z15, .long z16, .int z17, .int z18, .ref (gr g h0 19), .ref (gr g h0 20), .ref (gr g h0 21), .ref (gr g h0 22), .int z23, .long z24, .long z25, .long z26]) := by rw [e_108, va_up_ne _ _ (ik_ne i_h0 i_1 (by decide))]; exact k_90
              have k_115 : f_107 (gr g h0 5) = .inl (gc g 1, 9060, .inr (.inl u1_50)) := by rw [e_108, va_up_ne _ _ (ik_ne i_3 i_1 (by decide))]; exact k_91
              have kp_110 := Kp.put kp_86 i_1 (by decide) e_108
              have u_116 : vp_updL q_85 (6 + 43 * m_44 + 1) p2.toInt64 = q_109 := by rw [← eq_109, show Int32.toNatClampNeg (nI (6 + 43 * m_44 + 1)) = 6 + 43 * m_44 + 1 from (nI_clamp (by omega))]
              have ok_117 : RowOK q_109 := by rw [← u_116]; exact rk_upd ok_93 (by refine ⟨⟨by omega, by omega, by omega, by omega, by omega⟩, fun t9 ht9 => ⟨by omega, by omega, by omega, by omega, by omega, by omega⟩, fun t9 k9 ht9 hk9 => ⟨by omega, by omega, by omega⟩, by omega⟩)
              have d_118 := rk_hd ok_117
              have n_119 : (q_109 0).toInt = (q_85 0).toInt := by rw [← u_116, pk_uLn (by omega)]
              have n_120 : (q_109 1).toInt = (q_85 1).toInt := by rw [← u_116, pk_uLn (by omega)]
              have n_121 : (q_109 3).toInt = (q_85 3).toInt := by rw [← u_116, pk_uLn (by omega)]
              have n_122 : (q_109 4).toInt = (q_85 4).toInt := by rw [← u_116, pk_uLn (by omega)]
              have n_123 : (q_109 5).toInt = (q_85 5).toInt := by rw [← u_116, pk_uLn (by omega)]
              refine lv_aload_n hx hb dX12_task_116 rfl (lv_at hl 2 rfl) ?_
              refine k_get (ci := 12) (v := .ref (gr g h0 4)) (C := RX12) (T := TX12) (N := 27) hx hb hts (fun _ h0_ => List.mem_cons_of_mem _ (List.mem_append_right _ (List.mem_append_left _ h0_))) hown hK hI i_h0.1 k_114 rfl 4 (by decide) (hts (.fieldLink RX12 16 "DeadlineShareModel" "row" "[J") (List.mem_cons_of_mem _ (List.mem_append_left _ (List.mem_of_getElem? (i := 9) rfl)))) (fun _ h9 => h9) rfl dX12_task_117 ?_
              refine lv_iconst (v := 0) hx hb dX12_task_120 (by decide) ?_
              refine lv_dup2_11 hx hb dX12_task_121 rfl rfl ?_
              refine k_lald hx hb hK hI i_1.1 1 k_111 rfl (by unfold vp_in; decide) dX12_task_122 ?_
              refine k_topl (y := q_109 0) (congrArg q_109 (show Int32.toNatClampNeg 0 = 0 by decide)) ?_
              refine lv_lconst (v := 1) hx hb dX12_task_123 (by decide) ?_
              refine lv_ladd hx hb dX12_task_124 ?_
              refine lv_topl (fun v_126 ev_126 => ?_)
              have tv_126 := l_ad (q_109 0) 1
              rw [← ev_126, show Int64.toInt 1 = 1 from by decide] at tv_126
              refine k_last hx hb hK hI hS i_1.1 1 k_111 rfl (by unfold vp_in; decide) (cl_32 i_1) dX12_task_125 (fun f_127 H locs e_128 hI hS => ?_)
              generalize eq_129 : vp_updL q_109 (Int32.toNatClampNeg 0) v_126 = q_129 at e_128
              have k_131 : f_127 (gr g h0 4) = .inl (gc g 1, 906, .inr (.inl q_129)) := by rw [e_128]; exact va_up_self _ _ _
              have k_132 : f_127 (gr g h0 7) = .inl (gc g 1, 1812, .inr (.inl im)) := by rw [e_128, va_up_ne _ _ (ik_ne i_4 i_1 (by decide))]; exact k_112
              have k_133 : f_127 (gr g h0 8) = .inl (gc g 3, 2, .inl kt) := by rw [e_128, va_up_ne _ _ (ik_ne i_5 i_1 (by decide))]; exact k_113
              have k_134 : f_127 h0 = .inr (12, [.int (0 : Int32), .int z1, .ref (gr g h0 2), .ref (gr g h0 3), .ref (gr g h0 4), .ref (gr g h0 5), .ref (gr g h0 6), .ref (gr g h0 7), .ref (gr g h0 8), .ref (gr g h0 9), .int w10_49, .ref (gr g h0 11), .int z12, .int z13, .int z14, .int z15, .long z16, .int z17, .int z18, .ref (gr g h0 19), .ref (gr g h0 20), .ref (gr g h0 21), .ref (gr g h0 22), .int z23, .long z24, .long z25, .long z26]) := by rw [e_128, va_up_ne _ _ (ik_ne i_h0 i_1 (by decide))]; exact k_114
              have k_135 : f_127 (gr g h0 5) = .inl (gc g 1, 9060, .inr (.inl u1_50)) := by rw [e_128, va_up_ne _ _ (ik_ne i_3 i_1 (by decide))]; exact k_115
              have kp_130 := Kp.put kp_110 i_1 (by decide) e_128
              have u_136 : vp_updL q_109 0 v_126 = q_129 := by rw [← eq_129, show Int32.toNatClampNeg 0 = 0 from (show Int32.toNatClampNeg 0 = 0 by decide)]
              have d_137 : (q_109 (6 + 43 * m_44)).toInt = Int64.toInt p1.toInt64 := by rw [← u_116, pk_uLn (by omega), ← u_92, pk_uLs]
              have ok_138 : RowOK q_129 := by rw [← u_136]; exact rk_n ok_117 (t := m_44) (by omega) (by omega) (by omega) (by omega)
              have d_139 := rk_hd ok_138
              have n_140 : (q_129 0).toInt = Int64.toInt v_126 := by rw [← u_136, pk_uLs]
              have n_141 : (q_129 1).toInt = (q_109 1).toInt := by rw [← u_136, pk_uLn (by omega)]
              have n_142 : (q_129 3).toInt = (q_109 3).toInt := by rw [← u_136, pk_uLn (by omega)]
              have n_143 : (q_129 4).toInt = (q_109 4).toInt := by rw [← u_136, pk_uLn (by omega)]
              have n_144 : (q_129 5).toInt = (q_109 5).toInt := by rw [← u_136, pk_uLn (by omega)]
              refine lv_aload_n hx hb dX12_task_126 rfl (lv_at hl 2 rfl) ?_
              refine lv_iload_n hx hb dX12_task_127 rfl (lv_at hl 1 rfl) ?_
              refine va_calli (va_runV (As := [.int (nI m_44)]) (rest := []) ⟨hx, hb, hml, hown, hts⟩ (c_X12_tell l dC dI g A hG f_127 h0 (nI m_44) (0 : Int32) z1 w10_49 z12 z13 z14 z15 z16 z17 z18 z23 z24 z25 z26 i_h0 k_134 (by first | omega | (simp only [k_c0]; omega)) (by first | omega | (simp only [k_c0]; omega)) (by first | omega | (simp only [k_c0]; omega))) (cwV 1 hts (gi_V (fun w_ h0_ => ⟨List.mem_cons_of_mem _ (List.mem_append_right _ (List.mem_append_right _ (List.mem_append_right _ (List.mem_append_right _ (List.mem_append_right _ (List.mem_append_right _ (List.mem_append_left _ h0_))))))), (tb_c_X12_tell w_ h0_).2⟩) (List.mem_cons_of_mem _ (List.mem_append_left _ (List.mem_of_getElem? (i := 15) rfl))) (List.mem_cons_of_mem _ (List.mem_append_left _ (List.mem_of_getElem? (i := 16) rfl))) (List.mem_cons_of_mem _ (List.mem_append_left _ (List.mem_of_getElem? (i := 17) rfl))) (List.mem_cons_of_mem _ (List.mem_append_left _ (List.mem_of_getElem? (i := 4) rfl)))) rfl rfl rfl (by decide +kernel) ⟨Nat.le_of_ble_eq_true rfl, Nat.le_of_ble_eq_true rfl⟩) ⟨fun a U g mk q => ⟨q.1, q.2.calling rfl rfl⟩, k_recv hK hI i_h0.1 k_134 (ci := 12) rfl, fun U hU hW => ⟨rfl, kIn.of hI hK hE hS hU hW⟩⟩ rfl rfl hl.1 rfl (lv_room (Nat.le_of_ble_eq_true rfl)) dX12_task_128 ⟨Nat.le_of_ble_eq_true rfl, Nat.le_of_ble_eq_true rfl⟩) hS (fun q _ h => h) (fun q h => h) (fun r_147 u9 t H1 locs ht hvm w_146 hB hz1 hk1 hS => ?_)
              obtain ⟨f_145, hI, kc_148, k_149⟩ := hB
              rw [ht] at hI
              have k_150 : f_145 (gr g h0 4) = .inl (gc g 1, 906, .inr (.inl q_129)) := Kp.at kc_148 i_1 (by decide) k_131
              have k_151 : f_145 (gr g h0 7) = .inl (gc g 1, 1812, .inr (.inl im)) := Kp.at kc_148 i_4 (by decide) k_132
              have k_152 : f_145 (gr g h0 8) = .inl (gc g 3, 2, .inl kt) := Kp.at kc_148 i_5 (by decide) k_133
              have k_153 : f_145 (gr g h0 5) = .inl (gc g 1, 9060, .inr (.inl u1_50)) := Kp.at kc_148 i_3 (by decide) k_135
              have k_149 : f_145 h0 = .inr (12, [.int (0 : Int32), .int 0, .ref (gr g h0 2), .ref (gr g h0 3), .ref (gr g h0 4), .ref (gr g h0 5), .ref (gr g h0 6), .ref (gr g h0 7), .ref (gr g h0 8), .ref (gr g h0 9), .int w10_49, .ref (gr g h0 11), .int z12, .int z13, .int z14, .int z15, .long z16, .int z17, .int z18, .ref (gr g h0 19), .ref (gr g h0 20), .ref (gr g h0 21), .ref (gr g h0 22), .int z23, .long z24, .long z25, .long z26]) := k_149
              have kp_154 := Kp.call kp_130 kc_148 (by decide)
              generalize H1 = H at hI hS ⊢
              refine W.widen (k := 0) (n := 0) (Nat.le_of_ble_eq_true rfl) (Nat.le_of_ble_eq_true rfl) ?_
              have w_146 : r_147.toInt = (nI m_44).toInt := w_146
              exact W.iret (v := r_147) hx hb hr (fun t ht hW => ⟨⟨r_147, (), rfl, trivial, ⟨f_145, k_ret ht hI, kp_154, (0 : Int32), 0, w10_49, z12, z13, z14, z15, z16, z17, z18, z23, z24, z25, z26, q_129, u1_50, im, kt, k_149, (by first | omega | decide), (by first | omega | decide), (by first | omega | decide), k_150, ok_138, k_153, k_151, k_152, z_54⟩⟩, hS.F ht⟩) hS.2.2 dX12_task_131
            · have c_75 := kn_le (by decide : Int32.toInt 43 = 43) (nI_toInt (n := y_59) (by omega)) c_75
              refine lv_aload_n hx hb dX12_task_71 rfl (lv_at hl 2 rfl) ?_
              refine k_get (ci := 12) (v := .ref (gr g h0 4)) (C := RX12) (T := TX12) (N := 27) hx hb hts (fun _ h0_ => List.mem_cons_of_mem _ (List.mem_append_right _ (List.mem_append_left _ h0_))) hown hK hI i_h0.1 k_66 rfl 4 (by decide) (hts (.fieldLink RX12 16 "DeadlineShareModel" "row" "[J") (List.mem_cons_of_mem _ (List.mem_append_left _ (List.mem_of_getElem? (i := 9) rfl)))) (fun _ h9 => h9) rfl dX12_task_72 ?_
              refine lv_iload_n hx hb dX12_task_75 rfl (lv_at hl 1 rfl) ?_
              refine va_calli (va_runS (As := [.int (nI m_44)]) (rest := [.ref (gr g h0 4)]) ⟨hx, hb, hml, hown, hts⟩ (c_X12_at l dC dI g A hG f_60 m_44) (va_cwS 1 hts (gi_S (fun w_ h0_ => ⟨List.mem_cons_of_mem _ (List.mem_append_right _ (List.mem_append_right _ (List.mem_append_right _ (List.mem_append_right _ (List.mem_append_right _ (List.mem_append_left _ h0_)))))), (tb_c_X12_at w_ h0_).2⟩) (List.mem_cons_of_mem _ (List.mem_append_left _ (List.mem_of_getElem? (i := 13) rfl))) (List.mem_cons_of_mem _ (List.mem_append_left _ (List.mem_of_getElem? (i := 14) rfl))) (List.mem_cons_of_mem _ (List.mem_append_left _ (List.mem_of_getElem? (i := 4) rfl)))) rfl rfl rfl (by decide +kernel) ⟨Nat.le_of_ble_eq_true rfl, Nat.le_of_ble_eq_true rfl⟩) ⟨fun a U g mk q => ⟨q.1, q.2.calling rfl rfl⟩, fun U hU hW => ⟨rfl, kIn.of hI hK hE hS hU hW⟩⟩ rfl rfl hl.1 rfl (lv_room (Nat.le_of_ble_eq_true rfl)) dX12_task_76 ⟨Nat.le_of_ble_eq_true rfl, Nat.le_of_ble_eq_true rfl⟩) hS (fun q _ h => h) (fun q h => h) (fun r_158 u9 t H1 locs ht hvm w_157 hB hz1 hk1 hS => ?_)
              have hI : Iv dC dI g A f_60 t.heap := hB
              rw [ht] at hI
              generalize H1 = H at hI hS ⊢
              refine W.widen (k := 0) (n := 0) (Nat.le_of_ble_eq_true rfl) (Nat.le_of_ble_eq_true rfl) ?_
              have w_157 : r_158 = nI (6 + 43 * m_44) := w_157
              refine k_topi (y := nI (6 + 43 * m_44)) w_157 ?_
              refine lv_iload hx hb dX12_task_79 (lv_at hl 0 rfl) ?_
              refine lv_iadd hx hb dX12_task_81 ?_
              refine k_topi (y := nI (6 + 43 * m_44 + y_59)) ((nI_add (6 + 43 * m_44) y_59).trans (congrArg nI (by omega))) ?_
              refine lv_lconst (v := 0) hx hb dX12_task_82 (by decide) ?_
              refine k_last hx hb hK hI hS i_1.1 1 k_62 rfl (vp_in_nI (by omega) (by omega)) (cl_32 i_1) dX12_task_83 (fun f_159 H locs e_160 hI hS => ?_)
              generalize eq_161 : vp_updL q_61 (Int32.toNatClampNeg (nI (6 + 43 * m_44 + y_59))) 0 = q_161 at e_160
              have k_163 : f_159 (gr g h0 4) = .inl (gc g 1, 906, .inr (.inl q_161)) := by rw [e_160]; exact va_up_self _ _ _
              have k_164 : f_159 (gr g h0 7) = .inl (gc g 1, 1812, .inr (.inl im)) := by rw [e_160, va_up_ne _ _ (ik_ne i_4 i_1 (by decide))]; exact k_64
              have k_165 : f_159 (gr g h0 8) = .inl (gc g 3, 2, .inl kt) := by rw [e_160, va_up_ne _ _ (ik_ne i_5 i_1 (by decide))]; exact k_65
              have k_166 : f_159 h0 = .inr (12, [.int (0 : Int32), .int z1, .ref (gr g h0 2), .ref (gr g h0 3), .ref (gr g h0 4), .ref (gr g h0 5), .ref (gr g h0 6), .ref (gr g h0 7), .ref (gr g h0 8), .ref (gr g h0 9), .int w10_49, .ref (gr g h0 11), .int z12, .int z13, .int z14, .int z15, .long z16, .int z17, .int z18, .ref (gr g h0 19), .ref (gr g h0 20), .ref (gr g h0 21), .ref (gr g h0 22), .int z23, .long z24, .long z25, .long z26]) := by rw [e_160, va_up_ne _ _ (ik_ne i_h0 i_1 (by decide))]; exact k_66
              have k_167 : f_159 (gr g h0 5) = .inl (gc g 1, 9060, .inr (.inl u1_50)) := by rw [e_160, va_up_ne _ _ (ik_ne i_3 i_1 (by decide))]; exact k_67
              have kp_162 := Kp.put kp_68 i_1 (by decide) e_160
              have u_168 : vp_updL q_61 (6 + 43 * m_44 + y_59) 0 = q_161 := by rw [← eq_161, show Int32.toNatClampNeg (nI (6 + 43 * m_44 + y_59)) = 6 + 43 * m_44 + y_59 from (nI_clamp (by omega))]
              have ok_169 : RowOK q_161 := by rw [← u_168]; exact rk_zero ok_63 (t := m_44) (j := y_59) (by omega) (by omega) (by omega) t_72
              have d_170 := rk_hd ok_169
              have n_171 : (q_161 0).toInt = (q_61 0).toInt := by rw [← u_168, pk_uLn (by omega)]
              have n_172 : (q_161 1).toInt = (q_61 1).toInt := by rw [← u_168, pk_uLn (by omega)]
              have n_173 : (q_161 3).toInt = (q_61 3).toInt := by rw [← u_168, pk_uLn (by omega)]
              have n_174 : (q_161 4).toInt = (q_61 4).toInt := by rw [← u_168, pk_uLn (by omega)]
              have n_175 : (q_161 5).toInt = (q_61 5).toInt := by rw [← u_168, pk_uLn (by omega)]
              refine lv_iinc (v := nI (y_59 + 1)) (lv' := [(4, .int (nI (y_59 + 1))), (3, .int (nI m_44)), (0, .ref h0), (1, .int p1), (2, .int p2)]) hx hb dX12_task_84 hl (k := 0) rfl (nI_1 _) (by decide) rfl (fun ls hl => ?_)
              refine lv_goto (tgt := 64) hx hb dX12_task_87 (by decide) ?_
              exact ih (y_59 + 1) q_161 f_159 _ _ _ (by omega) hI hS k_163 ok_169 k_164 k_165 k_166 k_167 kp_162 (by first | omega | decide | exact Or.inl (by decide)) (fun j9 h9 => by rw [← u_168]; exact if h8 : j9 = y_59 then (by subst h8; exact pk_uLs) else (by rw [pk_uLn (by omega)]; exact t_72 j9 (by omega))) (by first | omega | decide | exact Or.inl (by decide)) (by first | omega | decide | exact Or.inl (by decide)) (lv_sub hl [0, 1, 2, 3, 4] rfl)
        exact K_64 _ 0 q f_46 _ _ _ (Nat.lt_succ_self _) hI hS k_55 hc1_ok k_56 k_57 k_51 k_53 kp_58 (by first | omega | decide | exact Or.inl (by decide)) (fun j9 h9 => absurd h9 (Nat.not_lt_zero j9)) (by first | omega | decide | exact Or.inl (by decide)) (by first | omega | decide | exact Or.inl (by decide)) (lv_sub hl [0, 1, 2, 3, 4] rfl)
      · have c_45 := kc_eq (nI_toInt (n := m_44) (by omega)) (by decide : Int32.toInt 12 = 12) c_45
        refine lv_aload_n hx hb dX12_task_49 rfl (lv_at hl 1 rfl) ?_
        refine lv_bipush (v := (-5)) hx hb dX12_task_50 (by decide) ?_
        refine va_calli (va_runV (As := [.int (-5)]) (rest := []) ⟨hx, hb, hml, hown, hts⟩ (c_X12_refuse l dC dI g A hG f_6 h0 (-5) 0 z1 z10 z12 z13 z14 z15 z16 z17 z18 z23 z24 z25 z26 i_h0 k_9 (by first | omega | (simp only [k_c0]; omega)) (by first | omega | (simp only [k_c0]; omega)) (by first | omega | (simp only [k_c0]; omega)) (by first | omega | decide | (simp only [show Int32.toInt (-5) = (-5) from by decide] <;> omega))) (cwV 1 hts (gi_V (fun w_ h0_ => ⟨List.mem_cons_of_mem _ (List.mem_append_right _ (List.mem_append_right _ (List.mem_append_right _ (List.mem_append_left _ h0_)))), (tb_c_X12_refuse w_ h0_).2⟩) (List.mem_cons_of_mem _ (List.mem_append_left _ (List.mem_of_getElem? (i := 5) rfl))) (List.mem_cons_of_mem _ (List.mem_append_left _ (List.mem_of_getElem? (i := 6) rfl))) (List.mem_cons_of_mem _ (List.mem_append_left _ (List.mem_of_getElem? (i := 7) rfl))) (List.mem_cons_of_mem _ (List.mem_append_left _ (List.mem_of_getElem? (i := 4) rfl)))) rfl rfl rfl (by decide +kernel) ⟨Nat.le_of_ble_eq_true rfl, Nat.le_of_ble_eq_true rfl⟩) ⟨fun a U g mk q => ⟨q.1, q.2.calling rfl rfl⟩, k_recv hK hI i_h0.1 k_9 (ci := 12) rfl, fun U hU hW => ⟨rfl, kIn.of hI hK hE hS hU hW⟩⟩ rfl rfl hl.1 rfl (lv_room (Nat.le_of_ble_eq_true rfl)) dX12_task_52 ⟨Nat.le_of_ble_eq_true rfl, Nat.le_of_ble_eq_true rfl⟩) hS (fun q _ h => h) (fun q h => h) (fun r_178 u9 t H1 locs ht hvm w_177 hB hz1 hk1 hS => ?_)
        obtain ⟨f_176, hI, kc_179, k_180⟩ := hB
        rw [ht] at hI
        have k_181 : f_176 (gr g h0 4) = .inl (gc g 1, 906, .inr (.inl q)) := Kp.at kc_179 i_1 (by decide) k_10
        have k_182 : f_176 (gr g h0 5) = .inl (gc g 1, 9060, .inr (.inl u)) := Kp.at kc_179 i_3 (by decide) k_11
        have k_183 : f_176 (gr g h0 7) = .inl (gc g 1, 1812, .inr (.inl im)) := Kp.at kc_179 i_4 (by decide) k_12
        have k_184 : f_176 (gr g h0 8) = .inl (gc g 3, 2, .inl kt) := Kp.at kc_179 i_5 (by decide) k_13
        have k_180 : f_176 h0 = .inr (12, [.int (0 : Int32), .int (-5 : Int32), .ref (gr g h0 2), .ref (gr g h0 3), .ref (gr g h0 4), .ref (gr g h0 5), .ref (gr g h0 6), .ref (gr g h0 7), .ref (gr g h0 8), .ref (gr g h0 9), .int z10, .ref (gr g h0 11), .int z12, .int z13, .int z14, .int z15, .long z16, .int z17, .int z18, .ref (gr g h0 19), .ref (gr g h0 20), .ref (gr g h0 21), .ref (gr g h0 22), .int z23, .long z24, .long z25, .long z26]) := k_180
        have kp_185 := Kp.call kp_8 kc_179 (by decide)
        generalize H1 = H at hI hS ⊢
        refine W.widen (k := 0) (n := 0) (Nat.le_of_ble_eq_true rfl) (Nat.le_of_ble_eq_true rfl) ?_
        have w_177 : r_178.toInt = (-5 : Int32).toInt := w_177
        have g_186 : Int32.toInt ((-5)) = (-5) := by decide
        exact W.iret (v := r_178) hx hb hr (fun t ht hW => ⟨⟨r_178, (), rfl, trivial, ⟨f_176, k_ret ht hI, kp_185, (0 : Int32), (-5 : Int32), z10, z12, z13, z14, z15, z16, z17, z18, z23, z24, z25, z26, q, u, im, kt, k_180, (by first | omega | decide), (by first | omega | decide), (by first | omega | decide), k_181, hc1_ok, k_182, k_183, k_184, hU⟩⟩, hS.F ht⟩) hS.2.2 dX12_task_55
    · have c_40 := kc_eq rfl (by decide : Int32.toInt 0 = 0) c_40
      exact J_29  _ _ _ hI hS  (lv_sub hl [0, 1, 2] rfl)
theorem tw_1006 : q_g (.constantLong RX12 170 (50)) := ⟨(List.mem_append_right _ (List.mem_of_getElem? (i := 1324) (by decide +kernel))), good_of_word (by decide +kernel)⟩
theorem tw_1007 : q_g (.code yX12_quota cX12_quota 6 (some .int)) := ⟨(List.mem_append_right _ (List.mem_of_getElem? (i := 1323) (by decide +kernel))), good_of_word (by decide +kernel)⟩
def ow_c_X12_quota : List Cond := [.fieldLink RX12 67 "DeadlineShareModel" "thrown" "I", .constantLong RX12 170 (50), .methodLink RX12 83 yX12_in, .static yX12_in, .initialized RX12, .methodLink RX12 76 yX12_refuse, .instanceMethod yX12_refuse, .selects RX12 yX12_refuse yX12_refuse, .methodLink RX12 142 yX12_isTask, .instanceMethod yX12_isTask, .selects RX12 yX12_isTask yX12_isTask, .methodLink RX12 139 yX12_remember, .instanceMethod yX12_remember, .selects RX12 yX12_remember yX12_remember, .methodLink RX12 87 yX12_at, .static yX12_at, .fieldLink RX12 16 "DeadlineShareModel" "row" "[J", .methodLink RX12 80 yX12_tell, .instanceMethod yX12_tell, .selects RX12 yX12_tell yX12_tell, .constantLong RX12 172 (60)]
def wq_c_X12_quota : List Cond := .code yX12_quota cX12_quota 6 (some .int) :: (ow_c_X12_quota ++ (u_ws RX12 TX12 27 ++ (wq_c_X12_in ++ (wq_c_X12_refuse ++ (wq_c_X12_isTask ++ (wq_c_X12_remember ++ (wq_c_X12_at ++ (wq_c_X12_tell ++ ([] : List Cond)))))))))
theorem tb_c_X12_quota : ∀ w ∈ wq_c_X12_quota, q_g w := by
  unfold wq_c_X12_quota ow_c_X12_quota
  exact q_cons tw_1007 (q_app (q_cons tw_927 (q_cons tw_1006 (q_cons tw_730 (q_cons tw_729 (q_cons tw_728 (q_cons tw_966 (q_cons tw_965 (q_cons tw_964 (q_cons tw_951 (q_cons tw_950 (q_cons tw_949 (q_cons tw_963 (q_cons tw_962 (q_cons tw_961 (q_cons tw_734 (q_cons tw_733 (q_cons tw_731 (q_cons tw_960 (q_cons tw_959 (q_cons tw_958 (q_cons tw_986 q_nil))))))))))))))))))))) (q_app tu_X12 (q_app tb_c_X12_in (q_app tb_c_X12_refuse (q_app tb_c_X12_isTask (q_app tb_c_X12_remember (q_app tb_c_X12_at (q_app tb_c_X12_tell q_nil))))))))
set_option maxHeartbeats 4000000 in
set_option maxRecDepth 100000 in
theorem c_X12_quota (l : Launch) (dC : Nat → ClassId) (dI : Nat → Nat → Nat) (g : kG) (A : Nat → Prop) (hG : kWf g) (f : Nat → va_E) (h0 : Nat) (p1 : Int32) (p2 : Int32) (p3 : Int32) (z0 : Int32) (z1 : Int32) (z10 : Int32) (z12 : Int32) (z13 : Int32) (z14 : Int32) (z15 : Int32) (z16 : Int64) (z17 : Int32) (z18 : Int32) (z23 : Int32) (z24 : Int64) (z25 : Int64) (z26 : Int64) (q : Nat → Int64) (u : Nat → Int64) (im : Nat → Int64) (kt : Nat → Int32) (i_h0 : ik g 12 h0) (hc0 : f h0 = .inr (12, [.int z0, .int z1, .ref (gr g h0 2), .ref (gr g h0 3), .ref (gr g h0 4), .ref (gr g h0 5), .ref (gr g h0 6), .ref (gr g h0 7), .ref (gr g h0 8), .ref (gr g h0 9), .int z10, .ref (gr g h0 11), .int z12, .int z13, .int z14, .int z15, .long z16, .int z17, .int z18, .ref (gr g h0 19), .ref (gr g h0 20), .ref (gr g h0 21), .ref (gr g h0 22), .int z23, .long z24, .long z25, .long z26])) (hc0_10 : 0 ≤ z10.toInt ∧ z10.toInt ≤ 10) (hc0_12 : 0 ≤ z12.toInt ∧ z12.toInt ≤ 200) (hc0_23 : 0 ≤ z23.toInt ∧ z23.toInt ≤ 8) (hc1 : f (gr g h0 4) = .inl (gc g 1, 906, .inr (.inl q))) (hc1_ok : RowOK q) (hc2 : f (gr g h0 5) = .inl (gc g 1, 9060, .inr (.inl u))) (hc3 : f (gr g h0 7) = .inl (gc g 1, 1812, .inr (.inl im))) (hc4 : f (gr g h0 8) = .inl (gc g 3, 2, .inl kt)) (hU : UIq z10 u im kt) : Met l yX12_quota wq_c_X12_quota ({ frames := 2, cells := 0, slots := 0, locals := 46 } : Room) (va_Pc [.ref h0, .int p1, .int p2, .int p3] (fun U => kIn dC dI g A f U)) (va_Qi (fun (r : Int32) (_ : Unit) => True) (fun (_ : Unit) t => ∃ f1 : Nat → va_E, Iv dC dI g A f1 t.heap ∧ Kp g [12, 30, 32, 33, 37] f f1 ∧ ∃ (w0 : Int32) (w1 : Int32) (w10 : Int32) (w12 : Int32) (w13 : Int32) (w14 : Int32) (w15 : Int32) (w16 : Int64) (w17 : Int32) (w18 : Int32) (w23 : Int32) (w24 : Int64) (w25 : Int64) (w26 : Int64) (q1 : Nat → Int64) (u1 : Nat → Int64) (im1 : Nat → Int64) (ik1 : Nat → Int32), (f1 h0 = .inr (12, [.int w0, .int w1, .ref (gr g h0 2), .ref (gr g h0 3), .ref (gr g h0 4), .ref (gr g h0 5), .ref (gr g h0 6), .ref (gr g h0 7), .ref (gr g h0 8), .ref (gr g h0 9), .int w10, .ref (gr g h0 11), .int w12, .int w13, .int w14, .int w15, .long w16, .int w17, .int w18, .ref (gr g h0 19), .ref (gr g h0 20), .ref (gr g h0 21), .ref (gr g h0 22), .int w23, .long w24, .long w25, .long w26])) ∧ (0 ≤ w10.toInt ∧ w10.toInt ≤ 10) ∧ (0 ≤ w12.toInt ∧ w12.toInt ≤ 200) ∧ (0 ≤ w23.toInt ∧ w23.toInt ≤ 8) ∧ (f1 (gr g h0 4) = .inl (gc g 1, 906, .inr (.inl q1))) ∧ (RowOK q1) ∧ (f1 (gr g h0 5) = .inl (gc g 1, 9060, .inr (.inl u1))) ∧ (f1 (gr g h0 7) = .inl (gc g 1, 1812, .inr (.inl im1))) ∧ (f1 (gr g h0 8) = .inl (gc g 3, 2, .inl ik1)) ∧ (UIq w10 u1 im1 ik1)) A) 0 0 A := by
  refine Met.ofW (cc := cX12_quota) (maxL := 6) (ret := (some .int)) (by decide) rfl ?_
  intro p e s m args below meth c s₁ B hml hv
  obtain ⟨rfl, hI, hK, hE⟩ := hv
  have hx := B.exec
  have hb := B.bytes
  have hr := B.returns
  have hts := atoms_spec (ws := wq_c_X12_quota) B.pre
  have hown : s.vm.findClass RX12 = some m.cls := findClass_of_methodNamed B.named
  have hlocks := B.notSynchronized
  have hS : va_S A s.heap s.heap [] := va_S.rf
  have hk0 : Kp g [12, 30, 32, 33, 37] f f := Kp.rf
  have hl := lv_entry ([.ref h0, .int p1, .int p2, .int p3]) (n := 6) (Nat.le_of_ble_eq_true rfl)
  rw [lg_entry_eq]
  generalize (lg_sl ([.ref h0, .int p1, .int p2, .int p3]) ++ List.replicate (6 - (lg_sl ([.ref h0, .int p1, .int p2, .int p3])).length) Slot.unset).toArray = ls at hl ⊢
  have hl : lv_has ls 6 [(0, .ref h0), (1, .int p1), (2, .int p2), (3, .int p3)] := hl
  have i_1 := kw_12_4 hG i_h0
  have d_2 := rk_hd hc1_ok
  have i_3 := kw_12_5 hG i_h0
  have i_4 := kw_12_7 hG i_h0
  have i_5 := kw_12_8 hG i_h0
  refine lv_aload_n hx hb dX12_quota_0 rfl (lv_at hl 0 rfl) ?_
  refine lv_iconst (v := 0) hx hb dX12_quota_1 (by decide) ?_
  refine k_put (ci := 12) (v := .int 0) (ty := .int) (C := RX12) (T := TX12) (N := 27) hx hb hts (fun _ h0_ => List.mem_cons_of_mem _ (List.mem_append_right _ (List.mem_append_left _ h0_))) tyX12 tyX12_ok nmX12 hown hK hI hS i_h0.1 hc0 rfl 0 (by decide) (hts (.fieldLink RX12 67 "DeadlineShareModel" "thrown" "I") (List.mem_cons_of_mem _ (List.mem_append_left _ (List.mem_of_getElem? (i := 0) rfl)))) (fun _ h9 => h9) rfl (by decide +kernel) rfl rfl (Nat.le_of_ble_eq_true rfl) rfl (cl_12 i_h0 (by omega) (by omega) (by omega)) dX12_quota_2 (fun f_6 H locs e_7 hI hS => ?_)
  have k_9 : f_6 h0 = .inr (12, [.int 0, .int z1, .ref (gr g h0 2), .ref (gr g h0 3), .ref (gr g h0 4), .ref (gr g h0 5), .ref (gr g h0 6), .ref (gr g h0 7), .ref (gr g h0 8), .ref (gr g h0 9), .int z10, .ref (gr g h0 11), .int z12, .int z13, .int z14, .int z15, .long z16, .int z17, .int z18, .ref (gr g h0 19), .ref (gr g h0 20), .ref (gr g h0 21), .ref (gr g h0 22), .int z23, .long z24, .long z25, .long z26]) := by rw [e_7]; exact va_up_self _ _ _
  have k_10 : f_6 (gr g h0 4) = .inl (gc g 1, 906, .inr (.inl q)) := by rw [e_7, va_up_ne _ _ (ik_ne i_1 i_h0 (by decide))]; exact hc1
  have k_11 : f_6 (gr g h0 5) = .inl (gc g 1, 9060, .inr (.inl u)) := by rw [e_7, va_up_ne _ _ (ik_ne i_3 i_h0 (by decide))]; exact hc2
  have k_12 : f_6 (gr g h0 7) = .inl (gc g 1, 1812, .inr (.inl im)) := by rw [e_7, va_up_ne _ _ (ik_ne i_4 i_h0 (by decide))]; exact hc3
  have k_13 : f_6 (gr g h0 8) = .inl (gc g 3, 2, .inl kt) := by rw [e_7, va_up_ne _ _ (ik_ne i_5 i_h0 (by decide))]; exact hc4
  have kp_8 := Kp.put hk0 i_h0 (by decide) e_7
  refine lv_iload_n hx hb dX12_quota_5 rfl (lv_at hl 2 rfl) ?_
  refine lv_i2l (v := p2.toInt64) hx hb dX12_quota_6 rfl ?_
  have t_14 := Int32.toInt_toInt64 p2
  have g_15 := Int32.toInt_lt p2
  have g_16 := Int32.le_toInt p2
  refine lv_lconst (v := 0) hx hb dX12_quota_7 (by decide) ?_
  refine lv_ldc2 hx hb hown (hts (.constantLong RX12 170 (50)) (List.mem_cons_of_mem _ (List.mem_append_left _ (List.mem_of_getElem? (i := 1) rfl)))) dX12_quota_8 ?_
  refine va_calli (va_runS (As := [.long p2.toInt64, .long 0, .long 50]) (rest := []) ⟨hx, hb, hml, hown, hts⟩ (c_X12_in l dC dI g A hG f_6 p2.toInt64 0 50) (va_cwS 3 hts (gi_S (fun w_ h0_ => ⟨List.mem_cons_of_mem _ (List.mem_append_right _ (List.mem_append_right _ (List.mem_append_left _ h0_))), (tb_c_X12_in w_ h0_).2⟩) (List.mem_cons_of_mem _ (List.mem_append_left _ (List.mem_of_getElem? (i := 2) rfl))) (List.mem_cons_of_mem _ (List.mem_append_left _ (List.mem_of_getElem? (i := 3) rfl))) (List.mem_cons_of_mem _ (List.mem_append_left _ (List.mem_of_getElem? (i := 4) rfl)))) rfl rfl rfl (by decide +kernel) ⟨Nat.le_of_ble_eq_true rfl, Nat.le_of_ble_eq_true rfl⟩) ⟨fun a U g mk q => ⟨q.1, q.2.calling rfl rfl⟩, fun U hU hW => ⟨rfl, kIn.of hI hK hE hS hU hW⟩⟩ rfl rfl hl.1 rfl (lv_room (Nat.le_of_ble_eq_true rfl)) dX12_quota_11 ⟨Nat.le_of_ble_eq_true rfl, Nat.le_of_ble_eq_true rfl⟩) hS (fun q _ h => h) (fun q h => h) (fun r_18 u9 t H1 locs ht hvm w_17 hB hz1 hk1 hS => ?_)
  have hI : Iv dC dI g A f_6 t.heap := hB
  rw [ht] at hI
  generalize H1 = H at hI hS ⊢
  refine W.widen (k := 0) (n := 0) (Nat.le_of_ble_eq_true rfl) (Nat.le_of_ble_eq_true rfl) ?_
  have w_17 : (r_18.toInt = 0 ∧ (p2.toInt64.toInt < (0 : Int64).toInt ∨ (50 : Int64).toInt < p2.toInt64.toInt)) ∨ (r_18.toInt = 1 ∧ (0 : Int64).toInt ≤ p2.toInt64.toInt ∧ p2.toInt64.toInt ≤ (50 : Int64).toInt) := w_17
  have g_19 : Int64.toInt (0) = 0 := by decide
  have g_20 : Int64.toInt (50) = 50 := by decide
  have J_36 : ∀ (H : Heap) (locs : List Loc) (ls : Array Slot), Iv dC dI g A f_6 H → va_S A s.heap H locs → lv_has ls 6 [(0, .ref h0), (1, .int p1), (2, .int p2), (3, .int p3)] → W p l e (headSpec wq_c_X12_quota ({ frames := 2, cells := 0, slots := 0, locals := 46 } : Room)).room s m ([.ref h0, .int p1, .int p2, .int p3].toArray) below meth c H locs 0 0 (MQ below (va_Qi (fun (r : Int32) (_ : Unit) => True) (fun (_ : Unit) t => ∃ f1 : Nat → va_E, Iv dC dI g A f1 t.heap ∧ Kp g [12, 30, 32, 33, 37] f f1 ∧ ∃ (w0 : Int32) (w1 : Int32) (w10 : Int32) (w12 : Int32) (w13 : Int32) (w14 : Int32) (w15 : Int32) (w16 : Int64) (w17 : Int32) (w18 : Int32) (w23 : Int32) (w24 : Int64) (w25 : Int64) (w26 : Int64) (q1 : Nat → Int64) (u1 : Nat → Int64) (im1 : Nat → Int64) (ik1 : Nat → Int32), (f1 h0 = .inr (12, [.int w0, .int w1, .ref (gr g h0 2), .ref (gr g h0 3), .ref (gr g h0 4), .ref (gr g h0 5), .ref (gr g h0 6), .ref (gr g h0 7), .ref (gr g h0 8), .ref (gr g h0 9), .int w10, .ref (gr g h0 11), .int w12, .int w13, .int w14, .int w15, .long w16, .int w17, .int w18, .ref (gr g h0 19), .ref (gr g h0 20), .ref (gr g h0 21), .ref (gr g h0 22), .int w23, .long w24, .long w25, .long w26])) ∧ (0 ≤ w10.toInt ∧ w10.toInt ≤ 10) ∧ (0 ≤ w12.toInt ∧ w12.toInt ≤ 200) ∧ (0 ≤ w23.toInt ∧ w23.toInt ≤ 8) ∧ (f1 (gr g h0 4) = .inl (gc g 1, 906, .inr (.inl q1))) ∧ (RowOK q1) ∧ (f1 (gr g h0 5) = .inl (gc g 1, 9060, .inr (.inl u1))) ∧ (f1 (gr g h0 7) = .inl (gc g 1, 1812, .inr (.inl im1))) ∧ (f1 (gr g h0 8) = .inl (gc g 3, 2, .inl ik1)) ∧ (UIq w10 u1 im1 ik1)) A) ([.ref h0, .int p1, .int p2, .int p3].toArray) s 0 0 A) (F0 m 36 ls []) := by
    intro H locs ls hI hS  hl
    refine lv_aload_n hx hb dX12_quota_36 rfl (lv_at hl 0 rfl) ?_
    refine lv_iconst (v := (-1)) hx hb dX12_quota_37 (by decide) ?_
    refine va_calli (va_runV (As := [.int (-1)]) (rest := []) ⟨hx, hb, hml, hown, hts⟩ (c_X12_refuse l dC dI g A hG f_6 h0 (-1) 0 z1 z10 z12 z13 z14 z15 z16 z17 z18 z23 z24 z25 z26 i_h0 k_9 (by first | omega | (simp only [k_c0]; omega)) (by first | omega | (simp only [k_c0]; omega)) (by first | omega | (simp only [k_c0]; omega)) (by first | omega | decide | (simp only [show Int32.toInt (-1) = (-1) from by decide] <;> omega))) (cwV 1 hts (gi_V (fun w_ h0_ => ⟨List.mem_cons_of_mem _ (List.mem_append_right _ (List.mem_append_right _ (List.mem_append_right _ (List.mem_append_left _ h0_)))), (tb_c_X12_refuse w_ h0_).2⟩) (List.mem_cons_of_mem _ (List.mem_append_left _ (List.mem_of_getElem? (i := 5) rfl))) (List.mem_cons_of_mem _ (List.mem_append_left _ (List.mem_of_getElem? (i := 6) rfl))) (List.mem_cons_of_mem _ (List.mem_append_left _ (List.mem_of_getElem? (i := 7) rfl))) (List.mem_cons_of_mem _ (List.mem_append_left _ (List.mem_of_getElem? (i := 4) rfl)))) rfl rfl rfl (by decide +kernel) ⟨Nat.le_of_ble_eq_true rfl, Nat.le_of_ble_eq_true rfl⟩) ⟨fun a U g mk q => ⟨q.1, q.2.calling rfl rfl⟩, k_recv hK hI i_h0.1 k_9 (ci := 12) rfl, fun U hU hW => ⟨rfl, kIn.of hI hK hE hS hU hW⟩⟩ rfl rfl hl.1 rfl (lv_room (Nat.le_of_ble_eq_true rfl)) dX12_quota_38 ⟨Nat.le_of_ble_eq_true rfl, Nat.le_of_ble_eq_true rfl⟩) hS (fun q _ h => h) (fun q h => h) (fun r_23 u9 t H1 locs ht hvm w_22 hB hz1 hk1 hS => ?_)
    obtain ⟨f_21, hI, kc_24, k_25⟩ := hB
    rw [ht] at hI
    have k_26 : f_21 (gr g h0 4) = .inl (gc g 1, 906, .inr (.inl q)) := Kp.at kc_24 i_1 (by decide) k_10
    have k_27 : f_21 (gr g h0 5) = .inl (gc g 1, 9060, .inr (.inl u)) := Kp.at kc_24 i_3 (by decide) k_11
    have k_28 : f_21 (gr g h0 7) = .inl (gc g 1, 1812, .inr (.inl im)) := Kp.at kc_24 i_4 (by decide) k_12
    have k_29 : f_21 (gr g h0 8) = .inl (gc g 3, 2, .inl kt) := Kp.at kc_24 i_5 (by decide) k_13
    have k_25 : f_21 h0 = .inr (12, [.int (0 : Int32), .int (-1 : Int32), .ref (gr g h0 2), .ref (gr g h0 3), .ref (gr g h0 4), .ref (gr g h0 5), .ref (gr g h0 6), .ref (gr g h0 7), .ref (gr g h0 8), .ref (gr g h0 9), .int z10, .ref (gr g h0 11), .int z12, .int z13, .int z14, .int z15, .long z16, .int z17, .int z18, .ref (gr g h0 19), .ref (gr g h0 20), .ref (gr g h0 21), .ref (gr g h0 22), .int z23, .long z24, .long z25, .long z26]) := k_25
    have kp_30 := Kp.call kp_8 kc_24 (by decide)
    generalize H1 = H at hI hS ⊢
    refine W.widen (k := 0) (n := 0) (Nat.le_of_ble_eq_true rfl) (Nat.le_of_ble_eq_true rfl) ?_
    have w_22 : r_23.toInt = (-1 : Int32).toInt := w_22
    have g_31 : Int32.toInt ((-1)) = (-1) := by decide
    exact W.iret (v := r_23) hx hb hr (fun t ht hW => ⟨⟨r_23, (), rfl, trivial, ⟨f_21, k_ret ht hI, kp_30, (0 : Int32), (-1 : Int32), z10, z12, z13, z14, z15, z16, z17, z18, z23, z24, z25, z26, q, u, im, kt, k_25, (by first | omega | decide), (by first | omega | decide), (by first | omega | decide), k_26, hc1_ok, k_27, k_28, k_29, hU⟩⟩, hS.F ht⟩) hS.2.2 dX12_quota_41
  refine lv_if_eq (tgt := 36) hx hb dX12_quota_14 (by decide) (fun c_32 => ?_) (fun c_32 => ?_)
  · have c_32 := kc_eq rfl (by decide : Int32.toInt 0 = 0) c_32
    exact J_36  _ _ _ hI hS  (lv_sub hl [0, 1, 2, 3] rfl)
  · have c_32 := kn_eq rfl (by decide : Int32.toInt 0 = 0) c_32
    refine lv_iload_n hx hb dX12_quota_17 rfl (lv_at hl 2 rfl) ?_
    have J_42 : ∀ (H : Heap) (locs : List Loc) (ls : Array Slot), Iv dC dI g A f_6 H → va_S A s.heap H locs → (p2.toInt ≤ 0 ∨ p2.toInt < p3.toInt) → lv_has ls 6 [(0, .ref h0), (1, .int p1), (2, .int p2), (3, .int p3)] → W p l e (headSpec wq_c_X12_quota ({ frames := 2, cells := 0, slots := 0, locals := 46 } : Room)).room s m ([.ref h0, .int p1, .int p2, .int p3].toArray) below meth c H locs 0 0 (MQ below (va_Qi (fun (r : Int32) (_ : Unit) => True) (fun (_ : Unit) t => ∃ f1 : Nat → va_E, Iv dC dI g A f1 t.heap ∧ Kp g [12, 30, 32, 33, 37] f f1 ∧ ∃ (w0 : Int32) (w1 : Int32) (w10 : Int32) (w12 : Int32) (w13 : Int32) (w14 : Int32) (w15 : Int32) (w16 : Int64) (w17 : Int32) (w18 : Int32) (w23 : Int32) (w24 : Int64) (w25 : Int64) (w26 : Int64) (q1 : Nat → Int64) (u1 : Nat → Int64) (im1 : Nat → Int64) (ik1 : Nat → Int32), (f1 h0 = .inr (12, [.int w0, .int w1, .ref (gr g h0 2), .ref (gr g h0 3), .ref (gr g h0 4), .ref (gr g h0 5), .ref (gr g h0 6), .ref (gr g h0 7), .ref (gr g h0 8), .ref (gr g h0 9), .int w10, .ref (gr g h0 11), .int w12, .int w13, .int w14, .int w15, .long w16, .int w17, .int w18, .ref (gr g h0 19), .ref (gr g h0 20), .ref (gr g h0 21), .ref (gr g h0 22), .int w23, .long w24, .long w25, .long w26])) ∧ (0 ≤ w10.toInt ∧ w10.toInt ≤ 10) ∧ (0 ≤ w12.toInt ∧ w12.toInt ≤ 200) ∧ (0 ≤ w23.toInt ∧ w23.toInt ≤ 8) ∧ (f1 (gr g h0 4) = .inl (gc g 1, 906, .inr (.inl q1))) ∧ (RowOK q1) ∧ (f1 (gr g h0 5) = .inl (gc g 1, 9060, .inr (.inl u1))) ∧ (f1 (gr g h0 7) = .inl (gc g 1, 1812, .inr (.inl im1))) ∧ (f1 (gr g h0 8) = .inl (gc g 3, 2, .inl ik1)) ∧ (UIq w10 u1 im1 ik1)) A) ([.ref h0, .int p1, .int p2, .int p3].toArray) s 0 0 A) (F0 m 42 ls []) := by
      intro H locs ls hI hS t_33 hl
      refine lv_aload_n hx hb dX12_quota_42 rfl (lv_at hl 0 rfl) ?_
      refine lv_iload_n hx hb dX12_quota_43 rfl (lv_at hl 1 rfl) ?_
      refine va_calli (va_runV (As := [.int p1]) (rest := []) ⟨hx, hb, hml, hown, hts⟩ (c_X12_isTask l dC dI g A hG f_6 h0 p1 q i_h0 k_10 hc1_ok) (cwV 1 hts (gi_V (fun w_ h0_ => ⟨List.mem_cons_of_mem _ (List.mem_append_right _ (List.mem_append_right _ (List.mem_append_right _ (List.mem_append_right _ (List.mem_append_left _ h0_))))), (tb_c_X12_isTask w_ h0_).2⟩) (List.mem_cons_of_mem _ (List.mem_append_left _ (List.mem_of_getElem? (i := 8) rfl))) (List.mem_cons_of_mem _ (List.mem_append_left _ (List.mem_of_getElem? (i := 9) rfl))) (List.mem_cons_of_mem _ (List.mem_append_left _ (List.mem_of_getElem? (i := 10) rfl))) (List.mem_cons_of_mem _ (List.mem_append_left _ (List.mem_of_getElem? (i := 4) rfl)))) rfl rfl rfl (by decide +kernel) ⟨Nat.le_of_ble_eq_true rfl, Nat.le_of_ble_eq_true rfl⟩) ⟨fun a U g mk q => ⟨q.1, q.2.calling rfl rfl⟩, k_recv hK hI i_h0.1 k_9 (ci := 12) rfl, fun U hU hW => ⟨rfl, kIn.of hI hK hE hS hU hW⟩⟩ rfl rfl hl.1 rfl (lv_room (Nat.le_of_ble_eq_true rfl)) dX12_quota_44 ⟨Nat.le_of_ble_eq_true rfl, Nat.le_of_ble_eq_true rfl⟩) hS (fun q _ h => h) (fun q h => h) (fun r_35 u9 t H1 locs ht hvm w_34 hB hz1 hk1 hS => ?_)
      have hI : Iv dC dI g A f_6 t.heap := hB
      rw [ht] at hI
      generalize H1 = H at hI hS ⊢
      refine W.widen (k := 0) (n := 0) (Nat.le_of_ble_eq_true rfl) (Nat.le_of_ble_eq_true rfl) ?_
      have w_34 : (r_35.toInt = 0 ∨ r_35.toInt = 1) ∧ (r_35.toInt = 0 ∨ (0 ≤ p1.toInt ∧ p1.toInt < (q 0).toInt)) := w_34
      refine lv_if_ne (tgt := 57) hx hb dX12_quota_47 (by decide) (fun c_36 => ?_) (fun c_36 => ?_)
      · have c_36 := kn_eq rfl (by decide : Int32.toInt 0 = 0) c_36
        refine lv_aload_n hx hb dX12_quota_57 rfl (lv_at hl 0 rfl) ?_
        refine lv_bipush (v := 9) hx hb dX12_quota_58 (by decide) ?_
        refine va_callv (va_runV (As := [.int 9]) (rest := []) ⟨hx, hb, hml, hown, hts⟩ (c_X12_remember l dC dI g A hG f_6 h0 9 0 z1 z10 z12 z13 z14 z15 z16 z17 z18 z23 z24 z25 z26 q u im kt i_h0 k_9 (by first | omega | (simp only [k_c0]; omega)) (by first | omega | (simp only [k_c0]; omega)) (by first | omega | (simp only [k_c0]; omega)) k_10 hc1_ok k_11 k_12 k_13 (by first | omega | decide | (simp only [show Int32.toInt 9 = 9 from by decide] <;> omega))) (cwV 1 hts (gi_V (fun w_ h0_ => ⟨List.mem_cons_of_mem _ (List.mem_append_right _ (List.mem_append_right _ (List.mem_append_right _ (List.mem_append_right _ (List.mem_append_right _ (List.mem_append_left _ h0_)))))), (tb_c_X12_remember w_ h0_).2⟩) (List.mem_cons_of_mem _ (List.mem_append_left _ (List.mem_of_getElem? (i := 11) rfl))) (List.mem_cons_of_mem _ (List.mem_append_left _ (List.mem_of_getElem? (i := 12) rfl))) (List.mem_cons_of_mem _ (List.mem_append_left _ (List.mem_of_getElem? (i := 13) rfl))) (List.mem_cons_of_mem _ (List.mem_append_left _ (List.mem_of_getElem? (i := 4) rfl)))) rfl rfl rfl (by decide +kernel) ⟨Nat.le_of_ble_eq_true rfl, Nat.le_of_ble_eq_true rfl⟩) ⟨fun a U g mk q => ⟨q.1, q.2.calling rfl rfl⟩, k_recv hK hI i_h0.1 k_9 (ci := 12) rfl, fun U hU hW => ⟨rfl, kIn.of hI hK hE hS hU hW⟩⟩ rfl rfl hl.1 rfl (lv_room (Nat.le_of_ble_eq_true rfl)) dX12_quota_60 ⟨Nat.le_of_ble_eq_true rfl, Nat.le_of_ble_eq_true rfl⟩) hS (fun q _ h => h) (fun q h => h) (fun u9 t H1 locs ht hvm _ hB hz1 hk1 hS => ?_)
        obtain ⟨f_37, hI, kc_39, w10_40, u1_41, k_42, z_43, k_44, z_45⟩ := hB
        rw [ht] at hI
        have k_46 : f_37 (gr g h0 4) = .inl (gc g 1, 906, .inr (.inl q)) := Kp.at kc_39 i_1 (by decide) k_10
        have k_47 : f_37 (gr g h0 7) = .inl (gc g 1, 1812, .inr (.inl im)) := Kp.at kc_39 i_4 (by decide) k_12
        have k_48 : f_37 (gr g h0 8) = .inl (gc g 3, 2, .inl kt) := Kp.at kc_39 i_5 (by decide) k_13
        have k_42 : f_37 h0 = .inr (12, [.int (0 : Int32), .int z1, .ref (gr g h0 2), .ref (gr g h0 3), .ref (gr g h0 4), .ref (gr g h0 5), .ref (gr g h0 6), .ref (gr g h0 7), .ref (gr g h0 8), .ref (gr g h0 9), .int w10_40, .ref (gr g h0 11), .int z12, .int z13, .int z14, .int z15, .long z16, .int z17, .int z18, .ref (gr g h0 19), .ref (gr g h0 20), .ref (gr g h0 21), .ref (gr g h0 22), .int z23, .long z24, .long z25, .long z26]) := k_42
        have z_43 : 0 ≤ w10_40.toInt ∧ w10_40.toInt ≤ 10 := z_43
        have z_45 : UIq w10_40 u1_41 im kt := z_45
        have kp_49 := Kp.call kp_8 kc_39 (by decide)
        generalize H1 = H at hI hS ⊢
        refine W.widen (k := 0) (n := 0) (Nat.le_of_ble_eq_true rfl) (Nat.le_of_ble_eq_true rfl) ?_
        obtain ⟨m_50, em_50, tm_50⟩ := k_nat (x := p1) (by omega)
        refine lv_iload_n hx hb dX12_quota_63 rfl (lv_at hl 1 rfl) ?_
        refine k_topi (y := nI m_50) em_50 ?_
        refine va_calli (va_runS (As := [.int (nI m_50)]) (rest := []) ⟨hx, hb, hml, hown, hts⟩ (c_X12_at l dC dI g A hG f_37 m_50) (va_cwS 1 hts (gi_S (fun w_ h0_ => ⟨List.mem_cons_of_mem _ (List.mem_append_right _ (List.mem_append_right _ (List.mem_append_right _ (List.mem_append_right _ (List.mem_append_right _ (List.mem_append_right _ (List.mem_append_left _ h0_))))))), (tb_c_X12_at w_ h0_).2⟩) (List.mem_cons_of_mem _ (List.mem_append_left _ (List.mem_of_getElem? (i := 14) rfl))) (List.mem_cons_of_mem _ (List.mem_append_left _ (List.mem_of_getElem? (i := 15) rfl))) (List.mem_cons_of_mem _ (List.mem_append_left _ (List.mem_of_getElem? (i := 4) rfl)))) rfl rfl rfl (by decide +kernel) ⟨Nat.le_of_ble_eq_true rfl, Nat.le_of_ble_eq_true rfl⟩) ⟨fun a U g mk q => ⟨q.1, q.2.calling rfl rfl⟩, fun U hU hW => ⟨rfl, kIn.of hI hK hE hS hU hW⟩⟩ rfl rfl hl.1 rfl (lv_room (Nat.le_of_ble_eq_true rfl)) dX12_quota_64 ⟨Nat.le_of_ble_eq_true rfl, Nat.le_of_ble_eq_true rfl⟩) hS (fun q _ h => h) (fun q h => h) (fun r_52 u9 t H1 locs ht hvm w_51 hB hz1 hk1 hS => ?_)
        have hI : Iv dC dI g A f_37 t.heap := hB
        rw [ht] at hI
        generalize H1 = H at hI hS ⊢
        refine W.widen (k := 0) (n := 0) (Nat.le_of_ble_eq_true rfl) (Nat.le_of_ble_eq_true rfl) ?_
        have w_51 : r_52 = nI (6 + 43 * m_50) := w_51
        refine k_topi (y := nI (6 + 43 * m_50)) w_51 ?_
        refine lv_istore (lv' := [(4, .int (nI (6 + 43 * m_50))), (0, .ref h0), (1, .int p1), (2, .int p2), (3, .int p3)]) hx hb dX12_quota_67 hl (by decide) rfl (fun ls hl => ?_)
        refine lv_aload_n hx hb dX12_quota_69 rfl (lv_at hl 1 rfl) ?_
        refine k_get (ci := 12) (v := .ref (gr g h0 4)) (C := RX12) (T := TX12) (N := 27) hx hb hts (fun _ h0_ => List.mem_cons_of_mem _ (List.mem_append_right _ (List.mem_append_left _ h0_))) hown hK hI i_h0.1 k_42 rfl 4 (by decide) (hts (.fieldLink RX12 16 "DeadlineShareModel" "row" "[J") (List.mem_cons_of_mem _ (List.mem_append_left _ (List.mem_of_getElem? (i := 16) rfl)))) (fun _ h9 => h9) rfl dX12_quota_70 ?_
        refine lv_iload hx hb dX12_quota_73 (lv_at hl 0 rfl) ?_
        refine lv_bipush (v := 41) hx hb dX12_quota_75 (by decide) ?_
        refine lv_iadd hx hb dX12_quota_77 ?_
        refine k_topi (y := nI (6 + 43 * m_50 + 41)) ((nI_add (6 + 43 * m_50) 41).trans (congrArg nI (by omega))) ?_
        refine k_lald hx hb hK hI i_1.1 1 k_46 rfl (vp_in_nI (by omega) (by omega)) dX12_quota_78 ?_
        refine k_topl (y := q (6 + 43 * m_50 + 41)) (congrArg q (nI_clamp (by omega))) ?_
        have d_55 := rk_41 hc1_ok (t := m_50) (by omega)
        refine lv_lconst (v := 0) hx hb dX12_quota_79 (by decide) ?_
        refine W.lcmp hx hb dX12_quota_80 ?_
        have J_99 : ∀ (y_56 : Int32) (H : Heap) (locs : List Loc) (ls : Array Slot), Iv dC dI g A f_37 H → va_S A s.heap H locs → lv_has ls 6 [(4, .int (nI (6 + 43 * m_50))), (0, .ref h0), (1, .int p1), (2, .int p2), (3, .int p3)] → W p l e (headSpec wq_c_X12_quota ({ frames := 2, cells := 0, slots := 0, locals := 46 } : Room)).room s m ([.ref h0, .int p1, .int p2, .int p3].toArray) below meth c H locs 0 0 (MQ below (va_Qi (fun (r : Int32) (_ : Unit) => True) (fun (_ : Unit) t => ∃ f1 : Nat → va_E, Iv dC dI g A f1 t.heap ∧ Kp g [12, 30, 32, 33, 37] f f1 ∧ ∃ (w0 : Int32) (w1 : Int32) (w10 : Int32) (w12 : Int32) (w13 : Int32) (w14 : Int32) (w15 : Int32) (w16 : Int64) (w17 : Int32) (w18 : Int32) (w23 : Int32) (w24 : Int64) (w25 : Int64) (w26 : Int64) (q1 : Nat → Int64) (u1 : Nat → Int64) (im1 : Nat → Int64) (ik1 : Nat → Int32), (f1 h0 = .inr (12, [.int w0, .int w1, .ref (gr g h0 2), .ref (gr g h0 3), .ref (gr g h0 4), .ref (gr g h0 5), .ref (gr g h0 6), .ref (gr g h0 7), .ref (gr g h0 8), .ref (gr g h0 9), .int w10, .ref (gr g h0 11), .int w12, .int w13, .int w14, .int w15, .long w16, .int w17, .int w18, .ref (gr g h0 19), .ref (gr g h0 20), .ref (gr g h0 21), .ref (gr g h0 22), .int w23, .long w24, .long w25, .long w26])) ∧ (0 ≤ w10.toInt ∧ w10.toInt ≤ 10) ∧ (0 ≤ w12.toInt ∧ w12.toInt ≤ 200) ∧ (0 ≤ w23.toInt ∧ w23.toInt ≤ 8) ∧ (f1 (gr g h0 4) = .inl (gc g 1, 906, .inr (.inl q1))) ∧ (RowOK q1) ∧ (f1 (gr g h0 5) = .inl (gc g 1, 9060, .inr (.inl u1))) ∧ (f1 (gr g h0 7) = .inl (gc g 1, 1812, .inr (.inl im1))) ∧ (f1 (gr g h0 8) = .inl (gc g 3, 2, .inl ik1)) ∧ (UIq w10 u1 im1 ik1)) A) ([.ref h0, .int p1, .int p2, .int p3].toArray) s 0 0 A) (F0 m 99 ls [.int y_56]) := by
          intro y_56 H locs ls hI hS  hl
          refine lv_istore (lv' := [(5, .int y_56), (4, .int (nI (6 + 43 * m_50))), (0, .ref h0), (1, .int p1), (2, .int p2), (3, .int p3)]) hx hb dX12_quota_99 hl (by decide) rfl (fun ls hl => ?_)
          refine lv_aload_n hx hb dX12_quota_101 rfl (lv_at hl 2 rfl) ?_
          refine k_get (ci := 12) (v := .ref (gr g h0 4)) (C := RX12) (T := TX12) (N := 27) hx hb hts (fun _ h0_ => List.mem_cons_of_mem _ (List.mem_append_right _ (List.mem_append_left _ h0_))) hown hK hI i_h0.1 k_42 rfl 4 (by decide) (hts (.fieldLink RX12 16 "DeadlineShareModel" "row" "[J") (List.mem_cons_of_mem _ (List.mem_append_left _ (List.mem_of_getElem? (i := 16) rfl)))) (fun _ h9 => h9) rfl dX12_quota_102 ?_
          refine lv_iload hx hb dX12_quota_105 (lv_at hl 1 rfl) ?_
          refine lv_bipush (v := 41) hx hb dX12_quota_107 (by decide) ?_
          refine lv_iadd hx hb dX12_quota_109 ?_
          refine k_topi (y := nI (6 + 43 * m_50 + 41)) ((nI_add (6 + 43 * m_50) 41).trans (congrArg nI (by omega))) ?_
          refine lv_iload_n hx hb dX12_quota_110 rfl (lv_at hl 4 rfl) ?_
          refine lv_i2l (v := p2.toInt64) hx hb dX12_quota_111 rfl ?_
          have t_59 := Int32.toInt_toInt64 p2
          have g_60 := Int32.toInt_lt p2
          have g_61 := Int32.le_toInt p2
          refine k_last hx hb hK hI hS i_1.1 1 k_46 rfl (vp_in_nI (by omega) (by omega)) (cl_32 i_1) dX12_quota_112 (fun f_62 H locs e_63 hI hS => ?_)
          generalize eq_64 : vp_updL q (Int32.toNatClampNeg (nI (6 + 43 * m_50 + 41))) p2.toInt64 = q_64 at e_63
          have k_66 : f_62 (gr g h0 4) = .inl (gc g 1, 906, .inr (.inl q_64)) := by rw [e_63]; exact va_up_self _ _ _
          have k_67 : f_62 (gr g h0 7) = .inl (gc g 1, 1812, .inr (.inl im)) := by rw [e_63, va_up_ne _ _ (ik_ne i_4 i_1 (by decide))]; exact k_47
          have k_68 : f_62 (gr g h0 8) = .inl (gc g 3, 2, .inl kt) := by rw [e_63, va_up_ne _ _ (ik_ne i_5 i_1 (by decide))]; exact k_48
          have k_69 : f_62 h0 = .inr (12, [.int (0 : Int32), .int z1, .ref (gr g h0 2), .ref (gr g h0 3), .ref (gr g h0 4), .ref (gr g h0 5), .ref (gr g h0 6), .ref (gr g h0 7), .ref (gr g h0 8), .ref (gr g h0 9), .int w10_40, .ref (gr g h0 11), .int z12, .int z13, .int z14, .int z15, .long z16, .int z17, .int z18, .ref (gr g h0 19), .ref (gr g h0 20), .ref (gr g h0 21), .ref (gr g h0 22), .int z23, .long z24, .long z25, .long z26]) := by rw [e_63, va_up_ne _ _ (ik_ne i_h0 i_1 (by decide))]; exact k_42
          have k_70 : f_62 (gr g h0 5) = .inl (gc g 1, 9060, .inr (.inl u1_41)) := by rw [e_63, va_up_ne _ _ (ik_ne i_3 i_1 (by decide))]; exact k_44
          have kp_65 := Kp.put kp_49 i_1 (by decide) e_63
          have u_71 : vp_updL q (6 + 43 * m_50 + 41) p2.toInt64 = q_64 := by rw [← eq_64, show Int32.toNatClampNeg (nI (6 + 43 * m_50 + 41)) = 6 + 43 * m_50 + 41 from (nI_clamp (by omega))]
          have n_72 : (q_64 0).toInt = (q 0).toInt := by rw [← u_71, pk_uLn (by omega)]
          have n_73 : (q_64 1).toInt = (q 1).toInt := by rw [← u_71, pk_uLn (by omega)]
          have n_74 : (q_64 3).toInt = (q 3).toInt := by rw [← u_71, pk_uLn (by omega)]
          have n_75 : (q_64 4).toInt = (q 4).toInt := by rw [← u_71, pk_uLn (by omega)]
          have n_76 : (q_64 5).toInt = (q 5).toInt := by rw [← u_71, pk_uLn (by omega)]
          refine lv_aload_n hx hb dX12_quota_113 rfl (lv_at hl 2 rfl) ?_
          refine k_get (ci := 12) (v := .ref (gr g h0 4)) (C := RX12) (T := TX12) (N := 27) hx hb hts (fun _ h0_ => List.mem_cons_of_mem _ (List.mem_append_right _ (List.mem_append_left _ h0_))) hown hK hI i_h0.1 k_69 rfl 4 (by decide) (hts (.fieldLink RX12 16 "DeadlineShareModel" "row" "[J") (List.mem_cons_of_mem _ (List.mem_append_left _ (List.mem_of_getElem? (i := 16) rfl)))) (fun _ h9 => h9) rfl dX12_quota_114 ?_
          refine lv_iload hx hb dX12_quota_117 (lv_at hl 1 rfl) ?_
          refine lv_bipush (v := 42) hx hb dX12_quota_119 (by decide) ?_
          refine lv_iadd hx hb dX12_quota_121 ?_
          refine k_topi (y := nI (6 + 43 * m_50 + 42)) ((nI_add (6 + 43 * m_50) 42).trans (congrArg nI (by omega))) ?_
          refine lv_iload_n hx hb dX12_quota_122 rfl (lv_at hl 4 rfl) ?_
          have J_132 : ∀ (y_79 : Int64) (H : Heap) (locs : List Loc) (ls : Array Slot), Iv dC dI g A f_62 H → va_S A s.heap H locs → (p2.toInt ≤ 0 ∨ 0 < y_79.toInt) → lv_has ls 6 [(5, .int y_56), (4, .int (nI (6 + 43 * m_50))), (0, .ref h0), (1, .int p1), (2, .int p2), (3, .int p3)] → W p l e (headSpec wq_c_X12_quota ({ frames := 2, cells := 0, slots := 0, locals := 46 } : Room)).room s m ([.ref h0, .int p1, .int p2, .int p3].toArray) below meth c H locs 0 0 (MQ below (va_Qi (fun (r : Int32) (_ : Unit) => True) (fun (_ : Unit) t => ∃ f1 : Nat → va_E, Iv dC dI g A f1 t.heap ∧ Kp g [12, 30, 32, 33, 37] f f1 ∧ ∃ (w0 : Int32) (w1 : Int32) (w10 : Int32) (w12 : Int32) (w13 : Int32) (w14 : Int32) (w15 : Int32) (w16 : Int64) (w17 : Int32) (w18 : Int32) (w23 : Int32) (w24 : Int64) (w25 : Int64) (w26 : Int64) (q1 : Nat → Int64) (u1 : Nat → Int64) (im1 : Nat → Int64) (ik1 : Nat → Int32), (f1 h0 = .inr (12, [.int w0, .int w1, .ref (gr g h0 2), .ref (gr g h0 3), .ref (gr g h0 4), .ref (gr g h0 5), .ref (gr g h0 6), .ref (gr g h0 7), .ref (gr g h0 8), .ref (gr g h0 9), .int w10, .ref (gr g h0 11), .int w12, .int w13, .int w14, .int w15, .long w16, .int w17, .int w18, .ref (gr g h0 19), .ref (gr g h0 20), .ref (gr g h0 21), .ref (gr g h0 22), .int w23, .long w24, .long w25, .long w26])) ∧ (0 ≤ w10.toInt ∧ w10.toInt ≤ 10) ∧ (0 ≤ w12.toInt ∧ w12.toInt ≤ 200) ∧ (0 ≤ w23.toInt ∧ w23.toInt ≤ 8) ∧ (f1 (gr g h0 4) = .inl (gc g 1, 906, .inr (.inl q1))) ∧ (RowOK q1) ∧ (f1 (gr g h0 5) = .inl (gc g 1, 9060, .inr (.inl u1))) ∧ (f1 (gr g h0 7) = .inl (gc g 1, 1812, .inr (.inl im1))) ∧ (f1 (gr g h0 8) = .inl (gc g 3, 2, .inl ik1)) ∧ (UIq w10 u1 im1 ik1)) A) ([.ref h0, .int p1, .int p2, .int p3].toArray) s 0 0 A) (F0 m 132 ls [.long y_79, .int (nI (6 + 43 * m_50 + 42)), .ref (gr g h0 4)]) := by
            intro y_79 H locs ls hI hS t_80 hl
            refine k_last hx hb hK hI hS i_1.1 1 k_66 rfl (vp_in_nI (by omega) (by omega)) (cl_32 i_1) dX12_quota_132 (fun f_81 H locs e_82 hI hS => ?_)
            generalize eq_83 : vp_updL q_64 (Int32.toNatClampNeg (nI (6 + 43 * m_50 + 42))) y_79 = q_83 at e_82
            have k_85 : f_81 (gr g h0 4) = .inl (gc g 1, 906, .inr (.inl q_83)) := by rw [e_82]; exact va_up_self _ _ _
            have k_86 : f_81 (gr g h0 7) = .inl (gc g 1, 1812, .inr (.inl im)) := by rw [e_82, va_up_ne _ _ (ik_ne i_4 i_1 (by decide))]; exact k_67
            have k_87 : f_81 (gr g h0 8) = .inl (gc g 3, 2, .inl kt) := by rw [e_82, va_up_ne _ _ (ik_ne i_5 i_1 (by decide))]; exact k_68
            have k_88 : f_81 h0 = .inr (12, [.int (0 : Int32), .int z1, .ref (gr g h0 2), .ref (gr g h0 3), .ref (gr g h0 4), .ref (gr g h0 5), .ref (gr g h0 6), .ref (gr g h0 7), .ref (gr g h0 8), .ref (gr g h0 9), .int w10_40, .ref (gr g h0 11), .int z12, .int z13, .int z14, .int z15, .long z16, .int z17, .int z18, .ref (gr g h0 19), .ref (gr g h0 20), .ref (gr g h0 21), .ref (gr g h0 22), .int z23, .long z24, .long z25, .long z26]) := by rw [e_82, va_up_ne _ _ (ik_ne i_h0 i_1 (by decide))]; exact k_69
            have k_89 : f_81 (gr g h0 5) = .inl (gc g 1, 9060, .inr (.inl u1_41)) := by rw [e_82, va_up_ne _ _ (ik_ne i_3 i_1 (by decide))]; exact k_70
            have kp_84 := Kp.put kp_65 i_1 (by decide) e_82
            have u_90 : vp_updL q_64 (6 + 43 * m_50 + 42) y_79 = q_83 := by rw [← eq_83, show Int32.toNatClampNeg (nI (6 + 43 * m_50 + 42)) = 6 + 43 * m_50 + 42 from (nI_clamp (by omega))]
            have ok_91 : RowOK q_83 := by rw [← u_90, ← u_71]; exact rk_quota hc1_ok (t := m_50) (by omega) (by omega)
            have d_92 := rk_hd ok_91
            have n_93 : (q_83 0).toInt = (q_64 0).toInt := by rw [← u_90, pk_uLn (by omega)]
            have n_94 : (q_83 1).toInt = (q_64 1).toInt := by rw [← u_90, pk_uLn (by omega)]
            have n_95 : (q_83 3).toInt = (q_64 3).toInt := by rw [← u_90, pk_uLn (by omega)]
            have n_96 : (q_83 4).toInt = (q_64 4).toInt := by rw [← u_90, pk_uLn (by omega)]
            have n_97 : (q_83 5).toInt = (q_64 5).toInt := by rw [← u_90, pk_uLn (by omega)]
            refine lv_aload_n hx hb dX12_quota_133 rfl (lv_at hl 2 rfl) ?_
            refine k_get (ci := 12) (v := .ref (gr g h0 4)) (C := RX12) (T := TX12) (N := 27) hx hb hts (fun _ h0_ => List.mem_cons_of_mem _ (List.mem_append_right _ (List.mem_append_left _ h0_))) hown hK hI i_h0.1 k_88 rfl 4 (by decide) (hts (.fieldLink RX12 16 "DeadlineShareModel" "row" "[J") (List.mem_cons_of_mem _ (List.mem_append_left _ (List.mem_of_getElem? (i := 16) rfl)))) (fun _ h9 => h9) rfl dX12_quota_134 ?_
            refine lv_iload hx hb dX12_quota_137 (lv_at hl 1 rfl) ?_
            refine lv_bipush (v := 40) hx hb dX12_quota_139 (by decide) ?_
            refine lv_iadd hx hb dX12_quota_141 ?_
            refine k_topi (y := nI (6 + 43 * m_50 + 40)) ((nI_add (6 + 43 * m_50) 40).trans (congrArg nI (by omega))) ?_
            refine lv_iload_n hx hb dX12_quota_142 rfl (lv_at hl 4 rfl) ?_
            refine lv_i2l (v := p2.toInt64) hx hb dX12_quota_143 rfl ?_
            have t_100 := Int32.toInt_toInt64 p2
            have g_101 := Int32.toInt_lt p2
            have g_102 := Int32.le_toInt p2
            refine k_last hx hb hK hI hS i_1.1 1 k_85 rfl (vp_in_nI (by omega) (by omega)) (cl_32 i_1) dX12_quota_144 (fun f_103 H locs e_104 hI hS => ?_)
            generalize eq_105 : vp_updL q_83 (Int32.toNatClampNeg (nI (6 + 43 * m_50 + 40))) p2.toInt64 = q_105 at e_104
            have k_107 : f_103 (gr g h0 4) = .inl (gc g 1, 906, .inr (.inl q_105)) := by rw [e_104]; exact va_up_self _ _ _
            have k_108 : f_103 (gr g h0 7) = .inl (gc g 1, 1812, .inr (.inl im)) := by rw [e_104, va_up_ne _ _ (ik_ne i_4 i_1 (by decide))]; exact k_86
            have k_109 : f_103 (gr g h0 8) = .inl (gc g 3, 2, .inl kt) := by rw [e_104, va_up_ne _ _ (ik_ne i_5 i_1 (by decide))]; exact k_87
            have k_110 : f_103 h0 = .inr (12, [.int (0 : Int32), .int z1, .ref (gr g h0 2), .ref (gr g h0 3), .ref (gr g h0 4), .ref (gr g h0 5), .ref (gr g h0 6), .ref (gr g h0 7), .ref (gr g h0 8), .ref (gr g h0 9), .int w10_40, .ref (gr g h0 11), .int z12, .int z13, .int z14, .int z15, .long z16, .int z17, .int z18, .ref (gr g h0 19), .ref (gr g h0 20), .ref (gr g h0 21), .ref (gr g h0 22), .int z23, .long z24, .long z25, .long z26]) := by rw [e_104, va_up_ne _ _ (ik_ne i_h0 i_1 (by decide))]; exact k_88
            have k_111 : f_103 (gr g h0 5) = .inl (gc g 1, 9060, .inr (.inl u1_41)) := by rw [e_104, va_up_ne _ _ (ik_ne i_3 i_1 (by decide))]; exact k_89
            have kp_106 := Kp.put kp_84 i_1 (by decide) e_104
            have u_112 : vp_updL q_83 (6 + 43 * m_50 + 40) p2.toInt64 = q_105 := by rw [← eq_105, show Int32.toNatClampNeg (nI (6 + 43 * m_50 + 40)) = 6 + 43 * m_50 + 40 from (nI_clamp (by omega))]
            have ok_113 : RowOK q_105 := by rw [← u_112]; exact rk_upd ok_91 (by refine ⟨⟨by omega, by omega, by omega, by omega, by omega⟩, fun t9 ht9 => ⟨by omega, by omega, by omega, by omega, by omega, by omega⟩, fun t9 k9 ht9 hk9 => ⟨by omega, by omega, by omega⟩, by omega⟩)
            have d_114 := rk_hd ok_113
            have n_115 : (q_105 0).toInt = (q_83 0).toInt := by rw [← u_112, pk_uLn (by omega)]
            have n_116 : (q_105 1).toInt = (q_83 1).toInt := by rw [← u_112, pk_uLn (by omega)]
            have n_117 : (q_105 3).toInt = (q_83 3).toInt := by rw [← u_112, pk_uLn (by omega)]
            have n_118 : (q_105 4).toInt = (q_83 4).toInt := by rw [← u_112, pk_uLn (by omega)]
            have n_119 : (q_105 5).toInt = (q_83 5).toInt := by rw [← u_112, pk_uLn (by omega)]
            refine lv_aload_n hx hb dX12_quota_145 rfl (lv_at hl 2 rfl) ?_
            refine lv_iload hx hb dX12_quota_146 (lv_at hl 0 rfl) ?_
            refine va_calli (va_runV (As := [.int y_56]) (rest := []) ⟨hx, hb, hml, hown, hts⟩ (c_X12_tell l dC dI g A hG f_103 h0 y_56 (0 : Int32) z1 w10_40 z12 z13 z14 z15 z16 z17 z18 z23 z24 z25 z26 i_h0 k_110 (by first | omega | (simp only [k_c0]; omega)) (by first | omega | (simp only [k_c0]; omega)) (by first | omega | (simp only [k_c0]; omega))) (cwV 1 hts (gi_V (fun w_ h0_ => ⟨List.mem_cons_of_mem _ (List.mem_append_right _ (List.mem_append_right _ (List.mem_append_right _ (List.mem_append_right _ (List.mem_append_right _ (List.mem_append_right _ (List.mem_append_right _ (List.mem_append_left _ h0_)))))))), (tb_c_X12_tell w_ h0_).2⟩) (List.mem_cons_of_mem _ (List.mem_append_left _ (List.mem_of_getElem? (i := 17) rfl))) (List.mem_cons_of_mem _ (List.mem_append_left _ (List.mem_of_getElem? (i := 18) rfl))) (List.mem_cons_of_mem _ (List.mem_append_left _ (List.mem_of_getElem? (i := 19) rfl))) (List.mem_cons_of_mem _ (List.mem_append_left _ (List.mem_of_getElem? (i := 4) rfl)))) rfl rfl rfl (by decide +kernel) ⟨Nat.le_of_ble_eq_true rfl, Nat.le_of_ble_eq_true rfl⟩) ⟨fun a U g mk q => ⟨q.1, q.2.calling rfl rfl⟩, k_recv hK hI i_h0.1 k_110 (ci := 12) rfl, fun U hU hW => ⟨rfl, kIn.of hI hK hE hS hU hW⟩⟩ rfl rfl hl.1 rfl (lv_room (Nat.le_of_ble_eq_true rfl)) dX12_quota_148 ⟨Nat.le_of_ble_eq_true rfl, Nat.le_of_ble_eq_true rfl⟩) hS (fun q _ h => h) (fun q h => h) (fun r_122 u9 t H1 locs ht hvm w_121 hB hz1 hk1 hS => ?_)
            obtain ⟨f_120, hI, kc_123, k_124⟩ := hB
            rw [ht] at hI
            have k_125 : f_120 (gr g h0 4) = .inl (gc g 1, 906, .inr (.inl q_105)) := Kp.at kc_123 i_1 (by decide) k_107
            have k_126 : f_120 (gr g h0 7) = .inl (gc g 1, 1812, .inr (.inl im)) := Kp.at kc_123 i_4 (by decide) k_108
            have k_127 : f_120 (gr g h0 8) = .inl (gc g 3, 2, .inl kt) := Kp.at kc_123 i_5 (by decide) k_109
            have k_128 : f_120 (gr g h0 5) = .inl (gc g 1, 9060, .inr (.inl u1_41)) := Kp.at kc_123 i_3 (by decide) k_111
            have k_124 : f_120 h0 = .inr (12, [.int (0 : Int32), .int 0, .ref (gr g h0 2), .ref (gr g h0 3), .ref (gr g h0 4), .ref (gr g h0 5), .ref (gr g h0 6), .ref (gr g h0 7), .ref (gr g h0 8), .ref (gr g h0 9), .int w10_40, .ref (gr g h0 11), .int z12, .int z13, .int z14, .int z15, .long z16, .int z17, .int z18, .ref (gr g h0 19), .ref (gr g h0 20), .ref (gr g h0 21), .ref (gr g h0 22), .int z23, .long z24, .long z25, .long z26]) := k_124
            have kp_129 := Kp.call kp_106 kc_123 (by decide)
            generalize H1 = H at hI hS ⊢
            refine W.widen (k := 0) (n := 0) (Nat.le_of_ble_eq_true rfl) (Nat.le_of_ble_eq_true rfl) ?_
            have w_121 : r_122.toInt = y_56.toInt := w_121
            exact W.iret (v := r_122) hx hb hr (fun t ht hW => ⟨⟨r_122, (), rfl, trivial, ⟨f_120, k_ret ht hI, kp_129, (0 : Int32), 0, w10_40, z12, z13, z14, z15, z16, z17, z18, z23, z24, z25, z26, q_105, u1_41, im, kt, k_124, (by first | omega | decide), (by first | omega | decide), (by first | omega | decide), k_125, ok_113, k_128, k_126, k_127, z_45⟩⟩, hS.F ht⟩) hS.2.2 dX12_quota_151
          refine lv_if_le (tgt := 131) hx hb dX12_quota_123 (by decide) (fun c_130 => ?_) (fun c_130 => ?_)
          · have c_130 := kc_le rfl (by decide : Int32.toInt 0 = 0) c_130
            refine lv_lconst (v := 0) hx hb dX12_quota_131 (by decide) ?_
            exact J_132 0 _ _ _ hI hS (by first | omega | decide | exact Or.inl (by decide) | (simp only [show Int64.toInt 0 = 0 from by decide] <;> omega)) (lv_sub hl [0, 1, 2, 3, 4, 5] rfl)
          · have c_130 := kn_le rfl (by decide : Int32.toInt 0 = 0) c_130
            refine lv_iload_n hx hb dX12_quota_126 rfl (lv_at hl 5 rfl) ?_
            refine lv_i2l (v := p3.toInt64) hx hb dX12_quota_127 rfl ?_
            have t_131 := Int32.toInt_toInt64 p3
            have g_132 := Int32.toInt_lt p3
            have g_133 := Int32.le_toInt p3
            refine lv_goto (tgt := 132) hx hb dX12_quota_128 (by decide) ?_
            exact J_132 p3.toInt64 _ _ _ hI hS (by first | omega | decide | exact Or.inl (by decide)) (lv_sub hl [0, 1, 2, 3, 4, 5] rfl)
        refine lv_if_le (tgt := 98) hx hb dX12_quota_81 (by decide) (fun c_134 => ?_) (fun c_134 => ?_)
        · have c_134 := lc_le rfl (by decide : Int64.toInt 0 = 0) ((lg_cmp_le _ _).mp c_134)
          refine lv_iconst (v := (-1)) hx hb dX12_quota_98 (by decide) ?_
          exact J_99 (-1) _ _ _ hI hS  (lv_sub hl [0, 1, 2, 3, 4] rfl)
        · have c_134 := ln_le rfl (by decide : Int64.toInt 0 = 0) (fun h9 => c_134 ((lg_cmp_le _ _).mpr h9))
          refine lv_aload_n hx hb dX12_quota_84 rfl (lv_at hl 1 rfl) ?_
          refine k_get (ci := 12) (v := .ref (gr g h0 4)) (C := RX12) (T := TX12) (N := 27) hx hb hts (fun _ h0_ => List.mem_cons_of_mem _ (List.mem_append_right _ (List.mem_append_left _ h0_))) hown hK hI i_h0.1 k_42 rfl 4 (by decide) (hts (.fieldLink RX12 16 "DeadlineShareModel" "row" "[J") (List.mem_cons_of_mem _ (List.mem_append_left _ (List.mem_of_getElem? (i := 16) rfl)))) (fun _ h9 => h9) rfl dX12_quota_85 ?_
          refine lv_iload hx hb dX12_quota_88 (lv_at hl 0 rfl) ?_
          refine lv_bipush (v := 40) hx hb dX12_quota_90 (by decide) ?_
          refine lv_iadd hx hb dX12_quota_92 ?_
          refine k_topi (y := nI (6 + 43 * m_50 + 40)) ((nI_add (6 + 43 * m_50) 40).trans (congrArg nI (by omega))) ?_
          refine k_lald hx hb hK hI i_1.1 1 k_46 rfl (vp_in_nI (by omega) (by omega)) dX12_quota_93 ?_
          refine k_topl (y := q (6 + 43 * m_50 + 40)) (congrArg q (nI_clamp (by omega))) ?_
          refine lv_l2i (v := (q (6 + 43 * m_50 + 40)).toInt32) hx hb dX12_quota_94 rfl ?_
          refine lv_topi (fun v_137 ev_137 => ?_)
          have tv_137 := k_l2i (q (6 + 43 * m_50 + 40))
          rw [← ev_137] at tv_137
          refine lv_goto (tgt := 99) hx hb dX12_quota_95 (by decide) ?_
          exact J_99 v_137 _ _ _ hI hS  (lv_sub hl [0, 1, 2, 3, 4] rfl)
      · have c_36 := kc_eq rfl (by decide : Int32.toInt 0 = 0) c_36
        refine lv_aload_n hx hb dX12_quota_50 rfl (lv_at hl 0 rfl) ?_
        refine lv_bipush (v := (-2)) hx hb dX12_quota_51 (by decide) ?_
        refine va_calli (va_runV (As := [.int (-2)]) (rest := []) ⟨hx, hb, hml, hown, hts⟩ (c_X12_refuse l dC dI g A hG f_6 h0 (-2) 0 z1 z10 z12 z13 z14 z15 z16 z17 z18 z23 z24 z25 z26 i_h0 k_9 (by first | omega | (simp only [k_c0]; omega)) (by first | omega | (simp only [k_c0]; omega)) (by first | omega | (simp only [k_c0]; omega)) (by first | omega | decide | (simp only [show Int32.toInt (-2) = (-2) from by decide] <;> omega))) (cwV 1 hts (gi_V (fun w_ h0_ => ⟨List.mem_cons_of_mem _ (List.mem_append_right _ (List.mem_append_right _ (List.mem_append_right _ (List.mem_append_left _ h0_)))), (tb_c_X12_refuse w_ h0_).2⟩) (List.mem_cons_of_mem _ (List.mem_append_left _ (List.mem_of_getElem? (i := 5) rfl))) (List.mem_cons_of_mem _ (List.mem_append_left _ (List.mem_of_getElem? (i := 6) rfl))) (List.mem_cons_of_mem _ (List.mem_append_left _ (List.mem_of_getElem? (i := 7) rfl))) (List.mem_cons_of_mem _ (List.mem_append_left _ (List.mem_of_getElem? (i := 4) rfl)))) rfl rfl rfl (by decide +kernel) ⟨Nat.le_of_ble_eq_true rfl, Nat.le_of_ble_eq_true rfl⟩) ⟨fun a U g mk q => ⟨q.1, q.2.calling rfl rfl⟩, k_recv hK hI i_h0.1 k_9 (ci := 12) rfl, fun U hU hW => ⟨rfl, kIn.of hI hK hE hS hU hW⟩⟩ rfl rfl hl.1 rfl (lv_room (Nat.le_of_ble_eq_true rfl)) dX12_quota_53 ⟨Nat.le_of_ble_eq_true rfl, Nat.le_of_ble_eq_true rfl⟩) hS (fun q _ h => h) (fun q h => h) (fun r_140 u9 t H1 locs ht hvm w_139 hB hz1 hk1 hS => ?_)
        obtain ⟨f_138, hI, kc_141, k_142⟩ := hB
        rw [ht] at hI
        have k_143 : f_138 (gr g h0 4) = .inl (gc g 1, 906, .inr (.inl q)) := Kp.at kc_141 i_1 (by decide) k_10
        have k_144 : f_138 (gr g h0 5) = .inl (gc g 1, 9060, .inr (.inl u)) := Kp.at kc_141 i_3 (by decide) k_11
        have k_145 : f_138 (gr g h0 7) = .inl (gc g 1, 1812, .inr (.inl im)) := Kp.at kc_141 i_4 (by decide) k_12
        have k_146 : f_138 (gr g h0 8) = .inl (gc g 3, 2, .inl kt) := Kp.at kc_141 i_5 (by decide) k_13
        have k_142 : f_138 h0 = .inr (12, [.int (0 : Int32), .int (-2 : Int32), .ref (gr g h0 2), .ref (gr g h0 3), .ref (gr g h0 4), .ref (gr g h0 5), .ref (gr g h0 6), .ref (gr g h0 7), .ref (gr g h0 8), .ref (gr g h0 9), .int z10, .ref (gr g h0 11), .int z12, .int z13, .int z14, .int z15, .long z16, .int z17, .int z18, .ref (gr g h0 19), .ref (gr g h0 20), .ref (gr g h0 21), .ref (gr g h0 22), .int z23, .long z24, .long z25, .long z26]) := k_142
        have kp_147 := Kp.call kp_8 kc_141 (by decide)
        generalize H1 = H at hI hS ⊢
        refine W.widen (k := 0) (n := 0) (Nat.le_of_ble_eq_true rfl) (Nat.le_of_ble_eq_true rfl) ?_
        have w_139 : r_140.toInt = (-2 : Int32).toInt := w_139
        have g_148 : Int32.toInt ((-2)) = (-2) := by decide
        exact W.iret (v := r_140) hx hb hr (fun t ht hW => ⟨⟨r_140, (), rfl, trivial, ⟨f_138, k_ret ht hI, kp_147, (0 : Int32), (-2 : Int32), z10, z12, z13, z14, z15, z16, z17, z18, z23, z24, z25, z26, q, u, im, kt, k_142, (by first | omega | decide), (by first | omega | decide), (by first | omega | decide), k_143, hc1_ok, k_144, k_145, k_146, hU⟩⟩, hS.F ht⟩) hS.2.2 dX12_quota_56
    refine lv_if_le (tgt := 42) hx hb dX12_quota_18 (by decide) (fun c_149 => ?_) (fun c_149 => ?_)
    · have c_149 := kc_le rfl (by decide : Int32.toInt 0 = 0) c_149
      exact J_42  _ _ _ hI hS (by first | omega | decide | exact Or.inl (by decide)) (lv_sub hl [0, 1, 2, 3] rfl)
    · have c_149 := kn_le rfl (by decide : Int32.toInt 0 = 0) c_149
      refine lv_iload_n hx hb dX12_quota_21 rfl (lv_at hl 3 rfl) ?_
      refine lv_i2l (v := p3.toInt64) hx hb dX12_quota_22 rfl ?_
      have t_150 := Int32.toInt_toInt64 p3
      have g_151 := Int32.toInt_lt p3
      have g_152 := Int32.le_toInt p3
      refine lv_iload_n hx hb dX12_quota_23 rfl (lv_at hl 2 rfl) ?_
      refine lv_i2l (v := p2.toInt64) hx hb dX12_quota_24 rfl ?_
      have t_153 := Int32.toInt_toInt64 p2
      have g_154 := Int32.toInt_lt p2
      have g_155 := Int32.le_toInt p2
      refine lv_lconst (v := 1) hx hb dX12_quota_25 (by decide) ?_
      refine lv_ladd hx hb dX12_quota_26 ?_
      refine lv_topl (fun v_156 ev_156 => ?_)
      have tv_156 := l_ad p2.toInt64 1
      rw [← ev_156, show Int64.toInt 1 = 1 from by decide] at tv_156
      refine lv_ldc2 hx hb hown (hts (.constantLong RX12 172 (60)) (List.mem_cons_of_mem _ (List.mem_append_left _ (List.mem_of_getElem? (i := 20) rfl)))) dX12_quota_27 ?_
      refine va_calli (va_runS (As := [.long p3.toInt64, .long v_156, .long 60]) (rest := []) ⟨hx, hb, hml, hown, hts⟩ (c_X12_in l dC dI g A hG f_6 p3.toInt64 v_156 60) (va_cwS 3 hts (gi_S (fun w_ h0_ => ⟨List.mem_cons_of_mem _ (List.mem_append_right _ (List.mem_append_right _ (List.mem_append_left _ h0_))), (tb_c_X12_in w_ h0_).2⟩) (List.mem_cons_of_mem _ (List.mem_append_left _ (List.mem_of_getElem? (i := 2) rfl))) (List.mem_cons_of_mem _ (List.mem_append_left _ (List.mem_of_getElem? (i := 3) rfl))) (List.mem_cons_of_mem _ (List.mem_append_left _ (List.mem_of_getElem? (i := 4) rfl)))) rfl rfl rfl (by decide +kernel) ⟨Nat.le_of_ble_eq_true rfl, Nat.le_of_ble_eq_true rfl⟩) ⟨fun a U g mk q => ⟨q.1, q.2.calling rfl rfl⟩, fun U hU hW => ⟨rfl, kIn.of hI hK hE hS hU hW⟩⟩ rfl rfl hl.1 rfl (lv_room (Nat.le_of_ble_eq_true rfl)) dX12_quota_30 ⟨Nat.le_of_ble_eq_true rfl, Nat.le_of_ble_eq_true rfl⟩) hS (fun q _ h => h) (fun q h => h) (fun r_158 u9 t H1 locs ht hvm w_157 hB hz1 hk1 hS => ?_)
      have hI : Iv dC dI g A f_6 t.heap := hB
      rw [ht] at hI
      generalize H1 = H at hI hS ⊢
      refine W.widen (k := 0) (n := 0) (Nat.le_of_ble_eq_true rfl) (Nat.le_of_ble_eq_true rfl) ?_
      have w_157 : (r_158.toInt = 0 ∧ (p3.toInt64.toInt < v_156.toInt ∨ (60 : Int64).toInt < p3.toInt64.toInt)) ∨ (r_158.toInt = 1 ∧ v_156.toInt ≤ p3.toInt64.toInt ∧ p3.toInt64.toInt ≤ (60 : Int64).toInt) := w_157
      have g_159 : Int64.toInt (60) = 60 := by decide
      refine lv_if_ne (tgt := 42) hx hb dX12_quota_33 (by decide) (fun c_160 => ?_) (fun c_160 => ?_)
      · have c_160 := kn_eq rfl (by decide : Int32.toInt 0 = 0) c_160
        exact J_42  _ _ _ hI hS (by first | omega | decide | exact Or.inl (by decide)) (lv_sub hl [0, 1, 2, 3] rfl)
      · have c_160 := kc_eq rfl (by decide : Int32.toInt 0 = 0) c_160
        exact J_36  _ _ _ hI hS  (lv_sub hl [0, 1, 2, 3] rfl)
theorem tw_1008 : q_g (.fieldLink RX12 26 "DeadlineShareModel" "images" "[J") := ⟨(List.mem_append_right _ (List.mem_of_getElem? (i := 1104) (by decide +kernel))), good_of_word (by decide +kernel)⟩
theorem tw_1009 : q_g (.fieldLink RX12 29 "DeadlineShareModel" "isKept" "[Z") := ⟨(List.mem_append_right _ (List.mem_of_getElem? (i := 1105) (by decide +kernel))), good_of_word (by decide +kernel)⟩
theorem tw_1010 : q_g (.code yX12_image cX12_image 3 (some .int)) := ⟨(List.mem_append_right _ (List.mem_of_getElem? (i := 1329) (by decide +kernel))), good_of_word (by decide +kernel)⟩
def ow_c_X12_image : List Cond := [.fieldLink RX12 67 "DeadlineShareModel" "thrown" "I", .methodLink RX12 83 yX12_in, .static yX12_in, .initialized RX12, .fieldLink RX12 29 "DeadlineShareModel" "isKept" "[Z", .fieldLink RX12 16 "DeadlineShareModel" "row" "[J", .methodLink RX12 80 yX12_tell, .instanceMethod yX12_tell, .selects RX12 yX12_tell yX12_tell, .fieldLink RX12 26 "DeadlineShareModel" "images" "[J", .methodLink RX12 76 yX12_refuse, .instanceMethod yX12_refuse, .selects RX12 yX12_refuse yX12_refuse]
def wq_c_X12_image : List Cond := .code yX12_image cX12_image 3 (some .int) :: (ow_c_X12_image ++ (u_ws RX12 TX12 27 ++ (wq_c_X12_in ++ (wq_c_X12_tell ++ (wq_c_X12_refuse ++ ([] : List Cond))))))
theorem tb_c_X12_image : ∀ w ∈ wq_c_X12_image, q_g w := by
  unfold wq_c_X12_image ow_c_X12_image
  exact q_cons tw_1010 (q_app (q_cons tw_927 (q_cons tw_730 (q_cons tw_729 (q_cons tw_728 (q_cons tw_1009 (q_cons tw_731 (q_cons tw_960 (q_cons tw_959 (q_cons tw_958 (q_cons tw_1008 (q_cons tw_966 (q_cons tw_965 (q_cons tw_964 q_nil))))))))))))) (q_app tu_X12 (q_app tb_c_X12_in (q_app tb_c_X12_tell (q_app tb_c_X12_refuse q_nil)))))
set_option maxHeartbeats 4000000 in
set_option maxRecDepth 100000 in
theorem c_X12_image (l : Launch) (dC : Nat → ClassId) (dI : Nat → Nat → Nat) (g : kG) (A : Nat → Prop) (hG : kWf g) (f : Nat → va_E) (h0 : Nat) (p1 : Int32) (z0 : Int32) (z1 : Int32) (z10 : Int32) (z12 : Int32) (z13 : Int32) (z14 : Int32) (z15 : Int32) (z16 : Int64) (z17 : Int32) (z18 : Int32) (z23 : Int32) (z24 : Int64) (z25 : Int64) (z26 : Int64) (q : Nat → Int64) (u : Nat → Int64) (im : Nat → Int64) (kt : Nat → Int32) (i_h0 : ik g 12 h0) (hc0 : f h0 = .inr (12, [.int z0, .int z1, .ref (gr g h0 2), .ref (gr g h0 3), .ref (gr g h0 4), .ref (gr g h0 5), .ref (gr g h0 6), .ref (gr g h0 7), .ref (gr g h0 8), .ref (gr g h0 9), .int z10, .ref (gr g h0 11), .int z12, .int z13, .int z14, .int z15, .long z16, .int z17, .int z18, .ref (gr g h0 19), .ref (gr g h0 20), .ref (gr g h0 21), .ref (gr g h0 22), .int z23, .long z24, .long z25, .long z26])) (hc0_10 : 0 ≤ z10.toInt ∧ z10.toInt ≤ 10) (hc0_12 : 0 ≤ z12.toInt ∧ z12.toInt ≤ 200) (hc0_23 : 0 ≤ z23.toInt ∧ z23.toInt ≤ 8) (hc1 : f (gr g h0 4) = .inl (gc g 1, 906, .inr (.inl q))) (hc1_ok : RowOK q) (hc2 : f (gr g h0 5) = .inl (gc g 1, 9060, .inr (.inl u))) (hc3 : f (gr g h0 7) = .inl (gc g 1, 1812, .inr (.inl im))) (hc4 : f (gr g h0 8) = .inl (gc g 3, 2, .inl kt)) (hU : UIq z10 u im kt) : Met l yX12_image wq_c_X12_image ({ frames := 1, cells := 0, slots := 0, locals := 25 } : Room) (va_Pc [.ref h0, .int p1] (fun U => kIn dC dI g A f U)) (va_Qi (fun (r : Int32) (_ : Unit) => True) (fun (_ : Unit) t => ∃ f1 : Nat → va_E, Iv dC dI g A f1 t.heap ∧ Kp g [12, 30, 35, 36] f f1 ∧ ∃ (w0 : Int32) (w1 : Int32) (w10 : Int32) (w12 : Int32) (w13 : Int32) (w14 : Int32) (w15 : Int32) (w16 : Int64) (w17 : Int32) (w18 : Int32) (w23 : Int32) (w24 : Int64) (w25 : Int64) (w26 : Int64) (q1 : Nat → Int64) (u1 : Nat → Int64) (im1 : Nat → Int64) (ik1 : Nat → Int32), (f1 h0 = .inr (12, [.int w0, .int w1, .ref (gr g h0 2), .ref (gr g h0 3), .ref (gr g h0 4), .ref (gr g h0 5), .ref (gr g h0 6), .ref (gr g h0 7), .ref (gr g h0 8), .ref (gr g h0 9), .int w10, .ref (gr g h0 11), .int w12, .int w13, .int w14, .int w15, .long w16, .int w17, .int w18, .ref (gr g h0 19), .ref (gr g h0 20), .ref (gr g h0 21), .ref (gr g h0 22), .int w23, .long w24, .long w25, .long w26])) ∧ (0 ≤ w10.toInt ∧ w10.toInt ≤ 10) ∧ (0 ≤ w12.toInt ∧ w12.toInt ≤ 200) ∧ (0 ≤ w23.toInt ∧ w23.toInt ≤ 8) ∧ (f1 (gr g h0 4) = .inl (gc g 1, 906, .inr (.inl q1))) ∧ (RowOK q1) ∧ (f1 (gr g h0 5) = .inl (gc g 1, 9060, .inr (.inl u1))) ∧ (f1 (gr g h0 7) = .inl (gc g 1, 1812, .inr (.inl im1))) ∧ (f1 (gr g h0 8) = .inl (gc g 3, 2, .inl ik1)) ∧ (UIq w10 u1 im1 ik1)) A) 0 0 A := by
  refine Met.ofW (cc := cX12_image) (maxL := 3) (ret := (some .int)) (by decide) rfl ?_
  intro p e s m args below meth c s₁ B hml hv
  obtain ⟨rfl, hI, hK, hE⟩ := hv
  have hx := B.exec
  have hb := B.bytes
  have hr := B.returns
  have hts := atoms_spec (ws := wq_c_X12_image) B.pre
  have hown : s.vm.findClass RX12 = some m.cls := findClass_of_methodNamed B.named
  have hlocks := B.notSynchronized
  have hS : va_S A s.heap s.heap [] := va_S.rf
  have hk0 : Kp g [12, 30, 35, 36] f f := Kp.rf
  have hl := lv_entry ([.ref h0, .int p1]) (n := 3) (Nat.le_of_ble_eq_true rfl)
  rw [lg_entry_eq]
  generalize (lg_sl ([.ref h0, .int p1]) ++ List.replicate (3 - (lg_sl ([.ref h0, .int p1])).length) Slot.unset).toArray = ls at hl ⊢
  have hl : lv_has ls 3 [(0, .ref h0), (1, .int p1)] := hl
  have i_1 := kw_12_4 hG i_h0
  have d_2 := rk_hd hc1_ok
  have i_3 := kw_12_5 hG i_h0
  have i_4 := kw_12_7 hG i_h0
  have i_5 := kw_12_8 hG i_h0
  refine lv_aload_n hx hb dX12_image_0 rfl (lv_at hl 0 rfl) ?_
  refine lv_iconst (v := 0) hx hb dX12_image_1 (by decide) ?_
  refine k_put (ci := 12) (v := .int 0) (ty := .int) (C := RX12) (T := TX12) (N := 27) hx hb hts (fun _ h0_ => List.mem_cons_of_mem _ (List.mem_append_right _ (List.mem_append_left _ h0_))) tyX12 tyX12_ok nmX12 hown hK hI hS i_h0.1 hc0 rfl 0 (by decide) (hts (.fieldLink RX12 67 "DeadlineShareModel" "thrown" "I") (List.mem_cons_of_mem _ (List.mem_append_left _ (List.mem_of_getElem? (i := 0) rfl)))) (fun _ h9 => h9) rfl (by decide +kernel) rfl rfl (Nat.le_of_ble_eq_true rfl) rfl (cl_12 i_h0 (by omega) (by omega) (by omega)) dX12_image_2 (fun f_6 H locs e_7 hI hS => ?_)
  have k_9 : f_6 h0 = .inr (12, [.int 0, .int z1, .ref (gr g h0 2), .ref (gr g h0 3), .ref (gr g h0 4), .ref (gr g h0 5), .ref (gr g h0 6), .ref (gr g h0 7), .ref (gr g h0 8), .ref (gr g h0 9), .int z10, .ref (gr g h0 11), .int z12, .int z13, .int z14, .int z15, .long z16, .int z17, .int z18, .ref (gr g h0 19), .ref (gr g h0 20), .ref (gr g h0 21), .ref (gr g h0 22), .int z23, .long z24, .long z25, .long z26]) := by rw [e_7]; exact va_up_self _ _ _
  have k_10 : f_6 (gr g h0 4) = .inl (gc g 1, 906, .inr (.inl q)) := by rw [e_7, va_up_ne _ _ (ik_ne i_1 i_h0 (by decide))]; exact hc1
  have k_11 : f_6 (gr g h0 5) = .inl (gc g 1, 9060, .inr (.inl u)) := by rw [e_7, va_up_ne _ _ (ik_ne i_3 i_h0 (by decide))]; exact hc2
  have k_12 : f_6 (gr g h0 7) = .inl (gc g 1, 1812, .inr (.inl im)) := by rw [e_7, va_up_ne _ _ (ik_ne i_4 i_h0 (by decide))]; exact hc3
  have k_13 : f_6 (gr g h0 8) = .inl (gc g 3, 2, .inl kt) := by rw [e_7, va_up_ne _ _ (ik_ne i_5 i_h0 (by decide))]; exact hc4
  have kp_8 := Kp.put hk0 i_h0 (by decide) e_7
  refine lv_iload_n hx hb dX12_image_5 rfl (lv_at hl 1 rfl) ?_
  refine lv_i2l (v := p1.toInt64) hx hb dX12_image_6 rfl ?_
  have t_14 := Int32.toInt_toInt64 p1
  have g_15 := Int32.toInt_lt p1
  have g_16 := Int32.le_toInt p1
  refine lv_lconst (v := 0) hx hb dX12_image_7 (by decide) ?_
  refine lv_lconst (v := 1) hx hb dX12_image_8 (by decide) ?_
  refine va_calli (va_runS (As := [.long p1.toInt64, .long 0, .long 1]) (rest := []) ⟨hx, hb, hml, hown, hts⟩ (c_X12_in l dC dI g A hG f_6 p1.toInt64 0 1) (va_cwS 3 hts (gi_S (fun w_ h0_ => ⟨List.mem_cons_of_mem _ (List.mem_append_right _ (List.mem_append_right _ (List.mem_append_left _ h0_))), (tb_c_X12_in w_ h0_).2⟩) (List.mem_cons_of_mem _ (List.mem_append_left _ (List.mem_of_getElem? (i := 1) rfl))) (List.mem_cons_of_mem _ (List.mem_append_left _ (List.mem_of_getElem? (i := 2) rfl))) (List.mem_cons_of_mem _ (List.mem_append_left _ (List.mem_of_getElem? (i := 3) rfl)))) rfl rfl rfl (by decide +kernel) ⟨Nat.le_of_ble_eq_true rfl, Nat.le_of_ble_eq_true rfl⟩) ⟨fun a U g mk q => ⟨q.1, q.2.calling rfl rfl⟩, fun U hU hW => ⟨rfl, kIn.of hI hK hE hS hU hW⟩⟩ rfl rfl hl.1 rfl (lv_room (Nat.le_of_ble_eq_true rfl)) dX12_image_9 ⟨Nat.le_of_ble_eq_true rfl, Nat.le_of_ble_eq_true rfl⟩) hS (fun q _ h => h) (fun q h => h) (fun r_18 u9 t H1 locs ht hvm w_17 hB hz1 hk1 hS => ?_)
  have hI : Iv dC dI g A f_6 t.heap := hB
  rw [ht] at hI
  generalize H1 = H at hI hS ⊢
  refine W.widen (k := 0) (n := 0) (Nat.le_of_ble_eq_true rfl) (Nat.le_of_ble_eq_true rfl) ?_
  have w_17 : (r_18.toInt = 0 ∧ (p1.toInt64.toInt < (0 : Int64).toInt ∨ (1 : Int64).toInt < p1.toInt64.toInt)) ∨ (r_18.toInt = 1 ∧ (0 : Int64).toInt ≤ p1.toInt64.toInt ∧ p1.toInt64.toInt ≤ (1 : Int64).toInt) := w_17
  have g_19 : Int64.toInt (0) = 0 := by decide
  have g_20 : Int64.toInt (1) = 1 := by decide
  refine lv_if_ne (tgt := 21) hx hb dX12_image_12 (by decide) (fun c_21 => ?_) (fun c_21 => ?_)
  · have c_21 := kn_eq rfl (by decide : Int32.toInt 0 = 0) c_21
    obtain ⟨m_22, em_22, tm_22⟩ := k_nat (x := p1) (by omega)
    refine lv_iconst (v := 0) hx hb dX12_image_21 (by decide) ?_
    refine lv_istore_n (lv' := [(2, .int 0), (0, .ref h0), (1, .int p1)]) hx hb dX12_image_22 rfl hl (by decide) rfl (fun ls hl => ?_)
    have K_23 : ∀ (nn : Nat) (y_23 : Nat) (q_25 : Nat → Int64) (f_24 : Nat → va_E) (H : Heap) (locs : List Loc) (ls : Array Slot), 906 - y_23 < nn → Iv dC dI g A f_24 H → va_S A s.heap H locs → f_24 (gr g h0 7) = .inl (gc g 1, 1812, .inr (.inl q_25)) → f_24 h0 = .inr (12, [.int 0, .int z1, .ref (gr g h0 2), .ref (gr g h0 3), .ref (gr g h0 4), .ref (gr g h0 5), .ref (gr g h0 6), .ref (gr g h0 7), .ref (gr g h0 8), .ref (gr g h0 9), .int z10, .ref (gr g h0 11), .int z12, .int z13, .int z14, .int z15, .long z16, .int z17, .int z18, .ref (gr g h0 19), .ref (gr g h0 20), .ref (gr g h0 21), .ref (gr g h0 22), .int z23, .long z24, .long z25, .long z26]) → f_24 (gr g h0 4) = .inl (gc g 1, 906, .inr (.inl q)) → f_24 (gr g h0 5) = .inl (gc g 1, 9060, .inr (.inl u)) → f_24 (gr g h0 8) = .inl (gc g 3, 2, .inl kt) → Kp g [12, 30, 35, 36] f f_24 → (y_23 ≤ 906) → (∀ j : Nat, j < y_23 → q_25 (906 * m_22 + j) = q j) → (∀ j : Nat, (j < 906 * m_22 ∨ 906 * m_22 + 906 ≤ j) → q_25 j = im j) → lv_has ls 3 [(2, .int (nI y_23)), (0, .ref h0), (1, .int p1)] → W p l e (headSpec wq_c_X12_image ({ frames := 1, cells := 0, slots := 0, locals := 25 } : Room)).room s m ([.ref h0, .int p1].toArray) below meth c H locs 0 0 (MQ below (va_Qi (fun (r : Int32) (_ : Unit) => True) (fun (_ : Unit) t => ∃ f1 : Nat → va_E, Iv dC dI g A f1 t.heap ∧ Kp g [12, 30, 35, 36] f f1 ∧ ∃ (w0 : Int32) (w1 : Int32) (w10 : Int32) (w12 : Int32) (w13 : Int32) (w14 : Int32) (w15 : Int32) (w16 : Int64) (w17 : Int32) (w18 : Int32) (w23 : Int32) (w24 : Int64) (w25 : Int64) (w26 : Int64) (q1 : Nat → Int64) (u1 : Nat → Int64) (im1 : Nat → Int64) (ik1 : Nat → Int32), (f1 h0 = .inr (12, [.int w0, .int w1, .ref (gr g h0 2), .ref (gr g h0 3), .ref (gr g h0 4), .ref (gr g h0 5), .ref (gr g h0 6), .ref (gr g h0 7), .ref (gr g h0 8), .ref (gr g h0 9), .int w10, .ref (gr g h0 11), .int w12, .int w13, .int w14, .int w15, .long w16, .int w17, .int w18, .ref (gr g h0 19), .ref (gr g h0 20), .ref (gr g h0 21), .ref (gr g h0 22), .int w23, .long w24, .long w25, .long w26])) ∧ (0 ≤ w10.toInt ∧ w10.toInt ≤ 10) ∧ (0 ≤ w12.toInt ∧ w12.toInt ≤ 200) ∧ (0 ≤ w23.toInt ∧ w23.toInt ≤ 8) ∧ (f1 (gr g h0 4) = .inl (gc g 1, 906, .inr (.inl q1))) ∧ (RowOK q1) ∧ (f1 (gr g h0 5) = .inl (gc g 1, 9060, .inr (.inl u1))) ∧ (f1 (gr g h0 7) = .inl (gc g 1, 1812, .inr (.inl im1))) ∧ (f1 (gr g h0 8) = .inl (gc g 3, 2, .inl ik1)) ∧ (UIq w10 u1 im1 ik1)) A) ([.ref h0, .int p1].toArray) s 0 0 A) (F0 m 23 ls []) := by
      intro nn
      induction nn with
      | zero => intro y_23 q_25 f_24 H locs ls m_35; exact absurd m_35 (Nat.not_lt_zero _)
      | succ nn ih =>
        intro y_23 q_25 f_24 H locs ls m_35 hI hS k_26 k_27 k_28 k_29 k_30 kp_31 t_32 t_33 t_34 hl
        refine lv_iload_n hx hb dX12_image_23 rfl (lv_at hl 0 rfl) ?_
        refine lv_sipush (v := 906) hx hb dX12_image_24 (by decide) ?_
        refine lv_icmp_ge (tgt := 54) hx hb dX12_image_27 (by decide) (fun c_36 => ?_) (fun c_36 => ?_)
        · have c_36 := kc_le (by decide : Int32.toInt 906 = 906) (nI_toInt (n := y_23) (by omega)) c_36
          refine lv_aload_n hx hb dX12_image_54 rfl (lv_at hl 1 rfl) ?_
          refine k_get (ci := 12) (v := .ref (gr g h0 8)) (C := RX12) (T := TX12) (N := 27) hx hb hts (fun _ h0_ => List.mem_cons_of_mem _ (List.mem_append_right _ (List.mem_append_left _ h0_))) hown hK hI i_h0.1 k_27 rfl 8 (by decide) (hts (.fieldLink RX12 29 "DeadlineShareModel" "isKept" "[Z") (List.mem_cons_of_mem _ (List.mem_append_left _ (List.mem_of_getElem? (i := 4) rfl)))) (fun _ h9 => h9) rfl dX12_image_55 ?_
          refine lv_iload_n hx hb dX12_image_58 rfl (lv_at hl 2 rfl) ?_
          refine k_topi (y := nI m_22) em_22 ?_
          refine lv_iconst (v := 1) hx hb dX12_image_59 (by decide) ?_
          refine k_zast hx hb hK hI hS i_5.1 3 k_30 rfl (vp_in_nI (by omega) (by omega)) (cl_36 i_5) dX12_image_60 (fun f_39 H locs e_40 hI hS => ?_)
          generalize eq_41 : upd kt (Int32.toNatClampNeg (nI m_22)) (vp_nar .boolean 1) = q_41 at e_40
          have k_43 : f_39 (gr g h0 7) = .inl (gc g 1, 1812, .inr (.inl q_25)) := by rw [e_40, va_up_ne _ _ (ik_ne i_4 i_5 (by decide))]; exact k_26
          have k_44 : f_39 h0 = .inr (12, [.int 0, .int z1, .ref (gr g h0 2), .ref (gr g h0 3), .ref (gr g h0 4), .ref (gr g h0 5), .ref (gr g h0 6), .ref (gr g h0 7), .ref (gr g h0 8), .ref (gr g h0 9), .int z10, .ref (gr g h0 11), .int z12, .int z13, .int z14, .int z15, .long z16, .int z17, .int z18, .ref (gr g h0 19), .ref (gr g h0 20), .ref (gr g h0 21), .ref (gr g h0 22), .int z23, .long z24, .long z25, .long z26]) := by rw [e_40, va_up_ne _ _ (ik_ne i_h0 i_5 (by decide))]; exact k_27
          have k_45 : f_39 (gr g h0 4) = .inl (gc g 1, 906, .inr (.inl q)) := by rw [e_40, va_up_ne _ _ (ik_ne i_1 i_5 (by decide))]; exact k_28
          have k_46 : f_39 (gr g h0 5) = .inl (gc g 1, 9060, .inr (.inl u)) := by rw [e_40, va_up_ne _ _ (ik_ne i_3 i_5 (by decide))]; exact k_29
          have k_47 : f_39 (gr g h0 8) = .inl (gc g 3, 2, .inl q_41) := by rw [e_40]; exact va_up_self _ _ _
          have kp_42 := Kp.put kp_31 i_5 (by decide) e_40
          refine lv_aload_n hx hb dX12_image_61 rfl (lv_at hl 1 rfl) ?_
          refine lv_aload_n hx hb dX12_image_62 rfl (lv_at hl 1 rfl) ?_
          refine k_get (ci := 12) (v := .ref (gr g h0 4)) (C := RX12) (T := TX12) (N := 27) hx hb hts (fun _ h0_ => List.mem_cons_of_mem _ (List.mem_append_right _ (List.mem_append_left _ h0_))) hown hK hI i_h0.1 k_44 rfl 4 (by decide) (hts (.fieldLink RX12 16 "DeadlineShareModel" "row" "[J") (List.mem_cons_of_mem _ (List.mem_append_left _ (List.mem_of_getElem? (i := 5) rfl)))) (fun _ h9 => h9) rfl dX12_image_63 ?_
          refine lv_iconst (v := 1) hx hb dX12_image_66 (by decide) ?_
          refine k_lald hx hb hK hI i_1.1 1 k_45 rfl (by unfold vp_in; decide) dX12_image_67 ?_
          refine k_topl (y := q 1) (congrArg q (show Int32.toNatClampNeg 1 = 1 by decide)) ?_
          refine lv_l2i (v := (q 1).toInt32) hx hb dX12_image_68 rfl ?_
          refine lv_topi (fun v_50 ev_50 => ?_)
          have tv_50 := k_l2i (q 1)
          rw [← ev_50] at tv_50
          refine va_calli (va_runV (As := [.int v_50]) (rest := []) ⟨hx, hb, hml, hown, hts⟩ (c_X12_tell l dC dI g A hG f_39 h0 v_50 0 z1 z10 z12 z13 z14 z15 z16 z17 z18 z23 z24 z25 z26 i_h0 k_44 (by first | omega | (simp only [k_c0]; omega)) (by first | omega | (simp only [k_c0]; omega)) (by first | omega | (simp only [k_c0]; omega))) (cwV 1 hts (gi_V (fun w_ h0_ => ⟨List.mem_cons_of_mem _ (List.mem_append_right _ (List.mem_append_right _ (List.mem_append_right _ (List.mem_append_left _ h0_)))), (tb_c_X12_tell w_ h0_).2⟩) (List.mem_cons_of_mem _ (List.mem_append_left _ (List.mem_of_getElem? (i := 6) rfl))) (List.mem_cons_of_mem _ (List.mem_append_left _ (List.mem_of_getElem? (i := 7) rfl))) (List.mem_cons_of_mem _ (List.mem_append_left _ (List.mem_of_getElem? (i := 8) rfl))) (List.mem_cons_of_mem _ (List.mem_append_left _ (List.mem_of_getElem? (i := 3) rfl)))) rfl rfl rfl (by decide +kernel) ⟨Nat.le_of_ble_eq_true rfl, Nat.le_of_ble_eq_true rfl⟩) ⟨fun a U g mk q => ⟨q.1, q.2.calling rfl rfl⟩, k_recv hK hI i_h0.1 k_44 (ci := 12) rfl, fun U hU hW => ⟨rfl, kIn.of hI hK hE hS hU hW⟩⟩ rfl rfl hl.1 rfl (lv_room (Nat.le_of_ble_eq_true rfl)) dX12_image_69 ⟨Nat.le_of_ble_eq_true rfl, Nat.le_of_ble_eq_true rfl⟩) hS (fun q _ h => h) (fun q h => h) (fun r_53 u9 t H1 locs ht hvm w_52 hB hz1 hk1 hS => ?_)
          obtain ⟨f_51, hI, kc_54, k_55⟩ := hB
          rw [ht] at hI
          have k_56 : f_51 (gr g h0 7) = .inl (gc g 1, 1812, .inr (.inl q_25)) := Kp.at kc_54 i_4 (by decide) k_43
          have k_57 : f_51 (gr g h0 4) = .inl (gc g 1, 906, .inr (.inl q)) := Kp.at kc_54 i_1 (by decide) k_45
          have k_58 : f_51 (gr g h0 5) = .inl (gc g 1, 9060, .inr (.inl u)) := Kp.at kc_54 i_3 (by decide) k_46
          have k_59 : f_51 (gr g h0 8) = .inl (gc g 3, 2, .inl q_41) := Kp.at kc_54 i_5 (by decide) k_47
          have k_55 : f_51 h0 = .inr (12, [.int (0 : Int32), .int 0, .ref (gr g h0 2), .ref (gr g h0 3), .ref (gr g h0 4), .ref (gr g h0 5), .ref (gr g h0 6), .ref (gr g h0 7), .ref (gr g h0 8), .ref (gr g h0 9), .int z10, .ref (gr g h0 11), .int z12, .int z13, .int z14, .int z15, .long z16, .int z17, .int z18, .ref (gr g h0 19), .ref (gr g h0 20), .ref (gr g h0 21), .ref (gr g h0 22), .int z23, .long z24, .long z25, .long z26]) := k_55
          have kp_60 := Kp.call kp_42 kc_54 (by decide)
          generalize H1 = H at hI hS ⊢
          refine W.widen (k := 0) (n := 0) (Nat.le_of_ble_eq_true rfl) (Nat.le_of_ble_eq_true rfl) ?_
          have w_52 : r_53.toInt = v_50.toInt := w_52
          exact W.iret (v := r_53) hx hb hr (fun t ht hW => ⟨⟨r_53, (), rfl, trivial, ⟨f_51, k_ret ht hI, kp_60, (0 : Int32), 0, z10, z12, z13, z14, z15, z16, z17, z18, z23, z24, z25, z26, q, u, q_25, q_41, k_55, (by first | omega | decide), (by first | omega | decide), (by first | omega | decide), k_57, hc1_ok, k_58, k_56, k_59, (ui_image hU hc1_ok (fun j9 h9 => t_33 j9 (by omega)) (fun j9 h9 => t_34 j9 h9) (fun k9 h9 => by rw [← eq_41, nI_clamp (by omega)]; exact pk_un h9))⟩⟩, hS.F ht⟩) hS.2.2 dX12_image_72
        · have c_36 := kn_le (by decide : Int32.toInt 906 = 906) (nI_toInt (n := y_23) (by omega)) c_36
          refine lv_aload_n hx hb dX12_image_30 rfl (lv_at hl 1 rfl) ?_
          refine k_get (ci := 12) (v := .ref (gr g h0 7)) (C := RX12) (T := TX12) (N := 27) hx hb hts (fun _ h0_ => List.mem_cons_of_mem _ (List.mem_append_right _ (List.mem_append_left _ h0_))) hown hK hI i_h0.1 k_27 rfl 7 (by decide) (hts (.fieldLink RX12 26 "DeadlineShareModel" "images" "[J") (List.mem_cons_of_mem _ (List.mem_append_left _ (List.mem_of_getElem? (i := 9) rfl)))) (fun _ h9 => h9) rfl dX12_image_31 ?_
          refine lv_sipush (v := 906) hx hb dX12_image_34 (by decide) ?_
          refine lv_iload_n hx hb dX12_image_37 rfl (lv_at hl 2 rfl) ?_
          refine k_topi (y := nI m_22) em_22 ?_
          refine lv_imul hx hb dX12_image_38 ?_
          refine k_topi (y := nI (906 * m_22)) ((pk_mul 906 m_22).trans (congrArg nI (by omega))) ?_
          refine lv_iload_n hx hb dX12_image_39 rfl (lv_at hl 0 rfl) ?_
          refine lv_iadd hx hb dX12_image_40 ?_
          refine k_topi (y := nI (906 * m_22 + y_23)) ((nI_add (906 * m_22) y_23).trans (congrArg nI (by omega))) ?_
          refine lv_aload_n hx hb dX12_image_41 rfl (lv_at hl 1 rfl) ?_
          refine k_get (ci := 12) (v := .ref (gr g h0 4)) (C := RX12) (T := TX12) (N := 27) hx hb hts (fun _ h0_ => List.mem_cons_of_mem _ (List.mem_append_right _ (List.mem_append_left _ h0_))) hown hK hI i_h0.1 k_27 rfl 4 (by decide) (hts (.fieldLink RX12 16 "DeadlineShareModel" "row" "[J") (List.mem_cons_of_mem _ (List.mem_append_left _ (List.mem_of_getElem? (i := 5) rfl)))) (fun _ h9 => h9) rfl dX12_image_42 ?_
          refine lv_iload_n hx hb dX12_image_45 rfl (lv_at hl 0 rfl) ?_
          refine k_lald hx hb hK hI i_1.1 1 k_28 rfl (vp_in_nI (by omega) (by omega)) dX12_image_46 ?_
          refine k_topl (y := q y_23) (congrArg q (nI_clamp (by omega))) ?_
          refine k_last hx hb hK hI hS i_4.1 1 k_26 rfl (vp_in_nI (by omega) (by omega)) (cl_35 i_4) dX12_image_47 (fun f_65 H locs e_66 hI hS => ?_)
          generalize eq_67 : vp_updL q_25 (Int32.toNatClampNeg (nI (906 * m_22 + y_23))) (q y_23) = q_67 at e_66
          have k_69 : f_65 (gr g h0 7) = .inl (gc g 1, 1812, .inr (.inl q_67)) := by rw [e_66]; exact va_up_self _ _ _
          have k_70 : f_65 h0 = .inr (12, [.int 0, .int z1, .ref (gr g h0 2), .ref (gr g h0 3), .ref (gr g h0 4), .ref (gr g h0 5), .ref (gr g h0 6), .ref (gr g h0 7), .ref (gr g h0 8), .ref (gr g h0 9), .int z10, .ref (gr g h0 11), .int z12, .int z13, .int z14, .int z15, .long z16, .int z17, .int z18, .ref (gr g h0 19), .ref (gr g h0 20), .ref (gr g h0 21), .ref (gr g h0 22), .int z23, .long z24, .long z25, .long z26]) := by rw [e_66, va_up_ne _ _ (ik_ne i_h0 i_4 (by decide))]; exact k_27
          have k_71 : f_65 (gr g h0 4) = .inl (gc g 1, 906, .inr (.inl q)) := by rw [e_66, va_up_ne _ _ (ik_ne i_1 i_4 (by decide))]; exact k_28
          have k_72 : f_65 (gr g h0 5) = .inl (gc g 1, 9060, .inr (.inl u)) := by rw [e_66, va_up_ne _ _ (ik_ne i_3 i_4 (by decide))]; exact k_29
          have k_73 : f_65 (gr g h0 8) = .inl (gc g 3, 2, .inl kt) := by rw [e_66, va_up_ne _ _ (ik_ne i_5 i_4 (by decide))]; exact k_30
          have kp_68 := Kp.put kp_31 i_4 (by decide) e_66
          have u_74 : vp_updL q_25 (906 * m_22 + y_23) (q y_23) = q_67 := by rw [← eq_67, show Int32.toNatClampNeg (nI (906 * m_22 + y_23)) = 906 * m_22 + y_23 from (nI_clamp (by omega))]
          refine lv_iinc (v := nI (y_23 + 1)) (lv' := [(2, .int (nI (y_23 + 1))), (0, .ref h0), (1, .int p1)]) hx hb dX12_image_48 hl (k := 0) rfl (nI_1 _) (by decide) rfl (fun ls hl => ?_)
          refine lv_goto (tgt := 23) hx hb dX12_image_51 (by decide) ?_
          exact ih (y_23 + 1) q_67 f_65 _ _ _ (by omega) hI hS k_69 k_70 k_71 k_72 k_73 kp_68 (by first | omega | decide | exact Or.inl (by decide)) (fun j9 h9 => by rw [← u_74]; exact if h8 : j9 = y_23 then (by subst h8; exact pk_uLs) else (by rw [pk_uLn (by omega)]; exact t_33 j9 (by omega))) (fun j9 h9 => by rw [← u_74, pk_uLn (by omega)]; exact t_34 j9 h9) (lv_sub hl [0, 1, 2] rfl)
    exact K_23 _ 0 im f_6 _ _ _ (Nat.lt_succ_self _) hI hS k_12 k_9 k_10 k_11 k_13 kp_8 (by first | omega | decide | exact Or.inl (by decide)) (fun j9 h9 => absurd h9 (Nat.not_lt_zero j9)) (fun j9 h9 => rfl) (lv_sub hl [0, 1, 2] rfl)
  · have c_21 := kc_eq rfl (by decide : Int32.toInt 0 = 0) c_21
    refine lv_aload_n hx hb dX12_image_15 rfl (lv_at hl 0 rfl) ?_
    refine lv_iconst (v := (-1)) hx hb dX12_image_16 (by decide) ?_
    refine va_calli (va_runV (As := [.int (-1)]) (rest := []) ⟨hx, hb, hml, hown, hts⟩ (c_X12_refuse l dC dI g A hG f_6 h0 (-1) 0 z1 z10 z12 z13 z14 z15 z16 z17 z18 z23 z24 z25 z26 i_h0 k_9 (by first | omega | (simp only [k_c0]; omega)) (by first | omega | (simp only [k_c0]; omega)) (by first | omega | (simp only [k_c0]; omega)) (by first | omega | decide | (simp only [show Int32.toInt (-1) = (-1) from by decide] <;> omega))) (cwV 1 hts (gi_V (fun w_ h0_ => ⟨List.mem_cons_of_mem _ (List.mem_append_right _ (List.mem_append_right _ (List.mem_append_right _ (List.mem_append_right _ (List.mem_append_left _ h0_))))), (tb_c_X12_refuse w_ h0_).2⟩) (List.mem_cons_of_mem _ (List.mem_append_left _ (List.mem_of_getElem? (i := 10) rfl))) (List.mem_cons_of_mem _ (List.mem_append_left _ (List.mem_of_getElem? (i := 11) rfl))) (List.mem_cons_of_mem _ (List.mem_append_left _ (List.mem_of_getElem? (i := 12) rfl))) (List.mem_cons_of_mem _ (List.mem_append_left _ (List.mem_of_getElem? (i := 3) rfl)))) rfl rfl rfl (by decide +kernel) ⟨Nat.le_of_ble_eq_true rfl, Nat.le_of_ble_eq_true rfl⟩) ⟨fun a U g mk q => ⟨q.1, q.2.calling rfl rfl⟩, k_recv hK hI i_h0.1 k_9 (ci := 12) rfl, fun U hU hW => ⟨rfl, kIn.of hI hK hE hS hU hW⟩⟩ rfl rfl hl.1 rfl (lv_room (Nat.le_of_ble_eq_true rfl)) dX12_image_17 ⟨Nat.le_of_ble_eq_true rfl, Nat.le_of_ble_eq_true rfl⟩) hS (fun q _ h => h) (fun q h => h) (fun r_77 u9 t H1 locs ht hvm w_76 hB hz1 hk1 hS => ?_)
    obtain ⟨f_75, hI, kc_78, k_79⟩ := hB
    rw [ht] at hI
    have k_80 : f_75 (gr g h0 4) = .inl (gc g 1, 906, .inr (.inl q)) := Kp.at kc_78 i_1 (by decide) k_10
    have k_81 : f_75 (gr g h0 5) = .inl (gc g 1, 9060, .inr (.inl u)) := Kp.at kc_78 i_3 (by decide) k_11
    have k_82 : f_75 (gr g h0 7) = .inl (gc g 1, 1812, .inr (.inl im)) := Kp.at kc_78 i_4 (by decide) k_12
    have k_83 : f_75 (gr g h0 8) = .inl (gc g 3, 2, .inl kt) := Kp.at kc_78 i_5 (by decide) k_13
    have k_79 : f_75 h0 = .inr (12, [.int (0 : Int32), .int (-1 : Int32), .ref (gr g h0 2), .ref (gr g h0 3), .ref (gr g h0 4), .ref (gr g h0 5), .ref (gr g h0 6), .ref (gr g h0 7), .ref (gr g h0 8), .ref (gr g h0 9), .int z10, .ref (gr g h0 11), .int z12, .int z13, .int z14, .int z15, .long z16, .int z17, .int z18, .ref (gr g h0 19), .ref (gr g h0 20), .ref (gr g h0 21), .ref (gr g h0 22), .int z23, .long z24, .long z25, .long z26]) := k_79
    have kp_84 := Kp.call kp_8 kc_78 (by decide)
    generalize H1 = H at hI hS ⊢
    refine W.widen (k := 0) (n := 0) (Nat.le_of_ble_eq_true rfl) (Nat.le_of_ble_eq_true rfl) ?_
    have w_76 : r_77.toInt = (-1 : Int32).toInt := w_76
    have g_85 : Int32.toInt ((-1)) = (-1) := by decide
    exact W.iret (v := r_77) hx hb hr (fun t ht hW => ⟨⟨r_77, (), rfl, trivial, ⟨f_75, k_ret ht hI, kp_84, (0 : Int32), (-1 : Int32), z10, z12, z13, z14, z15, z16, z17, z18, z23, z24, z25, z26, q, u, im, kt, k_79, (by first | omega | decide), (by first | omega | decide), (by first | omega | decide), k_80, hc1_ok, k_81, k_82, k_83, hU⟩⟩, hS.F ht⟩) hS.2.2 dX12_image_20
