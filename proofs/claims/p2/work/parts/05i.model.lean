theorem tw_935 : q_g (.code yX12_tape cX12_tape 2 (some .int)) := ⟨(List.mem_append_right _ (List.mem_of_getElem? (i := 1216) (by decide +kernel))), good_of_word (by decide +kernel)⟩
def ow_c_X12_tape : List Cond := [.fieldLink RX12 67 "DeadlineShareModel" "thrown" "I", .fieldLink RX12 128 "DeadlineShareModel" "taped" "I", .methodLink RX12 83 yX12_in, .static yX12_in, .initialized RX12, .fieldLink RX12 36 "DeadlineShareModel" "tape" "[I"]
def wq_c_X12_tape : List Cond := .code yX12_tape cX12_tape 2 (some .int) :: (ow_c_X12_tape ++ (u_ws RX12 TX12 27 ++ (wq_c_X12_in ++ ([] : List Cond))))
theorem tb_c_X12_tape : ∀ w ∈ wq_c_X12_tape, q_g w := by
  unfold wq_c_X12_tape ow_c_X12_tape
  exact q_cons tw_935 (q_app (q_cons tw_927 (q_cons tw_809 (q_cons tw_730 (q_cons tw_729 (q_cons tw_728 (q_cons tw_810 q_nil)))))) (q_app tu_X12 (q_app tb_c_X12_in q_nil)))
set_option maxHeartbeats 4000000 in
set_option maxRecDepth 100000 in
theorem c_X12_tape (l : Launch) (dC : Nat → ClassId) (dI : Nat → Nat → Nat) (g : kG) (A : Nat → Prop) (hG : kWf g) (f : Nat → va_E) (h0 : Nat) (p1 : Int32) (z0 : Int32) (z1 : Int32) (z10 : Int32) (z12 : Int32) (z13 : Int32) (z14 : Int32) (z15 : Int32) (z16 : Int64) (z17 : Int32) (z18 : Int32) (z23 : Int32) (z24 : Int64) (z25 : Int64) (z26 : Int64) (q : Nat → Int64) (u : Nat → Int64) (im : Nat → Int64) (kt : Nat → Int32) (i_h0 : ik g 12 h0) (hc0 : f h0 = .inr (12, [.int z0, .int z1, .ref (gr g h0 2), .ref (gr g h0 3), .ref (gr g h0 4), .ref (gr g h0 5), .ref (gr g h0 6), .ref (gr g h0 7), .ref (gr g h0 8), .ref (gr g h0 9), .int z10, .ref (gr g h0 11), .int z12, .int z13, .int z14, .int z15, .long z16, .int z17, .int z18, .ref (gr g h0 19), .ref (gr g h0 20), .ref (gr g h0 21), .ref (gr g h0 22), .int z23, .long z24, .long z25, .long z26])) (hc0_10 : 0 ≤ z10.toInt ∧ z10.toInt ≤ 10) (hc0_12 : 0 ≤ z12.toInt ∧ z12.toInt ≤ 200) (hc0_23 : 0 ≤ z23.toInt ∧ z23.toInt ≤ 8) (hc1 : f (gr g h0 4) = .inl (gc g 1, 906, .inr (.inl q))) (hc1_ok : RowOK q) (hc2 : f (gr g h0 5) = .inl (gc g 1, 9060, .inr (.inl u))) (hc3 : f (gr g h0 7) = .inl (gc g 1, 1812, .inr (.inl im))) (hc4 : f (gr g h0 8) = .inl (gc g 3, 2, .inl kt)) (hU : UIq z10 u im kt) : Met l yX12_tape wq_c_X12_tape ({ frames := 1, cells := 0, slots := 0, locals := 25 } : Room) (va_Pc [.ref h0, .int p1] (fun U => kIn dC dI g A f U)) (va_Qi (fun (r : Int32) (_ : Unit) => True) (fun (_ : Unit) t => ∃ f1 : Nat → va_E, Iv dC dI g A f1 t.heap ∧ Kp g [12] f f1 ∧ ∃ (w0 : Int32) (w1 : Int32) (w10 : Int32) (w12 : Int32) (w13 : Int32) (w14 : Int32) (w15 : Int32) (w16 : Int64) (w17 : Int32) (w18 : Int32) (w23 : Int32) (w24 : Int64) (w25 : Int64) (w26 : Int64) (q1 : Nat → Int64) (u1 : Nat → Int64) (im1 : Nat → Int64) (ik1 : Nat → Int32), (f1 h0 = .inr (12, [.int w0, .int w1, .ref (gr g h0 2), .ref (gr g h0 3), .ref (gr g h0 4), .ref (gr g h0 5), .ref (gr g h0 6), .ref (gr g h0 7), .ref (gr g h0 8), .ref (gr g h0 9), .int w10, .ref (gr g h0 11), .int w12, .int w13, .int w14, .int w15, .long w16, .int w17, .int w18, .ref (gr g h0 19), .ref (gr g h0 20), .ref (gr g h0 21), .ref (gr g h0 22), .int w23, .long w24, .long w25, .long w26])) ∧ (0 ≤ w10.toInt ∧ w10.toInt ≤ 10) ∧ (0 ≤ w12.toInt ∧ w12.toInt ≤ 200) ∧ (0 ≤ w23.toInt ∧ w23.toInt ≤ 8) ∧ (f1 (gr g h0 4) = .inl (gc g 1, 906, .inr (.inl q1))) ∧ (RowOK q1) ∧ (f1 (gr g h0 5) = .inl (gc g 1, 9060, .inr (.inl u1))) ∧ (f1 (gr g h0 7) = .inl (gc g 1, 1812, .inr (.inl im1))) ∧ (f1 (gr g h0 8) = .inl (gc g 3, 2, .inl ik1)) ∧ (UIq w10 u1 im1 ik1)) A) 0 0 A := by
  refine Met.ofW (cc := cX12_tape) (maxL := 2) (ret := (some .int)) (by decide) rfl ?_
  intro p e s m args below meth c s₁ B hml hv
  obtain ⟨rfl, hI, hK, hE⟩ := hv
  have hx := B.exec
  have hb := B.bytes
  have hr := B.returns
  have hts := atoms_spec (ws := wq_c_X12_tape) B.pre
  have hown : s.vm.findClass RX12 = some m.cls := findClass_of_methodNamed B.named
  have hlocks := B.notSynchronized
  have hS : va_S A s.heap s.heap [] := va_S.rf
  have hk0 : Kp g [12] f f := Kp.rf
  have hl := lv_entry ([.ref h0, .int p1]) (n := 2) (Nat.le_of_ble_eq_true rfl)
  rw [lg_entry_eq]
  generalize (lg_sl ([.ref h0, .int p1]) ++ List.replicate (2 - (lg_sl ([.ref h0, .int p1])).length) Slot.unset).toArray = ls at hl ⊢
  have hl : lv_has ls 2 [(0, .ref h0), (1, .int p1)] := hl
  have i_1 := kw_12_4 hG i_h0
  have d_2 := rk_hd hc1_ok
  have i_3 := kw_12_5 hG i_h0
  have i_4 := kw_12_7 hG i_h0
  have i_5 := kw_12_8 hG i_h0
  refine lv_aload_n hx hb dX12_tape_0 rfl (lv_at hl 0 rfl) ?_
  refine lv_iconst (v := 0) hx hb dX12_tape_1 (by decide) ?_
  refine k_put (ci := 12) (v := .int 0) (ty := .int) (C := RX12) (T := TX12) (N := 27) hx hb hts (fun _ h0_ => List.mem_cons_of_mem _ (List.mem_append_right _ (List.mem_append_left _ h0_))) tyX12 tyX12_ok nmX12 hown hK hI hS i_h0.1 hc0 rfl 0 (by decide) (hts (.fieldLink RX12 67 "DeadlineShareModel" "thrown" "I") (List.mem_cons_of_mem _ (List.mem_append_left _ (List.mem_of_getElem? (i := 0) rfl)))) (fun _ h9 => h9) rfl (by decide +kernel) rfl rfl (Nat.le_of_ble_eq_true rfl) rfl (cl_12 i_h0 (by omega) (by omega) (by omega)) dX12_tape_2 (fun f_6 H locs e_7 hI hS => ?_)
  have k_9 : f_6 h0 = .inr (12, [.int 0, .int z1, .ref (gr g h0 2), .ref (gr g h0 3), .ref (gr g h0 4), .ref (gr g h0 5), .ref (gr g h0 6), .ref (gr g h0 7), .ref (gr g h0 8), .ref (gr g h0 9), .int z10, .ref (gr g h0 11), .int z12, .int z13, .int z14, .int z15, .long z16, .int z17, .int z18, .ref (gr g h0 19), .ref (gr g h0 20), .ref (gr g h0 21), .ref (gr g h0 22), .int z23, .long z24, .long z25, .long z26]) := by rw [e_7]; exact va_up_self _ _ _
  have k_10 : f_6 (gr g h0 4) = .inl (gc g 1, 906, .inr (.inl q)) := by rw [e_7, va_up_ne _ _ (ik_ne i_1 i_h0 (by decide))]; exact hc1
  have k_11 : f_6 (gr g h0 5) = .inl (gc g 1, 9060, .inr (.inl u)) := by rw [e_7, va_up_ne _ _ (ik_ne i_3 i_h0 (by decide))]; exact hc2
  have k_12 : f_6 (gr g h0 7) = .inl (gc g 1, 1812, .inr (.inl im)) := by rw [e_7, va_up_ne _ _ (ik_ne i_4 i_h0 (by decide))]; exact hc3
  have k_13 : f_6 (gr g h0 8) = .inl (gc g 3, 2, .inl kt) := by rw [e_7, va_up_ne _ _ (ik_ne i_5 i_h0 (by decide))]; exact hc4
  have kp_8 := Kp.put hk0 i_h0 (by decide) e_7
  refine lv_iload_n hx hb dX12_tape_5 rfl (lv_at hl 1 rfl) ?_
  refine lv_i2l (v := p1.toInt64) hx hb dX12_tape_6 rfl ?_
  have t_14 := Int32.toInt_toInt64 p1
  have g_15 := Int32.toInt_lt p1
  have g_16 := Int32.le_toInt p1
  refine lv_lconst (v := 0) hx hb dX12_tape_7 (by decide) ?_
  refine lv_aload_n hx hb dX12_tape_8 rfl (lv_at hl 0 rfl) ?_
  refine k_get (ci := 12) (v := .int z12) (C := RX12) (T := TX12) (N := 27) hx hb hts (fun _ h0_ => List.mem_cons_of_mem _ (List.mem_append_right _ (List.mem_append_left _ h0_))) hown hK hI i_h0.1 k_9 rfl 12 (by decide) (hts (.fieldLink RX12 128 "DeadlineShareModel" "taped" "I") (List.mem_cons_of_mem _ (List.mem_append_left _ (List.mem_of_getElem? (i := 1) rfl)))) (fun _ h9 => h9) rfl dX12_tape_9 ?_
  refine lv_i2l (v := z12.toInt64) hx hb dX12_tape_12 rfl ?_
  have t_17 := Int32.toInt_toInt64 z12
  have g_18 := Int32.toInt_lt z12
  have g_19 := Int32.le_toInt z12
  refine lv_lconst (v := 1) hx hb dX12_tape_13 (by decide) ?_
  refine lv_lsub hx hb dX12_tape_14 ?_
  refine lv_topl (fun v_20 ev_20 => ?_)
  have tv_20 := l_sb z12.toInt64 1
  rw [← ev_20, show Int64.toInt 1 = 1 from by decide] at tv_20
  refine va_calli (va_runS (As := [.long p1.toInt64, .long 0, .long v_20]) (rest := []) ⟨hx, hb, hml, hown, hts⟩ (c_X12_in l dC dI g A hG f_6 p1.toInt64 0 v_20) (va_cwS 3 hts (gi_S (fun w_ h0_ => ⟨List.mem_cons_of_mem _ (List.mem_append_right _ (List.mem_append_right _ (List.mem_append_left _ h0_))), (tb_c_X12_in w_ h0_).2⟩) (List.mem_cons_of_mem _ (List.mem_append_left _ (List.mem_of_getElem? (i := 2) rfl))) (List.mem_cons_of_mem _ (List.mem_append_left _ (List.mem_of_getElem? (i := 3) rfl))) (List.mem_cons_of_mem _ (List.mem_append_left _ (List.mem_of_getElem? (i := 4) rfl)))) rfl rfl rfl (by decide +kernel) ⟨Nat.le_of_ble_eq_true rfl, Nat.le_of_ble_eq_true rfl⟩) ⟨fun a U g mk q => ⟨q.1, q.2.calling rfl rfl⟩, fun U hU hW => ⟨rfl, kIn.of hI hK hE hS hU hW⟩⟩ rfl rfl hl.1 rfl (lv_room (Nat.le_of_ble_eq_true rfl)) dX12_tape_15 ⟨Nat.le_of_ble_eq_true rfl, Nat.le_of_ble_eq_true rfl⟩) hS (fun q _ h => h) (fun q h => h) (fun r_22 u9 t H1 locs ht hvm w_21 hB hz1 hk1 hS => ?_)
  have hI : Iv dC dI g A f_6 t.heap := hB
  rw [ht] at hI
  generalize H1 = H at hI hS ⊢
  refine W.widen (k := 0) (n := 0) (Nat.le_of_ble_eq_true rfl) (Nat.le_of_ble_eq_true rfl) ?_
  have w_21 : (r_22.toInt = 0 ∧ (p1.toInt64.toInt < (0 : Int64).toInt ∨ v_20.toInt < p1.toInt64.toInt)) ∨ (r_22.toInt = 1 ∧ (0 : Int64).toInt ≤ p1.toInt64.toInt ∧ p1.toInt64.toInt ≤ v_20.toInt) := w_21
  have g_23 : Int64.toInt (0) = 0 := by decide
  refine lv_if_eq (tgt := 30) hx hb dX12_tape_18 (by decide) (fun c_24 => ?_) (fun c_24 => ?_)
  · have c_24 := kc_eq rfl (by decide : Int32.toInt 0 = 0) c_24
    refine lv_iconst (v := (-1)) hx hb dX12_tape_30 (by decide) ?_
    exact W.iret (v := (-1)) hx hb hr (fun t ht hW => ⟨⟨(-1), (), rfl, trivial, ⟨f_6, k_ret ht hI, kp_8, 0, z1, z10, z12, z13, z14, z15, z16, z17, z18, z23, z24, z25, z26, q, u, im, kt, k_9, (by first | omega | decide), (by first | omega | decide), (by first | omega | decide), k_10, hc1_ok, k_11, k_12, k_13, hU⟩⟩, hS.F ht⟩) hS.2.2 dX12_tape_31
  · have c_24 := kn_eq rfl (by decide : Int32.toInt 0 = 0) c_24
    refine lv_aload_n hx hb dX12_tape_21 rfl (lv_at hl 0 rfl) ?_
    refine k_get (ci := 12) (v := .ref (gr g h0 11)) (C := RX12) (T := TX12) (N := 27) hx hb hts (fun _ h0_ => List.mem_cons_of_mem _ (List.mem_append_right _ (List.mem_append_left _ h0_))) hown hK hI i_h0.1 k_9 rfl 11 (by decide) (hts (.fieldLink RX12 36 "DeadlineShareModel" "tape" "[I") (List.mem_cons_of_mem _ (List.mem_append_left _ (List.mem_of_getElem? (i := 5) rfl)))) (fun _ h9 => h9) rfl dX12_tape_22 ?_
    have i_26 := kw_12_11 hG i_h0
    refine lv_iload_n hx hb dX12_tape_25 rfl (lv_at hl 1 rfl) ?_
    obtain ⟨q_28, k_27⟩ := op_38 hI i_26
    refine k_iald hx hb hK hI i_26.1 0 k_27 rfl (vp_in_iff.mpr (by omega)) dX12_tape_26 ?_
    refine lv_topi (fun v_29 ev_29 => ?_)
    refine lv_goto (tgt := 31) hx hb dX12_tape_27 (by decide) ?_
    exact W.iret (v := v_29) hx hb hr (fun t ht hW => ⟨⟨v_29, (), rfl, trivial, ⟨f_6, k_ret ht hI, kp_8, 0, z1, z10, z12, z13, z14, z15, z16, z17, z18, z23, z24, z25, z26, q, u, im, kt, k_9, (by first | omega | decide), (by first | omega | decide), (by first | omega | decide), k_10, hc1_ok, k_11, k_12, k_13, hU⟩⟩, hS.F ht⟩) hS.2.2 dX12_tape_31
theorem tw_936 : q_g (.constantLong RX12 340 (13)) := ⟨(List.mem_append_right _ (List.mem_of_getElem? (i := 1550) (by decide +kernel))), good_of_word (by decide +kernel)⟩
theorem tw_937 : q_g (.selects RX12 yX12_scripted yX12_scripted) := ⟨(List.mem_append_left _ (List.mem_of_getElem? (i := 67) (by decide +kernel))), good_of_word (by decide +kernel)⟩
theorem tw_938 : q_g (.instanceMethod yX12_scripted) := ⟨(List.mem_append_right _ (List.mem_of_getElem? (i := 1548) (by decide +kernel))), good_of_word (by decide +kernel)⟩
theorem tw_939 : q_g (.methodLink RX12 337 yX12_scripted) := ⟨(List.mem_append_right _ (List.mem_of_getElem? (i := 1546) (by decide +kernel))), good_of_word (by decide +kernel)⟩
theorem tw_940 : q_g (.selects RX12 yX12_inState yX12_inState) := ⟨(List.mem_append_left _ (List.mem_of_getElem? (i := 66) (by decide +kernel))), good_of_word (by decide +kernel)⟩
theorem tw_941 : q_g (.instanceMethod yX12_inState) := ⟨(List.mem_append_right _ (List.mem_of_getElem? (i := 1544) (by decide +kernel))), good_of_word (by decide +kernel)⟩
theorem tw_942 : q_g (.methodLink RX12 334 yX12_inState) := ⟨(List.mem_append_right _ (List.mem_of_getElem? (i := 1542) (by decide +kernel))), good_of_word (by decide +kernel)⟩
theorem tw_943 : q_g (.code yX12_count cX12_count 2 (some .int)) := ⟨(List.mem_append_right _ (List.mem_of_getElem? (i := 1541) (by decide +kernel))), good_of_word (by decide +kernel)⟩
def ow_c_X12_count : List Cond := [.fieldLink RX12 67 "DeadlineShareModel" "thrown" "I", .fieldLink RX12 16 "DeadlineShareModel" "row" "[J", .methodLink RX12 334 yX12_inState, .instanceMethod yX12_inState, .selects RX12 yX12_inState yX12_inState, .initialized RX12, .methodLink RX12 337 yX12_scripted, .instanceMethod yX12_scripted, .selects RX12 yX12_scripted yX12_scripted, .fieldLink RX12 73 "DeadlineShareModel" "nUndo" "I", .fieldLink RX12 128 "DeadlineShareModel" "taped" "I", .fieldLink RX12 7 "DeadlineShareModel" "refusals" "[I", .constantLong RX12 340 (13), .constantLong RX12 304 (15), .methodLink RX12 83 yX12_in, .static yX12_in, .fieldLink RX12 13 "DeadlineShareModel" "term" "[I"]
def wq_c_X12_count : List Cond := .code yX12_count cX12_count 2 (some .int) :: (ow_c_X12_count ++ (u_ws RX12 TX12 27 ++ (wq_c_X12_inState ++ (wq_c_X12_scripted ++ (wq_c_X12_in ++ ([] : List Cond))))))
theorem tb_c_X12_count : ∀ w ∈ wq_c_X12_count, q_g w := by
  unfold wq_c_X12_count ow_c_X12_count
  exact q_cons tw_943 (q_app (q_cons tw_927 (q_cons tw_731 (q_cons tw_942 (q_cons tw_941 (q_cons tw_940 (q_cons tw_728 (q_cons tw_939 (q_cons tw_938 (q_cons tw_937 (q_cons tw_901 (q_cons tw_809 (q_cons tw_725 (q_cons tw_936 (q_cons tw_915 (q_cons tw_730 (q_cons tw_729 (q_cons tw_762 q_nil))))))))))))))))) (q_app tu_X12 (q_app tb_c_X12_inState (q_app tb_c_X12_scripted (q_app tb_c_X12_in q_nil)))))
set_option maxHeartbeats 4000000 in
set_option maxRecDepth 100000 in
theorem c_X12_count (l : Launch) (dC : Nat → ClassId) (dI : Nat → Nat → Nat) (g : kG) (A : Nat → Prop) (hG : kWf g) (f : Nat → va_E) (h0 : Nat) (p1 : Int32) (z0 : Int32) (z1 : Int32) (z10 : Int32) (z12 : Int32) (z13 : Int32) (z14 : Int32) (z15 : Int32) (z16 : Int64) (z17 : Int32) (z18 : Int32) (z23 : Int32) (z24 : Int64) (z25 : Int64) (z26 : Int64) (q : Nat → Int64) (u : Nat → Int64) (im : Nat → Int64) (kt : Nat → Int32) (i_h0 : ik g 12 h0) (hc0 : f h0 = .inr (12, [.int z0, .int z1, .ref (gr g h0 2), .ref (gr g h0 3), .ref (gr g h0 4), .ref (gr g h0 5), .ref (gr g h0 6), .ref (gr g h0 7), .ref (gr g h0 8), .ref (gr g h0 9), .int z10, .ref (gr g h0 11), .int z12, .int z13, .int z14, .int z15, .long z16, .int z17, .int z18, .ref (gr g h0 19), .ref (gr g h0 20), .ref (gr g h0 21), .ref (gr g h0 22), .int z23, .long z24, .long z25, .long z26])) (hc0_10 : 0 ≤ z10.toInt ∧ z10.toInt ≤ 10) (hc0_12 : 0 ≤ z12.toInt ∧ z12.toInt ≤ 200) (hc0_23 : 0 ≤ z23.toInt ∧ z23.toInt ≤ 8) (hc1 : f (gr g h0 4) = .inl (gc g 1, 906, .inr (.inl q))) (hc1_ok : RowOK q) (hc2 : f (gr g h0 5) = .inl (gc g 1, 9060, .inr (.inl u))) (hc3 : f (gr g h0 7) = .inl (gc g 1, 1812, .inr (.inl im))) (hc4 : f (gr g h0 8) = .inl (gc g 3, 2, .inl kt)) (hU : UIq z10 u im kt) : Met l yX12_count wq_c_X12_count ({ frames := 2, cells := 0, slots := 0, locals := 43 } : Room) (va_Pc [.ref h0, .int p1] (fun U => kIn dC dI g A f U)) (va_Qi (fun (r : Int32) (_ : Unit) => True) (fun (_ : Unit) t => ∃ f1 : Nat → va_E, Iv dC dI g A f1 t.heap ∧ Kp g [12] f f1 ∧ ∃ (w0 : Int32) (w1 : Int32) (w10 : Int32) (w12 : Int32) (w13 : Int32) (w14 : Int32) (w15 : Int32) (w16 : Int64) (w17 : Int32) (w18 : Int32) (w23 : Int32) (w24 : Int64) (w25 : Int64) (w26 : Int64) (q1 : Nat → Int64) (u1 : Nat → Int64) (im1 : Nat → Int64) (ik1 : Nat → Int32), (f1 h0 = .inr (12, [.int w0, .int w1, .ref (gr g h0 2), .ref (gr g h0 3), .ref (gr g h0 4), .ref (gr g h0 5), .ref (gr g h0 6), .ref (gr g h0 7), .ref (gr g h0 8), .ref (gr g h0 9), .int w10, .ref (gr g h0 11), .int w12, .int w13, .int w14, .int w15, .long w16, .int w17, .int w18, .ref (gr g h0 19), .ref (gr g h0 20), .ref (gr g h0 21), .ref (gr g h0 22), .int w23, .long w24, .long w25, .long w26])) ∧ (0 ≤ w10.toInt ∧ w10.toInt ≤ 10) ∧ (0 ≤ w12.toInt ∧ w12.toInt ≤ 200) ∧ (0 ≤ w23.toInt ∧ w23.toInt ≤ 8) ∧ (f1 (gr g h0 4) = .inl (gc g 1, 906, .inr (.inl q1))) ∧ (RowOK q1) ∧ (f1 (gr g h0 5) = .inl (gc g 1, 9060, .inr (.inl u1))) ∧ (f1 (gr g h0 7) = .inl (gc g 1, 1812, .inr (.inl im1))) ∧ (f1 (gr g h0 8) = .inl (gc g 3, 2, .inl ik1)) ∧ (UIq w10 u1 im1 ik1)) A) 0 0 A := by
  refine Met.ofW (cc := cX12_count) (maxL := 2) (ret := (some .int)) (by decide) rfl ?_
  intro p e s m args below meth c s₁ B hml hv
  obtain ⟨rfl, hI, hK, hE⟩ := hv
  have hx := B.exec
  have hb := B.bytes
  have hr := B.returns
  have hts := atoms_spec (ws := wq_c_X12_count) B.pre
  have hown : s.vm.findClass RX12 = some m.cls := findClass_of_methodNamed B.named
  have hlocks := B.notSynchronized
  have hS : va_S A s.heap s.heap [] := va_S.rf
  have hk0 : Kp g [12] f f := Kp.rf
  have hl := lv_entry ([.ref h0, .int p1]) (n := 2) (Nat.le_of_ble_eq_true rfl)
  rw [lg_entry_eq]
  generalize (lg_sl ([.ref h0, .int p1]) ++ List.replicate (2 - (lg_sl ([.ref h0, .int p1])).length) Slot.unset).toArray = ls at hl ⊢
  have hl : lv_has ls 2 [(0, .ref h0), (1, .int p1)] := hl
  have i_1 := kw_12_4 hG i_h0
  have d_2 := rk_hd hc1_ok
  have i_3 := kw_12_5 hG i_h0
  have i_4 := kw_12_7 hG i_h0
  have i_5 := kw_12_8 hG i_h0
  refine lv_aload_n hx hb dX12_count_0 rfl (lv_at hl 0 rfl) ?_
  refine lv_iconst (v := 0) hx hb dX12_count_1 (by decide) ?_
  refine k_put (ci := 12) (v := .int 0) (ty := .int) (C := RX12) (T := TX12) (N := 27) hx hb hts (fun _ h0_ => List.mem_cons_of_mem _ (List.mem_append_right _ (List.mem_append_left _ h0_))) tyX12 tyX12_ok nmX12 hown hK hI hS i_h0.1 hc0 rfl 0 (by decide) (hts (.fieldLink RX12 67 "DeadlineShareModel" "thrown" "I") (List.mem_cons_of_mem _ (List.mem_append_left _ (List.mem_of_getElem? (i := 0) rfl)))) (fun _ h9 => h9) rfl (by decide +kernel) rfl rfl (Nat.le_of_ble_eq_true rfl) rfl (cl_12 i_h0 (by omega) (by omega) (by omega)) dX12_count_2 (fun f_6 H locs e_7 hI hS => ?_)
  have k_9 : f_6 h0 = .inr (12, [.int 0, .int z1, .ref (gr g h0 2), .ref (gr g h0 3), .ref (gr g h0 4), .ref (gr g h0 5), .ref (gr g h0 6), .ref (gr g h0 7), .ref (gr g h0 8), .ref (gr g h0 9), .int z10, .ref (gr g h0 11), .int z12, .int z13, .int z14, .int z15, .long z16, .int z17, .int z18, .ref (gr g h0 19), .ref (gr g h0 20), .ref (gr g h0 21), .ref (gr g h0 22), .int z23, .long z24, .long z25, .long z26]) := by rw [e_7]; exact va_up_self _ _ _
  have k_10 : f_6 (gr g h0 4) = .inl (gc g 1, 906, .inr (.inl q)) := by rw [e_7, va_up_ne _ _ (ik_ne i_1 i_h0 (by decide))]; exact hc1
  have k_11 : f_6 (gr g h0 5) = .inl (gc g 1, 9060, .inr (.inl u)) := by rw [e_7, va_up_ne _ _ (ik_ne i_3 i_h0 (by decide))]; exact hc2
  have k_12 : f_6 (gr g h0 7) = .inl (gc g 1, 1812, .inr (.inl im)) := by rw [e_7, va_up_ne _ _ (ik_ne i_4 i_h0 (by decide))]; exact hc3
  have k_13 : f_6 (gr g h0 8) = .inl (gc g 3, 2, .inl kt) := by rw [e_7, va_up_ne _ _ (ik_ne i_5 i_h0 (by decide))]; exact hc4
  have kp_8 := Kp.put hk0 i_h0 (by decide) e_7
  refine lv_iload_n hx hb dX12_count_5 rfl (lv_at hl 1 rfl) ?_
  by_cases h_14 : p1 = 0
  · refine k_topi (y := 0) h_14 ?_
    refine lv_tableIn (tgt := 72) hx hb dX12_count_6 (by decide) (by decide) rfl (by decide) ?_
    have h_14 := kc_eq rfl (by decide : Int32.toInt 0 = 0) h_14
    refine lv_aload_n hx hb dX12_count_72 rfl (lv_at hl 0 rfl) ?_
    refine k_get (ci := 12) (v := .ref (gr g h0 4)) (C := RX12) (T := TX12) (N := 27) hx hb hts (fun _ h0_ => List.mem_cons_of_mem _ (List.mem_append_right _ (List.mem_append_left _ h0_))) hown hK hI i_h0.1 k_9 rfl 4 (by decide) (hts (.fieldLink RX12 16 "DeadlineShareModel" "row" "[J") (List.mem_cons_of_mem _ (List.mem_append_left _ (List.mem_of_getElem? (i := 1) rfl)))) (fun _ h9 => h9) rfl dX12_count_73 ?_
    refine lv_iconst (v := 0) hx hb dX12_count_76 (by decide) ?_
    refine k_lald hx hb hK hI i_1.1 1 k_10 rfl (by unfold vp_in; decide) dX12_count_77 ?_
    refine k_topl (y := q 0) (congrArg q (show Int32.toNatClampNeg 0 = 0 by decide)) ?_
    refine lv_l2i (v := (q 0).toInt32) hx hb dX12_count_78 rfl ?_
    refine lv_topi (fun v_17 ev_17 => ?_)
    have tv_17 := k_l2i (q 0)
    rw [← ev_17] at tv_17
    exact W.iret (v := v_17) hx hb hr (fun t ht hW => ⟨⟨v_17, (), rfl, trivial, ⟨f_6, k_ret ht hI, kp_8, 0, z1, z10, z12, z13, z14, z15, z16, z17, z18, z23, z24, z25, z26, q, u, im, kt, k_9, (by first | omega | decide), (by first | omega | decide), (by first | omega | decide), k_10, hc1_ok, k_11, k_12, k_13, hU⟩⟩, hS.F ht⟩) hS.2.2 dX12_count_79
  by_cases h_18 : p1 = 1
  · refine k_topi (y := 1) h_18 ?_
    refine lv_tableIn (tgt := 80) hx hb dX12_count_6 (by decide) (by decide) rfl (by decide) ?_
    have h_18 := kc_eq rfl (by decide : Int32.toInt 1 = 1) h_18
    refine lv_aload_n hx hb dX12_count_80 rfl (lv_at hl 0 rfl) ?_
    refine lv_iconst (v := 1) hx hb dX12_count_81 (by decide) ?_
    refine va_calli (va_runV (As := [.int 1]) (rest := []) ⟨hx, hb, hml, hown, hts⟩ (c_X12_inState l dC dI g A hG f_6 h0 1 q i_h0 k_10 hc1_ok) (cwV 1 hts (gi_V (fun w_ h0_ => ⟨List.mem_cons_of_mem _ (List.mem_append_right _ (List.mem_append_right _ (List.mem_append_left _ h0_))), (tb_c_X12_inState w_ h0_).2⟩) (List.mem_cons_of_mem _ (List.mem_append_left _ (List.mem_of_getElem? (i := 2) rfl))) (List.mem_cons_of_mem _ (List.mem_append_left _ (List.mem_of_getElem? (i := 3) rfl))) (List.mem_cons_of_mem _ (List.mem_append_left _ (List.mem_of_getElem? (i := 4) rfl))) (List.mem_cons_of_mem _ (List.mem_append_left _ (List.mem_of_getElem? (i := 5) rfl)))) rfl rfl rfl (by decide +kernel) ⟨Nat.le_of_ble_eq_true rfl, Nat.le_of_ble_eq_true rfl⟩) ⟨fun a U g mk q => ⟨q.1, q.2.calling rfl rfl⟩, k_recv hK hI i_h0.1 k_9 (ci := 12) rfl, fun U hU hW => ⟨rfl, kIn.of hI hK hE hS hU hW⟩⟩ rfl rfl hl.1 rfl (lv_room (Nat.le_of_ble_eq_true rfl)) dX12_count_82 ⟨Nat.le_of_ble_eq_true rfl, Nat.le_of_ble_eq_true rfl⟩) hS (fun q _ h => h) (fun q h => h) (fun r_20 u9 t H1 locs ht hvm w_19 hB hz1 hk1 hS => ?_)
    have hI : Iv dC dI g A f_6 t.heap := hB
    rw [ht] at hI
    generalize H1 = H at hI hS ⊢
    refine W.widen (k := 0) (n := 0) (Nat.le_of_ble_eq_true rfl) (Nat.le_of_ble_eq_true rfl) ?_
    exact W.iret (v := r_20) hx hb hr (fun t ht hW => ⟨⟨r_20, (), rfl, trivial, ⟨f_6, k_ret ht hI, kp_8, 0, z1, z10, z12, z13, z14, z15, z16, z17, z18, z23, z24, z25, z26, q, u, im, kt, k_9, (by first | omega | decide), (by first | omega | decide), (by first | omega | decide), k_10, hc1_ok, k_11, k_12, k_13, hU⟩⟩, hS.F ht⟩) hS.2.2 dX12_count_85
  by_cases h_21 : p1 = 2
  · refine k_topi (y := 2) h_21 ?_
    refine lv_tableIn (tgt := 86) hx hb dX12_count_6 (by decide) (by decide) rfl (by decide) ?_
    have h_21 := kc_eq rfl (by decide : Int32.toInt 2 = 2) h_21
    refine lv_aload_n hx hb dX12_count_86 rfl (lv_at hl 0 rfl) ?_
    refine lv_iconst (v := 2) hx hb dX12_count_87 (by decide) ?_
    refine va_calli (va_runV (As := [.int 2]) (rest := []) ⟨hx, hb, hml, hown, hts⟩ (c_X12_inState l dC dI g A hG f_6 h0 2 q i_h0 k_10 hc1_ok) (cwV 1 hts (gi_V (fun w_ h0_ => ⟨List.mem_cons_of_mem _ (List.mem_append_right _ (List.mem_append_right _ (List.mem_append_left _ h0_))), (tb_c_X12_inState w_ h0_).2⟩) (List.mem_cons_of_mem _ (List.mem_append_left _ (List.mem_of_getElem? (i := 2) rfl))) (List.mem_cons_of_mem _ (List.mem_append_left _ (List.mem_of_getElem? (i := 3) rfl))) (List.mem_cons_of_mem _ (List.mem_append_left _ (List.mem_of_getElem? (i := 4) rfl))) (List.mem_cons_of_mem _ (List.mem_append_left _ (List.mem_of_getElem? (i := 5) rfl)))) rfl rfl rfl (by decide +kernel) ⟨Nat.le_of_ble_eq_true rfl, Nat.le_of_ble_eq_true rfl⟩) ⟨fun a U g mk q => ⟨q.1, q.2.calling rfl rfl⟩, k_recv hK hI i_h0.1 k_9 (ci := 12) rfl, fun U hU hW => ⟨rfl, kIn.of hI hK hE hS hU hW⟩⟩ rfl rfl hl.1 rfl (lv_room (Nat.le_of_ble_eq_true rfl)) dX12_count_88 ⟨Nat.le_of_ble_eq_true rfl, Nat.le_of_ble_eq_true rfl⟩) hS (fun q _ h => h) (fun q h => h) (fun r_23 u9 t H1 locs ht hvm w_22 hB hz1 hk1 hS => ?_)
    have hI : Iv dC dI g A f_6 t.heap := hB
    rw [ht] at hI
    generalize H1 = H at hI hS ⊢
    refine W.widen (k := 0) (n := 0) (Nat.le_of_ble_eq_true rfl) (Nat.le_of_ble_eq_true rfl) ?_
    exact W.iret (v := r_23) hx hb hr (fun t ht hW => ⟨⟨r_23, (), rfl, trivial, ⟨f_6, k_ret ht hI, kp_8, 0, z1, z10, z12, z13, z14, z15, z16, z17, z18, z23, z24, z25, z26, q, u, im, kt, k_9, (by first | omega | decide), (by first | omega | decide), (by first | omega | decide), k_10, hc1_ok, k_11, k_12, k_13, hU⟩⟩, hS.F ht⟩) hS.2.2 dX12_count_91
  by_cases h_24 : p1 = 3
  · refine k_topi (y := 3) h_24 ?_
    refine lv_tableIn (tgt := 92) hx hb dX12_count_6 (by decide) (by decide) rfl (by decide) ?_
    have h_24 := kc_eq rfl (by decide : Int32.toInt 3 = 3) h_24
    refine lv_aload_n hx hb dX12_count_92 rfl (lv_at hl 0 rfl) ?_
    refine va_calli (va_runV (As := []) (rest := []) ⟨hx, hb, hml, hown, hts⟩ (c_X12_scripted l dC dI g A hG f_6 h0 q i_h0 k_10 hc1_ok) (cwV 0 hts (gi_V (fun w_ h0_ => ⟨List.mem_cons_of_mem _ (List.mem_append_right _ (List.mem_append_right _ (List.mem_append_right _ (List.mem_append_left _ h0_)))), (tb_c_X12_scripted w_ h0_).2⟩) (List.mem_cons_of_mem _ (List.mem_append_left _ (List.mem_of_getElem? (i := 6) rfl))) (List.mem_cons_of_mem _ (List.mem_append_left _ (List.mem_of_getElem? (i := 7) rfl))) (List.mem_cons_of_mem _ (List.mem_append_left _ (List.mem_of_getElem? (i := 8) rfl))) (List.mem_cons_of_mem _ (List.mem_append_left _ (List.mem_of_getElem? (i := 5) rfl)))) rfl rfl rfl (by decide +kernel) ⟨Nat.le_of_ble_eq_true rfl, Nat.le_of_ble_eq_true rfl⟩) ⟨fun a U g mk q => ⟨q.1, q.2.calling rfl rfl⟩, k_recv hK hI i_h0.1 k_9 (ci := 12) rfl, fun U hU hW => ⟨rfl, kIn.of hI hK hE hS hU hW⟩⟩ rfl rfl hl.1 rfl (lv_room (Nat.le_of_ble_eq_true rfl)) dX12_count_93 ⟨Nat.le_of_ble_eq_true rfl, Nat.le_of_ble_eq_true rfl⟩) hS (fun q _ h => h) (fun q h => h) (fun r_26 u9 t H1 locs ht hvm w_25 hB hz1 hk1 hS => ?_)
    have hI : Iv dC dI g A f_6 t.heap := hB
    rw [ht] at hI
    generalize H1 = H at hI hS ⊢
    refine W.widen (k := 0) (n := 0) (Nat.le_of_ble_eq_true rfl) (Nat.le_of_ble_eq_true rfl) ?_
    exact W.iret (v := r_26) hx hb hr (fun t ht hW => ⟨⟨r_26, (), rfl, trivial, ⟨f_6, k_ret ht hI, kp_8, 0, z1, z10, z12, z13, z14, z15, z16, z17, z18, z23, z24, z25, z26, q, u, im, kt, k_9, (by first | omega | decide), (by first | omega | decide), (by first | omega | decide), k_10, hc1_ok, k_11, k_12, k_13, hU⟩⟩, hS.F ht⟩) hS.2.2 dX12_count_96
  by_cases h_27 : p1 = 4
  · refine k_topi (y := 4) h_27 ?_
    refine lv_tableIn (tgt := 97) hx hb dX12_count_6 (by decide) (by decide) rfl (by decide) ?_
    have h_27 := kc_eq rfl (by decide : Int32.toInt 4 = 4) h_27
    refine lv_aload_n hx hb dX12_count_97 rfl (lv_at hl 0 rfl) ?_
    refine k_get (ci := 12) (v := .ref (gr g h0 4)) (C := RX12) (T := TX12) (N := 27) hx hb hts (fun _ h0_ => List.mem_cons_of_mem _ (List.mem_append_right _ (List.mem_append_left _ h0_))) hown hK hI i_h0.1 k_9 rfl 4 (by decide) (hts (.fieldLink RX12 16 "DeadlineShareModel" "row" "[J") (List.mem_cons_of_mem _ (List.mem_append_left _ (List.mem_of_getElem? (i := 1) rfl)))) (fun _ h9 => h9) rfl dX12_count_98 ?_
    refine lv_iconst (v := 3) hx hb dX12_count_101 (by decide) ?_
    refine k_lald hx hb hK hI i_1.1 1 k_10 rfl (by unfold vp_in; decide) dX12_count_102 ?_
    refine k_topl (y := q 3) (congrArg q (show Int32.toNatClampNeg 3 = 3 by decide)) ?_
    refine lv_l2i (v := (q 3).toInt32) hx hb dX12_count_103 rfl ?_
    refine lv_topi (fun v_30 ev_30 => ?_)
    have tv_30 := k_l2i (q 3)
    rw [← ev_30] at tv_30
    exact W.iret (v := v_30) hx hb hr (fun t ht hW => ⟨⟨v_30, (), rfl, trivial, ⟨f_6, k_ret ht hI, kp_8, 0, z1, z10, z12, z13, z14, z15, z16, z17, z18, z23, z24, z25, z26, q, u, im, kt, k_9, (by first | omega | decide), (by first | omega | decide), (by first | omega | decide), k_10, hc1_ok, k_11, k_12, k_13, hU⟩⟩, hS.F ht⟩) hS.2.2 dX12_count_104
  by_cases h_31 : p1 = 5
  · refine k_topi (y := 5) h_31 ?_
    refine lv_tableIn (tgt := 105) hx hb dX12_count_6 (by decide) (by decide) rfl (by decide) ?_
    have h_31 := kc_eq rfl (by decide : Int32.toInt 5 = 5) h_31
    refine lv_aload_n hx hb dX12_count_105 rfl (lv_at hl 0 rfl) ?_
    refine k_get (ci := 12) (v := .ref (gr g h0 4)) (C := RX12) (T := TX12) (N := 27) hx hb hts (fun _ h0_ => List.mem_cons_of_mem _ (List.mem_append_right _ (List.mem_append_left _ h0_))) hown hK hI i_h0.1 k_9 rfl 4 (by decide) (hts (.fieldLink RX12 16 "DeadlineShareModel" "row" "[J") (List.mem_cons_of_mem _ (List.mem_append_left _ (List.mem_of_getElem? (i := 1) rfl)))) (fun _ h9 => h9) rfl dX12_count_106 ?_
    refine lv_iconst (v := 5) hx hb dX12_count_109 (by decide) ?_
    refine k_lald hx hb hK hI i_1.1 1 k_10 rfl (by unfold vp_in; decide) dX12_count_110 ?_
    refine k_topl (y := q 5) (congrArg q (show Int32.toNatClampNeg 5 = 5 by decide)) ?_
    refine lv_l2i (v := (q 5).toInt32) hx hb dX12_count_111 rfl ?_
    refine lv_topi (fun v_34 ev_34 => ?_)
    have tv_34 := k_l2i (q 5)
    rw [← ev_34] at tv_34
    exact W.iret (v := v_34) hx hb hr (fun t ht hW => ⟨⟨v_34, (), rfl, trivial, ⟨f_6, k_ret ht hI, kp_8, 0, z1, z10, z12, z13, z14, z15, z16, z17, z18, z23, z24, z25, z26, q, u, im, kt, k_9, (by first | omega | decide), (by first | omega | decide), (by first | omega | decide), k_10, hc1_ok, k_11, k_12, k_13, hU⟩⟩, hS.F ht⟩) hS.2.2 dX12_count_112
  by_cases h_35 : p1 = 6
  · refine k_topi (y := 6) h_35 ?_
    refine lv_tableIn (tgt := 113) hx hb dX12_count_6 (by decide) (by decide) rfl (by decide) ?_
    have h_35 := kc_eq rfl (by decide : Int32.toInt 6 = 6) h_35
    refine lv_aload_n hx hb dX12_count_113 rfl (lv_at hl 0 rfl) ?_
    refine k_get (ci := 12) (v := .int z10) (C := RX12) (T := TX12) (N := 27) hx hb hts (fun _ h0_ => List.mem_cons_of_mem _ (List.mem_append_right _ (List.mem_append_left _ h0_))) hown hK hI i_h0.1 k_9 rfl 10 (by decide) (hts (.fieldLink RX12 73 "DeadlineShareModel" "nUndo" "I") (List.mem_cons_of_mem _ (List.mem_append_left _ (List.mem_of_getElem? (i := 9) rfl)))) (fun _ h9 => h9) rfl dX12_count_114 ?_
    exact W.iret (v := z10) hx hb hr (fun t ht hW => ⟨⟨z10, (), rfl, trivial, ⟨f_6, k_ret ht hI, kp_8, 0, z1, z10, z12, z13, z14, z15, z16, z17, z18, z23, z24, z25, z26, q, u, im, kt, k_9, (by first | omega | decide), (by first | omega | decide), (by first | omega | decide), k_10, hc1_ok, k_11, k_12, k_13, hU⟩⟩, hS.F ht⟩) hS.2.2 dX12_count_117
  by_cases h_36 : p1 = 7
  · refine k_topi (y := 7) h_36 ?_
    refine lv_tableIn (tgt := 118) hx hb dX12_count_6 (by decide) (by decide) rfl (by decide) ?_
    have h_36 := kc_eq rfl (by decide : Int32.toInt 7 = 7) h_36
    refine lv_aload_n hx hb dX12_count_118 rfl (lv_at hl 0 rfl) ?_
    refine k_get (ci := 12) (v := .int z12) (C := RX12) (T := TX12) (N := 27) hx hb hts (fun _ h0_ => List.mem_cons_of_mem _ (List.mem_append_right _ (List.mem_append_left _ h0_))) hown hK hI i_h0.1 k_9 rfl 12 (by decide) (hts (.fieldLink RX12 128 "DeadlineShareModel" "taped" "I") (List.mem_cons_of_mem _ (List.mem_append_left _ (List.mem_of_getElem? (i := 10) rfl)))) (fun _ h9 => h9) rfl dX12_count_119 ?_
    exact W.iret (v := z12) hx hb hr (fun t ht hW => ⟨⟨z12, (), rfl, trivial, ⟨f_6, k_ret ht hI, kp_8, 0, z1, z10, z12, z13, z14, z15, z16, z17, z18, z23, z24, z25, z26, q, u, im, kt, k_9, (by first | omega | decide), (by first | omega | decide), (by first | omega | decide), k_10, hc1_ok, k_11, k_12, k_13, hU⟩⟩, hS.F ht⟩) hS.2.2 dX12_count_122
  by_cases h_37 : p1 = 8
  · refine k_topi (y := 8) h_37 ?_
    refine lv_tableIn (tgt := 123) hx hb dX12_count_6 (by decide) (by decide) rfl (by decide) ?_
    have h_37 := kc_eq rfl (by decide : Int32.toInt 8 = 8) h_37
    refine lv_aload_n hx hb dX12_count_123 rfl (lv_at hl 0 rfl) ?_
    refine k_get (ci := 12) (v := .ref (gr g h0 2)) (C := RX12) (T := TX12) (N := 27) hx hb hts (fun _ h0_ => List.mem_cons_of_mem _ (List.mem_append_right _ (List.mem_append_left _ h0_))) hown hK hI i_h0.1 k_9 rfl 2 (by decide) (hts (.fieldLink RX12 7 "DeadlineShareModel" "refusals" "[I") (List.mem_cons_of_mem _ (List.mem_append_left _ (List.mem_of_getElem? (i := 11) rfl)))) (fun _ h9 => h9) rfl dX12_count_124 ?_
    have i_39 := kw_12_2 hG i_h0
    refine lv_iconst (v := 1) hx hb dX12_count_127 (by decide) ?_
    obtain ⟨q_41, k_40⟩ := op_30 hI i_39
    refine k_iald hx hb hK hI i_39.1 0 k_40 rfl (by unfold vp_in; decide) dX12_count_128 ?_
    refine k_topi (y := q_41 1) (congrArg q_41 (show Int32.toNatClampNeg 1 = 1 by decide)) ?_
    exact W.iret (v := (q_41 1)) hx hb hr (fun t ht hW => ⟨⟨q_41 1, (), rfl, trivial, ⟨f_6, k_ret ht hI, kp_8, 0, z1, z10, z12, z13, z14, z15, z16, z17, z18, z23, z24, z25, z26, q, u, im, kt, k_9, (by first | omega | decide), (by first | omega | decide), (by first | omega | decide), k_10, hc1_ok, k_11, k_12, k_13, hU⟩⟩, hS.F ht⟩) hS.2.2 dX12_count_129
  by_cases h_42 : p1 = 9
  · refine k_topi (y := 9) h_42 ?_
    refine lv_tableIn (tgt := 130) hx hb dX12_count_6 (by decide) (by decide) rfl (by decide) ?_
    have h_42 := kc_eq rfl (by decide : Int32.toInt 9 = 9) h_42
    refine lv_aload_n hx hb dX12_count_130 rfl (lv_at hl 0 rfl) ?_
    refine k_get (ci := 12) (v := .ref (gr g h0 2)) (C := RX12) (T := TX12) (N := 27) hx hb hts (fun _ h0_ => List.mem_cons_of_mem _ (List.mem_append_right _ (List.mem_append_left _ h0_))) hown hK hI i_h0.1 k_9 rfl 2 (by decide) (hts (.fieldLink RX12 7 "DeadlineShareModel" "refusals" "[I") (List.mem_cons_of_mem _ (List.mem_append_left _ (List.mem_of_getElem? (i := 11) rfl)))) (fun _ h9 => h9) rfl dX12_count_131 ?_
    have i_44 := kw_12_2 hG i_h0
    refine lv_iconst (v := 2) hx hb dX12_count_134 (by decide) ?_
    obtain ⟨q_46, k_45⟩ := op_30 hI i_44
    refine k_iald hx hb hK hI i_44.1 0 k_45 rfl (by unfold vp_in; decide) dX12_count_135 ?_
    refine k_topi (y := q_46 2) (congrArg q_46 (show Int32.toNatClampNeg 2 = 2 by decide)) ?_
    exact W.iret (v := (q_46 2)) hx hb hr (fun t ht hW => ⟨⟨q_46 2, (), rfl, trivial, ⟨f_6, k_ret ht hI, kp_8, 0, z1, z10, z12, z13, z14, z15, z16, z17, z18, z23, z24, z25, z26, q, u, im, kt, k_9, (by first | omega | decide), (by first | omega | decide), (by first | omega | decide), k_10, hc1_ok, k_11, k_12, k_13, hU⟩⟩, hS.F ht⟩) hS.2.2 dX12_count_136
  by_cases h_47 : p1 = 10
  · refine k_topi (y := 10) h_47 ?_
    refine lv_tableIn (tgt := 137) hx hb dX12_count_6 (by decide) (by decide) rfl (by decide) ?_
    have h_47 := kc_eq rfl (by decide : Int32.toInt 10 = 10) h_47
    refine lv_aload_n hx hb dX12_count_137 rfl (lv_at hl 0 rfl) ?_
    refine k_get (ci := 12) (v := .ref (gr g h0 2)) (C := RX12) (T := TX12) (N := 27) hx hb hts (fun _ h0_ => List.mem_cons_of_mem _ (List.mem_append_right _ (List.mem_append_left _ h0_))) hown hK hI i_h0.1 k_9 rfl 2 (by decide) (hts (.fieldLink RX12 7 "DeadlineShareModel" "refusals" "[I") (List.mem_cons_of_mem _ (List.mem_append_left _ (List.mem_of_getElem? (i := 11) rfl)))) (fun _ h9 => h9) rfl dX12_count_138 ?_
    have i_49 := kw_12_2 hG i_h0
    refine lv_iconst (v := 4) hx hb dX12_count_141 (by decide) ?_
    obtain ⟨q_51, k_50⟩ := op_30 hI i_49
    refine k_iald hx hb hK hI i_49.1 0 k_50 rfl (by unfold vp_in; decide) dX12_count_142 ?_
    refine k_topi (y := q_51 4) (congrArg q_51 (show Int32.toNatClampNeg 4 = 4 by decide)) ?_
    exact W.iret (v := (q_51 4)) hx hb hr (fun t ht hW => ⟨⟨q_51 4, (), rfl, trivial, ⟨f_6, k_ret ht hI, kp_8, 0, z1, z10, z12, z13, z14, z15, z16, z17, z18, z23, z24, z25, z26, q, u, im, kt, k_9, (by first | omega | decide), (by first | omega | decide), (by first | omega | decide), k_10, hc1_ok, k_11, k_12, k_13, hU⟩⟩, hS.F ht⟩) hS.2.2 dX12_count_143
  by_cases h_52 : p1 = 11
  · refine k_topi (y := 11) h_52 ?_
    refine lv_tableIn (tgt := 144) hx hb dX12_count_6 (by decide) (by decide) rfl (by decide) ?_
    have h_52 := kc_eq rfl (by decide : Int32.toInt 11 = 11) h_52
    refine lv_aload_n hx hb dX12_count_144 rfl (lv_at hl 0 rfl) ?_
    refine k_get (ci := 12) (v := .ref (gr g h0 2)) (C := RX12) (T := TX12) (N := 27) hx hb hts (fun _ h0_ => List.mem_cons_of_mem _ (List.mem_append_right _ (List.mem_append_left _ h0_))) hown hK hI i_h0.1 k_9 rfl 2 (by decide) (hts (.fieldLink RX12 7 "DeadlineShareModel" "refusals" "[I") (List.mem_cons_of_mem _ (List.mem_append_left _ (List.mem_of_getElem? (i := 11) rfl)))) (fun _ h9 => h9) rfl dX12_count_145 ?_
    have i_54 := kw_12_2 hG i_h0
    refine lv_iconst (v := 5) hx hb dX12_count_148 (by decide) ?_
    obtain ⟨q_56, k_55⟩ := op_30 hI i_54
    refine k_iald hx hb hK hI i_54.1 0 k_55 rfl (by unfold vp_in; decide) dX12_count_149 ?_
    refine k_topi (y := q_56 5) (congrArg q_56 (show Int32.toNatClampNeg 5 = 5 by decide)) ?_
    exact W.iret (v := (q_56 5)) hx hb hr (fun t ht hW => ⟨⟨q_56 5, (), rfl, trivial, ⟨f_6, k_ret ht hI, kp_8, 0, z1, z10, z12, z13, z14, z15, z16, z17, z18, z23, z24, z25, z26, q, u, im, kt, k_9, (by first | omega | decide), (by first | omega | decide), (by first | omega | decide), k_10, hc1_ok, k_11, k_12, k_13, hU⟩⟩, hS.F ht⟩) hS.2.2 dX12_count_150
  by_cases h_57 : p1 = 12
  · refine k_topi (y := 12) h_57 ?_
    refine lv_tableIn (tgt := 151) hx hb dX12_count_6 (by decide) (by decide) rfl (by decide) ?_
    have h_57 := kc_eq rfl (by decide : Int32.toInt 12 = 12) h_57
    refine lv_aload_n hx hb dX12_count_151 rfl (lv_at hl 0 rfl) ?_
    refine k_get (ci := 12) (v := .ref (gr g h0 2)) (C := RX12) (T := TX12) (N := 27) hx hb hts (fun _ h0_ => List.mem_cons_of_mem _ (List.mem_append_right _ (List.mem_append_left _ h0_))) hown hK hI i_h0.1 k_9 rfl 2 (by decide) (hts (.fieldLink RX12 7 "DeadlineShareModel" "refusals" "[I") (List.mem_cons_of_mem _ (List.mem_append_left _ (List.mem_of_getElem? (i := 11) rfl)))) (fun _ h9 => h9) rfl dX12_count_152 ?_
    have i_59 := kw_12_2 hG i_h0
    refine lv_bipush (v := 6) hx hb dX12_count_155 (by decide) ?_
    obtain ⟨q_61, k_60⟩ := op_30 hI i_59
    refine k_iald hx hb hK hI i_59.1 0 k_60 rfl (by unfold vp_in; decide) dX12_count_157 ?_
    refine k_topi (y := q_61 6) (congrArg q_61 (show Int32.toNatClampNeg 6 = 6 by decide)) ?_
    exact W.iret (v := (q_61 6)) hx hb hr (fun t ht hW => ⟨⟨q_61 6, (), rfl, trivial, ⟨f_6, k_ret ht hI, kp_8, 0, z1, z10, z12, z13, z14, z15, z16, z17, z18, z23, z24, z25, z26, q, u, im, kt, k_9, (by first | omega | decide), (by first | omega | decide), (by first | omega | decide), k_10, hc1_ok, k_11, k_12, k_13, hU⟩⟩, hS.F ht⟩) hS.2.2 dX12_count_158
  have h_14 := kn_eq rfl (by decide : Int32.toInt 0 = 0) h_14
  have h_18 := kn_eq rfl (by decide : Int32.toInt 1 = 1) h_18
  have h_21 := kn_eq rfl (by decide : Int32.toInt 2 = 2) h_21
  have h_24 := kn_eq rfl (by decide : Int32.toInt 3 = 3) h_24
  have h_27 := kn_eq rfl (by decide : Int32.toInt 4 = 4) h_27
  have h_31 := kn_eq rfl (by decide : Int32.toInt 5 = 5) h_31
  have h_35 := kn_eq rfl (by decide : Int32.toInt 6 = 6) h_35
  have h_36 := kn_eq rfl (by decide : Int32.toInt 7 = 7) h_36
  have h_37 := kn_eq rfl (by decide : Int32.toInt 8 = 8) h_37
  have h_42 := kn_eq rfl (by decide : Int32.toInt 9 = 9) h_42
  have h_47 := kn_eq rfl (by decide : Int32.toInt 10 = 10) h_47
  have h_52 := kn_eq rfl (by decide : Int32.toInt 11 = 11) h_52
  have h_57 := kn_eq rfl (by decide : Int32.toInt 12 = 12) h_57
  refine lv_tableOut (tgt := 159) hx hb dX12_count_6 (by omega) (by decide) ?_
  refine lv_iload_n hx hb dX12_count_159 rfl (lv_at hl 1 rfl) ?_
  refine lv_i2l (v := p1.toInt64) hx hb dX12_count_160 rfl ?_
  have t_62 := Int32.toInt_toInt64 p1
  refine lv_ldc2 hx hb hown (hts (.constantLong RX12 340 (13)) (List.mem_cons_of_mem _ (List.mem_append_left _ (List.mem_of_getElem? (i := 12) rfl)))) dX12_count_161 ?_
  refine lv_ldc2 hx hb hown (hts (.constantLong RX12 304 (15)) (List.mem_cons_of_mem _ (List.mem_append_left _ (List.mem_of_getElem? (i := 13) rfl)))) dX12_count_164 ?_
  refine va_calli (va_runS (As := [.long p1.toInt64, .long 13, .long 15]) (rest := []) ⟨hx, hb, hml, hown, hts⟩ (c_X12_in l dC dI g A hG f_6 p1.toInt64 13 15) (va_cwS 3 hts (gi_S (fun w_ h0_ => ⟨List.mem_cons_of_mem _ (List.mem_append_right _ (List.mem_append_right _ (List.mem_append_right _ (List.mem_append_right _ (List.mem_append_left _ h0_))))), (tb_c_X12_in w_ h0_).2⟩) (List.mem_cons_of_mem _ (List.mem_append_left _ (List.mem_of_getElem? (i := 14) rfl))) (List.mem_cons_of_mem _ (List.mem_append_left _ (List.mem_of_getElem? (i := 15) rfl))) (List.mem_cons_of_mem _ (List.mem_append_left _ (List.mem_of_getElem? (i := 5) rfl)))) rfl rfl rfl (by decide +kernel) ⟨Nat.le_of_ble_eq_true rfl, Nat.le_of_ble_eq_true rfl⟩) ⟨fun a U g mk q => ⟨q.1, q.2.calling rfl rfl⟩, fun U hU hW => ⟨rfl, kIn.of hI hK hE hS hU hW⟩⟩ rfl rfl hl.1 rfl (lv_room (Nat.le_of_ble_eq_true rfl)) dX12_count_167 ⟨Nat.le_of_ble_eq_true rfl, Nat.le_of_ble_eq_true rfl⟩) hS (fun q _ h => h) (fun q h => h) (fun r_64 u9 t H1 locs ht hvm w_63 hB hz1 hk1 hS => ?_)
  have hI : Iv dC dI g A f_6 t.heap := hB
  rw [ht] at hI
  generalize H1 = H at hI hS ⊢
  refine W.widen (k := 0) (n := 0) (Nat.le_of_ble_eq_true rfl) (Nat.le_of_ble_eq_true rfl) ?_
  have w_63 : (r_64.toInt = 0 ∧ (p1.toInt64.toInt < (13 : Int64).toInt ∨ (15 : Int64).toInt < p1.toInt64.toInt)) ∨ (r_64.toInt = 1 ∧ (13 : Int64).toInt ≤ p1.toInt64.toInt ∧ p1.toInt64.toInt ≤ (15 : Int64).toInt) := w_63
  have g_65 : Int64.toInt (13) = 13 := by decide
  have g_66 : Int64.toInt (15) = 15 := by decide
  refine lv_if_eq (tgt := 185) hx hb dX12_count_170 (by decide) (fun c_67 => ?_) (fun c_67 => ?_)
  · have c_67 := kc_eq rfl (by decide : Int32.toInt 0 = 0) c_67
    refine lv_iload_n hx hb dX12_count_185 rfl (lv_at hl 1 rfl) ?_
    refine lv_bipush (v := 16) hx hb dX12_count_186 (by decide) ?_
    refine lv_icmp_ne (tgt := 199) hx hb dX12_count_188 (by decide) (fun c_68 => ?_) (fun c_68 => ?_)
    · have c_68 := kn_eq rfl (by decide : Int32.toInt 16 = 16) c_68
      refine lv_iconst (v := (-1)) hx hb dX12_count_199 (by decide) ?_
      exact W.iret (v := (-1)) hx hb hr (fun t ht hW => ⟨⟨(-1), (), rfl, trivial, ⟨f_6, k_ret ht hI, kp_8, 0, z1, z10, z12, z13, z14, z15, z16, z17, z18, z23, z24, z25, z26, q, u, im, kt, k_9, (by first | omega | decide), (by first | omega | decide), (by first | omega | decide), k_10, hc1_ok, k_11, k_12, k_13, hU⟩⟩, hS.F ht⟩) hS.2.2 dX12_count_200
    · have c_68 := kc_eq rfl (by decide : Int32.toInt 16 = 16) c_68
      refine lv_aload_n hx hb dX12_count_191 rfl (lv_at hl 0 rfl) ?_
      refine lv_iconst (v := 3) hx hb dX12_count_192 (by decide) ?_
      refine va_calli (va_runV (As := [.int 3]) (rest := []) ⟨hx, hb, hml, hown, hts⟩ (c_X12_inState l dC dI g A hG f_6 h0 3 q i_h0 k_10 hc1_ok) (cwV 1 hts (gi_V (fun w_ h0_ => ⟨List.mem_cons_of_mem _ (List.mem_append_right _ (List.mem_append_right _ (List.mem_append_left _ h0_))), (tb_c_X12_inState w_ h0_).2⟩) (List.mem_cons_of_mem _ (List.mem_append_left _ (List.mem_of_getElem? (i := 2) rfl))) (List.mem_cons_of_mem _ (List.mem_append_left _ (List.mem_of_getElem? (i := 3) rfl))) (List.mem_cons_of_mem _ (List.mem_append_left _ (List.mem_of_getElem? (i := 4) rfl))) (List.mem_cons_of_mem _ (List.mem_append_left _ (List.mem_of_getElem? (i := 5) rfl)))) rfl rfl rfl (by decide +kernel) ⟨Nat.le_of_ble_eq_true rfl, Nat.le_of_ble_eq_true rfl⟩) ⟨fun a U g mk q => ⟨q.1, q.2.calling rfl rfl⟩, k_recv hK hI i_h0.1 k_9 (ci := 12) rfl, fun U hU hW => ⟨rfl, kIn.of hI hK hE hS hU hW⟩⟩ rfl rfl hl.1 rfl (lv_room (Nat.le_of_ble_eq_true rfl)) dX12_count_193 ⟨Nat.le_of_ble_eq_true rfl, Nat.le_of_ble_eq_true rfl⟩) hS (fun q _ h => h) (fun q h => h) (fun r_70 u9 t H1 locs ht hvm w_69 hB hz1 hk1 hS => ?_)
      have hI : Iv dC dI g A f_6 t.heap := hB
      rw [ht] at hI
      generalize H1 = H at hI hS ⊢
      refine W.widen (k := 0) (n := 0) (Nat.le_of_ble_eq_true rfl) (Nat.le_of_ble_eq_true rfl) ?_
      refine lv_goto (tgt := 200) hx hb dX12_count_196 (by decide) ?_
      exact W.iret (v := r_70) hx hb hr (fun t ht hW => ⟨⟨r_70, (), rfl, trivial, ⟨f_6, k_ret ht hI, kp_8, 0, z1, z10, z12, z13, z14, z15, z16, z17, z18, z23, z24, z25, z26, q, u, im, kt, k_9, (by first | omega | decide), (by first | omega | decide), (by first | omega | decide), k_10, hc1_ok, k_11, k_12, k_13, hU⟩⟩, hS.F ht⟩) hS.2.2 dX12_count_200
  · have c_67 := kn_eq rfl (by decide : Int32.toInt 0 = 0) c_67
    refine lv_aload_n hx hb dX12_count_173 rfl (lv_at hl 0 rfl) ?_
    refine k_get (ci := 12) (v := .ref (gr g h0 3)) (C := RX12) (T := TX12) (N := 27) hx hb hts (fun _ h0_ => List.mem_cons_of_mem _ (List.mem_append_right _ (List.mem_append_left _ h0_))) hown hK hI i_h0.1 k_9 rfl 3 (by decide) (hts (.fieldLink RX12 13 "DeadlineShareModel" "term" "[I") (List.mem_cons_of_mem _ (List.mem_append_left _ (List.mem_of_getElem? (i := 16) rfl)))) (fun _ h9 => h9) rfl dX12_count_174 ?_
    have i_72 := kw_12_3 hG i_h0
    refine lv_iload_n hx hb dX12_count_177 rfl (lv_at hl 1 rfl) ?_
    refine lv_bipush (v := 13) hx hb dX12_count_178 (by decide) ?_
    refine lv_isub hx hb dX12_count_180 ?_
    refine lv_topi (fun v_73 ev_73 => ?_)
    have tv_73 := k_sb p1 13
    rw [← ev_73, show Int32.toInt 13 = 13 from by decide] at tv_73
    obtain ⟨q_75, k_74⟩ := op_31 hI i_72
    refine k_iald hx hb hK hI i_72.1 0 k_74 rfl (vp_in_iff.mpr (by omega)) dX12_count_181 ?_
    refine lv_topi (fun v_76 ev_76 => ?_)
    refine lv_goto (tgt := 200) hx hb dX12_count_182 (by decide) ?_
    exact W.iret (v := v_76) hx hb hr (fun t ht hW => ⟨⟨v_76, (), rfl, trivial, ⟨f_6, k_ret ht hI, kp_8, 0, z1, z10, z12, z13, z14, z15, z16, z17, z18, z23, z24, z25, z26, q, u, im, kt, k_9, (by first | omega | decide), (by first | omega | decide), (by first | omega | decide), k_10, hc1_ok, k_11, k_12, k_13, hU⟩⟩, hS.F ht⟩) hS.2.2 dX12_count_200
theorem tw_944 : q_g (.code yX12_eligible cX12_eligible 3 (some .int)) := ⟨(List.mem_append_right _ (List.mem_of_getElem? (i := 1458) (by decide +kernel))), good_of_word (by decide +kernel)⟩
def ow_c_X12_eligible : List Cond := [.fieldLink RX12 67 "DeadlineShareModel" "thrown" "I", .fieldLink RX12 16 "DeadlineShareModel" "row" "[J", .methodLink RX12 244 yX12_isEligible, .instanceMethod yX12_isEligible, .selects RX12 yX12_isEligible yX12_isEligible, .initialized RX12]
def wq_c_X12_eligible : List Cond := .code yX12_eligible cX12_eligible 3 (some .int) :: (ow_c_X12_eligible ++ (u_ws RX12 TX12 27 ++ (wq_c_X12_isEligible ++ ([] : List Cond))))
theorem tb_c_X12_eligible : ∀ w ∈ wq_c_X12_eligible, q_g w := by
  unfold wq_c_X12_eligible ow_c_X12_eligible
  exact q_cons tw_944 (q_app (q_cons tw_927 (q_cons tw_731 (q_cons tw_779 (q_cons tw_778 (q_cons tw_777 (q_cons tw_728 q_nil)))))) (q_app tu_X12 (q_app tb_c_X12_isEligible q_nil)))
set_option maxHeartbeats 4000000 in
set_option maxRecDepth 100000 in
theorem c_X12_eligible (l : Launch) (dC : Nat → ClassId) (dI : Nat → Nat → Nat) (g : kG) (A : Nat → Prop) (hG : kWf g) (f : Nat → va_E) (h0 : Nat) (z0 : Int32) (z1 : Int32) (z10 : Int32) (z12 : Int32) (z13 : Int32) (z14 : Int32) (z15 : Int32) (z16 : Int64) (z17 : Int32) (z18 : Int32) (z23 : Int32) (z24 : Int64) (z25 : Int64) (z26 : Int64) (q : Nat → Int64) (u : Nat → Int64) (im : Nat → Int64) (kt : Nat → Int32) (i_h0 : ik g 12 h0) (hc0 : f h0 = .inr (12, [.int z0, .int z1, .ref (gr g h0 2), .ref (gr g h0 3), .ref (gr g h0 4), .ref (gr g h0 5), .ref (gr g h0 6), .ref (gr g h0 7), .ref (gr g h0 8), .ref (gr g h0 9), .int z10, .ref (gr g h0 11), .int z12, .int z13, .int z14, .int z15, .long z16, .int z17, .int z18, .ref (gr g h0 19), .ref (gr g h0 20), .ref (gr g h0 21), .ref (gr g h0 22), .int z23, .long z24, .long z25, .long z26])) (hc0_10 : 0 ≤ z10.toInt ∧ z10.toInt ≤ 10) (hc0_12 : 0 ≤ z12.toInt ∧ z12.toInt ≤ 200) (hc0_23 : 0 ≤ z23.toInt ∧ z23.toInt ≤ 8) (hc1 : f (gr g h0 4) = .inl (gc g 1, 906, .inr (.inl q))) (hc1_ok : RowOK q) (hc2 : f (gr g h0 5) = .inl (gc g 1, 9060, .inr (.inl u))) (hc3 : f (gr g h0 7) = .inl (gc g 1, 1812, .inr (.inl im))) (hc4 : f (gr g h0 8) = .inl (gc g 3, 2, .inl kt)) (hU : UIq z10 u im kt) : Met l yX12_eligible wq_c_X12_eligible ({ frames := 4, cells := 0, slots := 0, locals := 85 } : Room) (va_Pc [.ref h0] (fun U => kIn dC dI g A f U)) (va_Qi (fun (r : Int32) (_ : Unit) => True) (fun (_ : Unit) t => ∃ f1 : Nat → va_E, Iv dC dI g A f1 t.heap ∧ Kp g [12] f f1 ∧ ∃ (w0 : Int32) (w1 : Int32) (w10 : Int32) (w12 : Int32) (w13 : Int32) (w14 : Int32) (w15 : Int32) (w16 : Int64) (w17 : Int32) (w18 : Int32) (w23 : Int32) (w24 : Int64) (w25 : Int64) (w26 : Int64) (q1 : Nat → Int64) (u1 : Nat → Int64) (im1 : Nat → Int64) (ik1 : Nat → Int32), (f1 h0 = .inr (12, [.int w0, .int w1, .ref (gr g h0 2), .ref (gr g h0 3), .ref (gr g h0 4), .ref (gr g h0 5), .ref (gr g h0 6), .ref (gr g h0 7), .ref (gr g h0 8), .ref (gr g h0 9), .int w10, .ref (gr g h0 11), .int w12, .int w13, .int w14, .int w15, .long w16, .int w17, .int w18, .ref (gr g h0 19), .ref (gr g h0 20), .ref (gr g h0 21), .ref (gr g h0 22), .int w23, .long w24, .long w25, .long w26])) ∧ (0 ≤ w10.toInt ∧ w10.toInt ≤ 10) ∧ (0 ≤ w12.toInt ∧ w12.toInt ≤ 200) ∧ (0 ≤ w23.toInt ∧ w23.toInt ≤ 8) ∧ (f1 (gr g h0 4) = .inl (gc g 1, 906, .inr (.inl q1))) ∧ (RowOK q1) ∧ (f1 (gr g h0 5) = .inl (gc g 1, 9060, .inr (.inl u1))) ∧ (f1 (gr g h0 7) = .inl (gc g 1, 1812, .inr (.inl im1))) ∧ (f1 (gr g h0 8) = .inl (gc g 3, 2, .inl ik1)) ∧ (UIq w10 u1 im1 ik1)) A) 0 0 A := by
  refine Met.ofW (cc := cX12_eligible) (maxL := 3) (ret := (some .int)) (by decide) rfl ?_
  intro p e s m args below meth c s₁ B hml hv
  obtain ⟨rfl, hI, hK, hE⟩ := hv
  have hx := B.exec
  have hb := B.bytes
  have hr := B.returns
  have hts := atoms_spec (ws := wq_c_X12_eligible) B.pre
  have hown : s.vm.findClass RX12 = some m.cls := findClass_of_methodNamed B.named
  have hlocks := B.notSynchronized
  have hS : va_S A s.heap s.heap [] := va_S.rf
  have hk0 : Kp g [12] f f := Kp.rf
  have hl := lv_entry ([.ref h0]) (n := 3) (Nat.le_of_ble_eq_true rfl)
  rw [lg_entry_eq]
  generalize (lg_sl ([.ref h0]) ++ List.replicate (3 - (lg_sl ([.ref h0])).length) Slot.unset).toArray = ls at hl ⊢
  have hl : lv_has ls 3 [(0, .ref h0)] := hl
  have i_1 := kw_12_4 hG i_h0
  have d_2 := rk_hd hc1_ok
  have i_3 := kw_12_5 hG i_h0
  have i_4 := kw_12_7 hG i_h0
  have i_5 := kw_12_8 hG i_h0
  refine lv_aload_n hx hb dX12_eligible_0 rfl (lv_at hl 0 rfl) ?_
  refine lv_iconst (v := 0) hx hb dX12_eligible_1 (by decide) ?_
  refine k_put (ci := 12) (v := .int 0) (ty := .int) (C := RX12) (T := TX12) (N := 27) hx hb hts (fun _ h0_ => List.mem_cons_of_mem _ (List.mem_append_right _ (List.mem_append_left _ h0_))) tyX12 tyX12_ok nmX12 hown hK hI hS i_h0.1 hc0 rfl 0 (by decide) (hts (.fieldLink RX12 67 "DeadlineShareModel" "thrown" "I") (List.mem_cons_of_mem _ (List.mem_append_left _ (List.mem_of_getElem? (i := 0) rfl)))) (fun _ h9 => h9) rfl (by decide +kernel) rfl rfl (Nat.le_of_ble_eq_true rfl) rfl (cl_12 i_h0 (by omega) (by omega) (by omega)) dX12_eligible_2 (fun f_6 H locs e_7 hI hS => ?_)
  have k_9 : f_6 h0 = .inr (12, [.int 0, .int z1, .ref (gr g h0 2), .ref (gr g h0 3), .ref (gr g h0 4), .ref (gr g h0 5), .ref (gr g h0 6), .ref (gr g h0 7), .ref (gr g h0 8), .ref (gr g h0 9), .int z10, .ref (gr g h0 11), .int z12, .int z13, .int z14, .int z15, .long z16, .int z17, .int z18, .ref (gr g h0 19), .ref (gr g h0 20), .ref (gr g h0 21), .ref (gr g h0 22), .int z23, .long z24, .long z25, .long z26]) := by rw [e_7]; exact va_up_self _ _ _
  have k_10 : f_6 (gr g h0 4) = .inl (gc g 1, 906, .inr (.inl q)) := by rw [e_7, va_up_ne _ _ (ik_ne i_1 i_h0 (by decide))]; exact hc1
  have k_11 : f_6 (gr g h0 5) = .inl (gc g 1, 9060, .inr (.inl u)) := by rw [e_7, va_up_ne _ _ (ik_ne i_3 i_h0 (by decide))]; exact hc2
  have k_12 : f_6 (gr g h0 7) = .inl (gc g 1, 1812, .inr (.inl im)) := by rw [e_7, va_up_ne _ _ (ik_ne i_4 i_h0 (by decide))]; exact hc3
  have k_13 : f_6 (gr g h0 8) = .inl (gc g 3, 2, .inl kt) := by rw [e_7, va_up_ne _ _ (ik_ne i_5 i_h0 (by decide))]; exact hc4
  have kp_8 := Kp.put hk0 i_h0 (by decide) e_7
  refine lv_iconst (v := 0) hx hb dX12_eligible_5 (by decide) ?_
  refine lv_istore_n (lv' := [(1, .int 0), (0, .ref h0)]) hx hb dX12_eligible_6 rfl hl (by decide) rfl (fun ls hl => ?_)
  refine lv_iconst (v := 0) hx hb dX12_eligible_7 (by decide) ?_
  refine lv_istore_n (lv' := [(2, .int 0), (1, .int 0), (0, .ref h0)]) hx hb dX12_eligible_8 rfl hl (by decide) rfl (fun ls hl => ?_)
  have K_9 : ∀ (nn : Nat) (y_14 : Nat) (y_15 : Int32) (H : Heap) (locs : List Loc) (ls : Array Slot), 12 - y_14 < nn → Iv dC dI g A f_6 H → va_S A s.heap H locs → (y_14 ≤ 12) → lv_has ls 3 [(2, .int (nI y_14)), (1, .int y_15), (0, .ref h0)] → W p l e (headSpec wq_c_X12_eligible ({ frames := 4, cells := 0, slots := 0, locals := 85 } : Room)).room s m ([.ref h0].toArray) below meth c H locs 0 0 (MQ below (va_Qi (fun (r : Int32) (_ : Unit) => True) (fun (_ : Unit) t => ∃ f1 : Nat → va_E, Iv dC dI g A f1 t.heap ∧ Kp g [12] f f1 ∧ ∃ (w0 : Int32) (w1 : Int32) (w10 : Int32) (w12 : Int32) (w13 : Int32) (w14 : Int32) (w15 : Int32) (w16 : Int64) (w17 : Int32) (w18 : Int32) (w23 : Int32) (w24 : Int64) (w25 : Int64) (w26 : Int64) (q1 : Nat → Int64) (u1 : Nat → Int64) (im1 : Nat → Int64) (ik1 : Nat → Int32), (f1 h0 = .inr (12, [.int w0, .int w1, .ref (gr g h0 2), .ref (gr g h0 3), .ref (gr g h0 4), .ref (gr g h0 5), .ref (gr g h0 6), .ref (gr g h0 7), .ref (gr g h0 8), .ref (gr g h0 9), .int w10, .ref (gr g h0 11), .int w12, .int w13, .int w14, .int w15, .long w16, .int w17, .int w18, .ref (gr g h0 19), .ref (gr g h0 20), .ref (gr g h0 21), .ref (gr g h0 22), .int w23, .long w24, .long w25, .long w26])) ∧ (0 ≤ w10.toInt ∧ w10.toInt ≤ 10) ∧ (0 ≤ w12.toInt ∧ w12.toInt ≤ 200) ∧ (0 ≤ w23.toInt ∧ w23.toInt ≤ 8) ∧ (f1 (gr g h0 4) = .inl (gc g 1, 906, .inr (.inl q1))) ∧ (RowOK q1) ∧ (f1 (gr g h0 5) = .inl (gc g 1, 9060, .inr (.inl u1))) ∧ (f1 (gr g h0 7) = .inl (gc g 1, 1812, .inr (.inl im1))) ∧ (f1 (gr g h0 8) = .inl (gc g 3, 2, .inl ik1)) ∧ (UIq w10 u1 im1 ik1)) A) ([.ref h0].toArray) s 0 0 A) (F0 m 9 ls []) := by
    intro nn
    induction nn with
    | zero => intro y_14 y_15 H locs ls m_17; exact absurd m_17 (Nat.not_lt_zero _)
    | succ nn ih =>
      intro y_14 y_15 H locs ls m_17 hI hS t_16 hl
      refine lv_iload_n hx hb dX12_eligible_9 rfl (lv_at hl 0 rfl) ?_
      refine lv_i2l (v := lN (y_14)) hx hb dX12_eligible_10 (nI_l (by omega)) ?_
      refine lv_aload_n hx hb dX12_eligible_11 rfl (lv_at hl 2 rfl) ?_
      refine k_get (ci := 12) (v := .ref (gr g h0 4)) (C := RX12) (T := TX12) (N := 27) hx hb hts (fun _ h0_ => List.mem_cons_of_mem _ (List.mem_append_right _ (List.mem_append_left _ h0_))) hown hK hI i_h0.1 k_9 rfl 4 (by decide) (hts (.fieldLink RX12 16 "DeadlineShareModel" "row" "[J") (List.mem_cons_of_mem _ (List.mem_append_left _ (List.mem_of_getElem? (i := 1) rfl)))) (fun _ h9 => h9) rfl dX12_eligible_12 ?_
      refine lv_iconst (v := 0) hx hb dX12_eligible_15 (by decide) ?_
      refine k_lald hx hb hK hI i_1.1 1 k_10 rfl (by unfold vp_in; decide) dX12_eligible_16 ?_
      refine k_topl (y := q 0) (congrArg q (show Int32.toNatClampNeg 0 = 0 by decide)) ?_
      refine W.lcmp hx hb dX12_eligible_17 ?_
      refine lv_if_ge (tgt := 45) hx hb dX12_eligible_18 (by decide) (fun c_20 => ?_) (fun c_20 => ?_)
      · have c_20 := lc_le rfl (lN_toInt (n := y_14) (by omega)) ((lg_cmp_ge _ _).mp c_20)
        refine lv_iload_n hx hb dX12_eligible_45 rfl (lv_at hl 1 rfl) ?_
        exact W.iret (v := y_15) hx hb hr (fun t ht hW => ⟨⟨y_15, (), rfl, trivial, ⟨f_6, k_ret ht hI, kp_8, 0, z1, z10, z12, z13, z14, z15, z16, z17, z18, z23, z24, z25, z26, q, u, im, kt, k_9, (by first | omega | decide), (by first | omega | decide), (by first | omega | decide), k_10, hc1_ok, k_11, k_12, k_13, hU⟩⟩, hS.F ht⟩) hS.2.2 dX12_eligible_46
      · have c_20 := ln_le rfl (lN_toInt (n := y_14) (by omega)) (fun h9 => c_20 ((lg_cmp_ge _ _).mpr h9))
        refine lv_iload_n hx hb dX12_eligible_21 rfl (lv_at hl 1 rfl) ?_
        refine lv_aload_n hx hb dX12_eligible_22 rfl (lv_at hl 2 rfl) ?_
        refine lv_iload_n hx hb dX12_eligible_23 rfl (lv_at hl 0 rfl) ?_
        refine va_calli (va_runV (As := [.int (nI y_14)]) (rest := [.int y_15]) ⟨hx, hb, hml, hown, hts⟩ (c_X12_isEligible l dC dI g A hG f_6 h0 y_14 q i_h0 k_10 hc1_ok (by first | omega | decide | (simp only [k_c0, k_c1, k_cm1] <;> omega))) (cwV 1 hts (gi_V (fun w_ h0_ => ⟨List.mem_cons_of_mem _ (List.mem_append_right _ (List.mem_append_right _ (List.mem_append_left _ h0_))), (tb_c_X12_isEligible w_ h0_).2⟩) (List.mem_cons_of_mem _ (List.mem_append_left _ (List.mem_of_getElem? (i := 2) rfl))) (List.mem_cons_of_mem _ (List.mem_append_left _ (List.mem_of_getElem? (i := 3) rfl))) (List.mem_cons_of_mem _ (List.mem_append_left _ (List.mem_of_getElem? (i := 4) rfl))) (List.mem_cons_of_mem _ (List.mem_append_left _ (List.mem_of_getElem? (i := 5) rfl)))) rfl rfl rfl (by decide +kernel) ⟨Nat.le_of_ble_eq_true rfl, Nat.le_of_ble_eq_true rfl⟩) ⟨fun a U g mk q => ⟨q.1, q.2.calling rfl rfl⟩, k_recv hK hI i_h0.1 k_9 (ci := 12) rfl, fun U hU hW => ⟨rfl, kIn.of hI hK hE hS hU hW⟩⟩ rfl rfl hl.1 rfl (lv_room (Nat.le_of_ble_eq_true rfl)) dX12_eligible_24 ⟨Nat.le_of_ble_eq_true rfl, Nat.le_of_ble_eq_true rfl⟩) hS (fun q _ h => h) (fun q h => h) (fun r_22 u9 t H1 locs ht hvm w_21 hB hz1 hk1 hS => ?_)
        have hI : Iv dC dI g A f_6 t.heap := hB
        rw [ht] at hI
        generalize H1 = H at hI hS ⊢
        refine W.widen (k := 0) (n := 0) (Nat.le_of_ble_eq_true rfl) (Nat.le_of_ble_eq_true rfl) ?_
        have J_37 : ∀ (y_23 : Int32) (H : Heap) (locs : List Loc) (ls : Array Slot), Iv dC dI g A f_6 H → va_S A s.heap H locs → lv_has ls 3 [(2, .int (nI y_14)), (1, .int y_15), (0, .ref h0)] → W p l e (headSpec wq_c_X12_eligible ({ frames := 4, cells := 0, slots := 0, locals := 85 } : Room)).room s m ([.ref h0].toArray) below meth c H locs 0 0 (MQ below (va_Qi (fun (r : Int32) (_ : Unit) => True) (fun (_ : Unit) t => ∃ f1 : Nat → va_E, Iv dC dI g A f1 t.heap ∧ Kp g [12] f f1 ∧ ∃ (w0 : Int32) (w1 : Int32) (w10 : Int32) (w12 : Int32) (w13 : Int32) (w14 : Int32) (w15 : Int32) (w16 : Int64) (w17 : Int32) (w18 : Int32) (w23 : Int32) (w24 : Int64) (w25 : Int64) (w26 : Int64) (q1 : Nat → Int64) (u1 : Nat → Int64) (im1 : Nat → Int64) (ik1 : Nat → Int32), (f1 h0 = .inr (12, [.int w0, .int w1, .ref (gr g h0 2), .ref (gr g h0 3), .ref (gr g h0 4), .ref (gr g h0 5), .ref (gr g h0 6), .ref (gr g h0 7), .ref (gr g h0 8), .ref (gr g h0 9), .int w10, .ref (gr g h0 11), .int w12, .int w13, .int w14, .int w15, .long w16, .int w17, .int w18, .ref (gr g h0 19), .ref (gr g h0 20), .ref (gr g h0 21), .ref (gr g h0 22), .int w23, .long w24, .long w25, .long w26])) ∧ (0 ≤ w10.toInt ∧ w10.toInt ≤ 10) ∧ (0 ≤ w12.toInt ∧ w12.toInt ≤ 200) ∧ (0 ≤ w23.toInt ∧ w23.toInt ≤ 8) ∧ (f1 (gr g h0 4) = .inl (gc g 1, 906, .inr (.inl q1))) ∧ (RowOK q1) ∧ (f1 (gr g h0 5) = .inl (gc g 1, 9060, .inr (.inl u1))) ∧ (f1 (gr g h0 7) = .inl (gc g 1, 1812, .inr (.inl im1))) ∧ (f1 (gr g h0 8) = .inl (gc g 3, 2, .inl ik1)) ∧ (UIq w10 u1 im1 ik1)) A) ([.ref h0].toArray) s 0 0 A) (F0 m 37 ls [.int y_23, .int y_15]) := by
          intro y_23 H locs ls hI hS  hl
          refine lv_ior hx hb dX12_eligible_37 ?_
          refine lv_topi (fun v_24 ev_24 => ?_)
          refine lv_istore_n (lv' := [(1, .int v_24), (2, .int (nI y_14)), (0, .ref h0)]) hx hb dX12_eligible_38 rfl hl (by decide) rfl (fun ls hl => ?_)
          refine lv_iinc (v := nI (y_14 + 1)) (lv' := [(2, .int (nI (y_14 + 1))), (1, .int v_24), (0, .ref h0)]) hx hb dX12_eligible_39 hl (k := 1) rfl (nI_1 _) (by decide) rfl (fun ls hl => ?_)
          refine lv_goto (tgt := 9) hx hb dX12_eligible_42 (by decide) ?_
          exact ih (y_14 + 1) v_24 _ _ _ (by omega) hI hS (by first | omega | decide | exact Or.inl (by decide)) (lv_sub hl [0, 1, 2] rfl)
        refine lv_if_eq (tgt := 36) hx hb dX12_eligible_27 (by decide) (fun c_25 => ?_) (fun c_25 => ?_)
        · have c_25 := kc_eq rfl (by decide : Int32.toInt 0 = 0) c_25
          refine lv_iconst (v := 0) hx hb dX12_eligible_36 (by decide) ?_
          exact J_37 0 _ _ _ hI hS  (lv_sub hl [0, 1, 2] rfl)
        · have c_25 := kn_eq rfl (by decide : Int32.toInt 0 = 0) c_25
          refine lv_iconst (v := 1) hx hb dX12_eligible_30 (by decide) ?_
          refine lv_iload_n hx hb dX12_eligible_31 rfl (lv_at hl 0 rfl) ?_
          refine lv_ishl hx hb dX12_eligible_32 ?_
          refine lv_topi (fun v_26 ev_26 => ?_)
          refine lv_goto (tgt := 37) hx hb dX12_eligible_33 (by decide) ?_
          exact J_37 v_26 _ _ _ hI hS  (lv_sub hl [0, 1, 2] rfl)
  exact K_9 _ 0 0 _ _ _ (Nat.lt_succ_self _) hI hS (by first | omega | decide | exact Or.inl (by decide) | (simp only [show Int32.toInt 0 = 0 from by decide] <;> omega)) (lv_sub hl [0, 1, 2] rfl)
theorem tw_945 : q_g (.selects RX12 yX12_aheadOf yX12_aheadOf) := ⟨(List.mem_append_left _ (List.mem_of_getElem? (i := 58) (by decide +kernel))), good_of_word (by decide +kernel)⟩
theorem tw_946 : q_g (.instanceMethod yX12_aheadOf) := ⟨(List.mem_append_right _ (List.mem_of_getElem? (i := 1465) (by decide +kernel))), good_of_word (by decide +kernel)⟩
theorem tw_947 : q_g (.methodLink RX12 293 yX12_aheadOf) := ⟨(List.mem_append_right _ (List.mem_of_getElem? (i := 1463) (by decide +kernel))), good_of_word (by decide +kernel)⟩
theorem tw_948 : q_g (.code yX12_earliest cX12_earliest 4 (some .int)) := ⟨(List.mem_append_right _ (List.mem_of_getElem? (i := 1462) (by decide +kernel))), good_of_word (by decide +kernel)⟩
def ow_c_X12_earliest : List Cond := [.fieldLink RX12 67 "DeadlineShareModel" "thrown" "I", .fieldLink RX12 16 "DeadlineShareModel" "row" "[J", .methodLink RX12 244 yX12_isEligible, .instanceMethod yX12_isEligible, .selects RX12 yX12_isEligible yX12_isEligible, .initialized RX12, .methodLink RX12 293 yX12_aheadOf, .instanceMethod yX12_aheadOf, .selects RX12 yX12_aheadOf yX12_aheadOf]
def wq_c_X12_earliest : List Cond := .code yX12_earliest cX12_earliest 4 (some .int) :: (ow_c_X12_earliest ++ (u_ws RX12 TX12 27 ++ (wq_c_X12_isEligible ++ (wq_c_X12_aheadOf ++ ([] : List Cond)))))
theorem tb_c_X12_earliest : ∀ w ∈ wq_c_X12_earliest, q_g w := by
  unfold wq_c_X12_earliest ow_c_X12_earliest
  exact q_cons tw_948 (q_app (q_cons tw_927 (q_cons tw_731 (q_cons tw_779 (q_cons tw_778 (q_cons tw_777 (q_cons tw_728 (q_cons tw_947 (q_cons tw_946 (q_cons tw_945 q_nil))))))))) (q_app tu_X12 (q_app tb_c_X12_isEligible (q_app tb_c_X12_aheadOf q_nil))))
set_option maxHeartbeats 4000000 in
set_option maxRecDepth 100000 in
theorem c_X12_earliest (l : Launch) (dC : Nat → ClassId) (dI : Nat → Nat → Nat) (g : kG) (A : Nat → Prop) (hG : kWf g) (f : Nat → va_E) (h0 : Nat) (p1 : Int32) (z0 : Int32) (z1 : Int32) (z10 : Int32) (z12 : Int32) (z13 : Int32) (z14 : Int32) (z15 : Int32) (z16 : Int64) (z17 : Int32) (z18 : Int32) (z23 : Int32) (z24 : Int64) (z25 : Int64) (z26 : Int64) (q : Nat → Int64) (u : Nat → Int64) (im : Nat → Int64) (kt : Nat → Int32) (i_h0 : ik g 12 h0) (hc0 : f h0 = .inr (12, [.int z0, .int z1, .ref (gr g h0 2), .ref (gr g h0 3), .ref (gr g h0 4), .ref (gr g h0 5), .ref (gr g h0 6), .ref (gr g h0 7), .ref (gr g h0 8), .ref (gr g h0 9), .int z10, .ref (gr g h0 11), .int z12, .int z13, .int z14, .int z15, .long z16, .int z17, .int z18, .ref (gr g h0 19), .ref (gr g h0 20), .ref (gr g h0 21), .ref (gr g h0 22), .int z23, .long z24, .long z25, .long z26])) (hc0_10 : 0 ≤ z10.toInt ∧ z10.toInt ≤ 10) (hc0_12 : 0 ≤ z12.toInt ∧ z12.toInt ≤ 200) (hc0_23 : 0 ≤ z23.toInt ∧ z23.toInt ≤ 8) (hc1 : f (gr g h0 4) = .inl (gc g 1, 906, .inr (.inl q))) (hc1_ok : RowOK q) (hc2 : f (gr g h0 5) = .inl (gc g 1, 9060, .inr (.inl u))) (hc3 : f (gr g h0 7) = .inl (gc g 1, 1812, .inr (.inl im))) (hc4 : f (gr g h0 8) = .inl (gc g 3, 2, .inl kt)) (hU : UIq z10 u im kt) : Met l yX12_earliest wq_c_X12_earliest ({ frames := 5, cells := 0, slots := 0, locals := 108 } : Room) (va_Pc [.ref h0, .int p1] (fun U => kIn dC dI g A f U)) (va_Qi (fun (r : Int32) (_ : Unit) => True) (fun (_ : Unit) t => ∃ f1 : Nat → va_E, Iv dC dI g A f1 t.heap ∧ Kp g [12] f f1 ∧ ∃ (w0 : Int32) (w1 : Int32) (w10 : Int32) (w12 : Int32) (w13 : Int32) (w14 : Int32) (w15 : Int32) (w16 : Int64) (w17 : Int32) (w18 : Int32) (w23 : Int32) (w24 : Int64) (w25 : Int64) (w26 : Int64) (q1 : Nat → Int64) (u1 : Nat → Int64) (im1 : Nat → Int64) (ik1 : Nat → Int32), (f1 h0 = .inr (12, [.int w0, .int w1, .ref (gr g h0 2), .ref (gr g h0 3), .ref (gr g h0 4), .ref (gr g h0 5), .ref (gr g h0 6), .ref (gr g h0 7), .ref (gr g h0 8), .ref (gr g h0 9), .int w10, .ref (gr g h0 11), .int w12, .int w13, .int w14, .int w15, .long w16, .int w17, .int w18, .ref (gr g h0 19), .ref (gr g h0 20), .ref (gr g h0 21), .ref (gr g h0 22), .int w23, .long w24, .long w25, .long w26])) ∧ (0 ≤ w10.toInt ∧ w10.toInt ≤ 10) ∧ (0 ≤ w12.toInt ∧ w12.toInt ≤ 200) ∧ (0 ≤ w23.toInt ∧ w23.toInt ≤ 8) ∧ (f1 (gr g h0 4) = .inl (gc g 1, 906, .inr (.inl q1))) ∧ (RowOK q1) ∧ (f1 (gr g h0 5) = .inl (gc g 1, 9060, .inr (.inl u1))) ∧ (f1 (gr g h0 7) = .inl (gc g 1, 1812, .inr (.inl im1))) ∧ (f1 (gr g h0 8) = .inl (gc g 3, 2, .inl ik1)) ∧ (UIq w10 u1 im1 ik1)) A) 0 0 A := by
  refine Met.ofW (cc := cX12_earliest) (maxL := 4) (ret := (some .int)) (by decide) rfl ?_
  intro p e s m args below meth c s₁ B hml hv
  obtain ⟨rfl, hI, hK, hE⟩ := hv
  have hx := B.exec
  have hb := B.bytes
  have hr := B.returns
  have hts := atoms_spec (ws := wq_c_X12_earliest) B.pre
  have hown : s.vm.findClass RX12 = some m.cls := findClass_of_methodNamed B.named
  have hlocks := B.notSynchronized
  have hS : va_S A s.heap s.heap [] := va_S.rf
  have hk0 : Kp g [12] f f := Kp.rf
  have hl := lv_entry ([.ref h0, .int p1]) (n := 4) (Nat.le_of_ble_eq_true rfl)
  rw [lg_entry_eq]
  generalize (lg_sl ([.ref h0, .int p1]) ++ List.replicate (4 - (lg_sl ([.ref h0, .int p1])).length) Slot.unset).toArray = ls at hl ⊢
  have hl : lv_has ls 4 [(0, .ref h0), (1, .int p1)] := hl
  have i_1 := kw_12_4 hG i_h0
  have d_2 := rk_hd hc1_ok
  have i_3 := kw_12_5 hG i_h0
  have i_4 := kw_12_7 hG i_h0
  have i_5 := kw_12_8 hG i_h0
  refine lv_aload_n hx hb dX12_earliest_0 rfl (lv_at hl 0 rfl) ?_
  refine lv_iconst (v := 0) hx hb dX12_earliest_1 (by decide) ?_
  refine k_put (ci := 12) (v := .int 0) (ty := .int) (C := RX12) (T := TX12) (N := 27) hx hb hts (fun _ h0_ => List.mem_cons_of_mem _ (List.mem_append_right _ (List.mem_append_left _ h0_))) tyX12 tyX12_ok nmX12 hown hK hI hS i_h0.1 hc0 rfl 0 (by decide) (hts (.fieldLink RX12 67 "DeadlineShareModel" "thrown" "I") (List.mem_cons_of_mem _ (List.mem_append_left _ (List.mem_of_getElem? (i := 0) rfl)))) (fun _ h9 => h9) rfl (by decide +kernel) rfl rfl (Nat.le_of_ble_eq_true rfl) rfl (cl_12 i_h0 (by omega) (by omega) (by omega)) dX12_earliest_2 (fun f_6 H locs e_7 hI hS => ?_)
  have k_9 : f_6 h0 = .inr (12, [.int 0, .int z1, .ref (gr g h0 2), .ref (gr g h0 3), .ref (gr g h0 4), .ref (gr g h0 5), .ref (gr g h0 6), .ref (gr g h0 7), .ref (gr g h0 8), .ref (gr g h0 9), .int z10, .ref (gr g h0 11), .int z12, .int z13, .int z14, .int z15, .long z16, .int z17, .int z18, .ref (gr g h0 19), .ref (gr g h0 20), .ref (gr g h0 21), .ref (gr g h0 22), .int z23, .long z24, .long z25, .long z26]) := by rw [e_7]; exact va_up_self _ _ _
  have k_10 : f_6 (gr g h0 4) = .inl (gc g 1, 906, .inr (.inl q)) := by rw [e_7, va_up_ne _ _ (ik_ne i_1 i_h0 (by decide))]; exact hc1
  have k_11 : f_6 (gr g h0 5) = .inl (gc g 1, 9060, .inr (.inl u)) := by rw [e_7, va_up_ne _ _ (ik_ne i_3 i_h0 (by decide))]; exact hc2
  have k_12 : f_6 (gr g h0 7) = .inl (gc g 1, 1812, .inr (.inl im)) := by rw [e_7, va_up_ne _ _ (ik_ne i_4 i_h0 (by decide))]; exact hc3
  have k_13 : f_6 (gr g h0 8) = .inl (gc g 3, 2, .inl kt) := by rw [e_7, va_up_ne _ _ (ik_ne i_5 i_h0 (by decide))]; exact hc4
  have kp_8 := Kp.put hk0 i_h0 (by decide) e_7
  refine lv_iconst (v := (-1)) hx hb dX12_earliest_5 (by decide) ?_
  refine lv_istore_n (lv' := [(2, .int (-1)), (0, .ref h0), (1, .int p1)]) hx hb dX12_earliest_6 rfl hl (by decide) rfl (fun ls hl => ?_)
  refine lv_iconst (v := 0) hx hb dX12_earliest_7 (by decide) ?_
  refine lv_istore_n (lv' := [(3, .int 0), (2, .int (-1)), (0, .ref h0), (1, .int p1)]) hx hb dX12_earliest_8 rfl hl (by decide) rfl (fun ls hl => ?_)
  have K_9 : ∀ (nn : Nat) (y_14 : Nat) (y_15 : Int32) (H : Heap) (locs : List Loc) (ls : Array Slot), 12 - y_14 < nn → Iv dC dI g A f_6 H → va_S A s.heap H locs → (y_14 ≤ 12) → lv_has ls 4 [(3, .int (nI y_14)), (2, .int y_15), (0, .ref h0), (1, .int p1)] → W p l e (headSpec wq_c_X12_earliest ({ frames := 5, cells := 0, slots := 0, locals := 108 } : Room)).room s m ([.ref h0, .int p1].toArray) below meth c H locs 0 0 (MQ below (va_Qi (fun (r : Int32) (_ : Unit) => True) (fun (_ : Unit) t => ∃ f1 : Nat → va_E, Iv dC dI g A f1 t.heap ∧ Kp g [12] f f1 ∧ ∃ (w0 : Int32) (w1 : Int32) (w10 : Int32) (w12 : Int32) (w13 : Int32) (w14 : Int32) (w15 : Int32) (w16 : Int64) (w17 : Int32) (w18 : Int32) (w23 : Int32) (w24 : Int64) (w25 : Int64) (w26 : Int64) (q1 : Nat → Int64) (u1 : Nat → Int64) (im1 : Nat → Int64) (ik1 : Nat → Int32), (f1 h0 = .inr (12, [.int w0, .int w1, .ref (gr g h0 2), .ref (gr g h0 3), .ref (gr g h0 4), .ref (gr g h0 5), .ref (gr g h0 6), .ref (gr g h0 7), .ref (gr g h0 8), .ref (gr g h0 9), .int w10, .ref (gr g h0 11), .int w12, .int w13, .int w14, .int w15, .long w16, .int w17, .int w18, .ref (gr g h0 19), .ref (gr g h0 20), .ref (gr g h0 21), .ref (gr g h0 22), .int w23, .long w24, .long w25, .long w26])) ∧ (0 ≤ w10.toInt ∧ w10.toInt ≤ 10) ∧ (0 ≤ w12.toInt ∧ w12.toInt ≤ 200) ∧ (0 ≤ w23.toInt ∧ w23.toInt ≤ 8) ∧ (f1 (gr g h0 4) = .inl (gc g 1, 906, .inr (.inl q1))) ∧ (RowOK q1) ∧ (f1 (gr g h0 5) = .inl (gc g 1, 9060, .inr (.inl u1))) ∧ (f1 (gr g h0 7) = .inl (gc g 1, 1812, .inr (.inl im1))) ∧ (f1 (gr g h0 8) = .inl (gc g 3, 2, .inl ik1)) ∧ (UIq w10 u1 im1 ik1)) A) ([.ref h0, .int p1].toArray) s 0 0 A) (F0 m 9 ls []) := by
    intro nn
    induction nn with
    | zero => intro y_14 y_15 H locs ls m_17; exact absurd m_17 (Nat.not_lt_zero _)
    | succ nn ih =>
      intro y_14 y_15 H locs ls m_17 hI hS t_16 hl
      refine lv_iload_n hx hb dX12_earliest_9 rfl (lv_at hl 0 rfl) ?_
      refine lv_i2l (v := lN (y_14)) hx hb dX12_earliest_10 (nI_l (by omega)) ?_
      refine lv_aload_n hx hb dX12_earliest_11 rfl (lv_at hl 2 rfl) ?_
      refine k_get (ci := 12) (v := .ref (gr g h0 4)) (C := RX12) (T := TX12) (N := 27) hx hb hts (fun _ h0_ => List.mem_cons_of_mem _ (List.mem_append_right _ (List.mem_append_left _ h0_))) hown hK hI i_h0.1 k_9 rfl 4 (by decide) (hts (.fieldLink RX12 16 "DeadlineShareModel" "row" "[J") (List.mem_cons_of_mem _ (List.mem_append_left _ (List.mem_of_getElem? (i := 1) rfl)))) (fun _ h9 => h9) rfl dX12_earliest_12 ?_
      refine lv_iconst (v := 0) hx hb dX12_earliest_15 (by decide) ?_
      refine k_lald hx hb hK hI i_1.1 1 k_10 rfl (by unfold vp_in; decide) dX12_earliest_16 ?_
      refine k_topl (y := q 0) (congrArg q (show Int32.toNatClampNeg 0 = 0 by decide)) ?_
      refine W.lcmp hx hb dX12_earliest_17 ?_
      refine lv_if_ge (tgt := 50) hx hb dX12_earliest_18 (by decide) (fun c_20 => ?_) (fun c_20 => ?_)
      · have c_20 := lc_le rfl (lN_toInt (n := y_14) (by omega)) ((lg_cmp_ge _ _).mp c_20)
        refine lv_iload_n hx hb dX12_earliest_50 rfl (lv_at hl 1 rfl) ?_
        exact W.iret (v := y_15) hx hb hr (fun t ht hW => ⟨⟨y_15, (), rfl, trivial, ⟨f_6, k_ret ht hI, kp_8, 0, z1, z10, z12, z13, z14, z15, z16, z17, z18, z23, z24, z25, z26, q, u, im, kt, k_9, (by first | omega | decide), (by first | omega | decide), (by first | omega | decide), k_10, hc1_ok, k_11, k_12, k_13, hU⟩⟩, hS.F ht⟩) hS.2.2 dX12_earliest_51
      · have c_20 := ln_le rfl (lN_toInt (n := y_14) (by omega)) (fun h9 => c_20 ((lg_cmp_ge _ _).mpr h9))
        refine lv_aload_n hx hb dX12_earliest_21 rfl (lv_at hl 2 rfl) ?_
        refine lv_iload_n hx hb dX12_earliest_22 rfl (lv_at hl 0 rfl) ?_
        refine va_calli (va_runV (As := [.int (nI y_14)]) (rest := []) ⟨hx, hb, hml, hown, hts⟩ (c_X12_isEligible l dC dI g A hG f_6 h0 y_14 q i_h0 k_10 hc1_ok (by first | omega | decide | (simp only [k_c0, k_c1, k_cm1] <;> omega))) (cwV 1 hts (gi_V (fun w_ h0_ => ⟨List.mem_cons_of_mem _ (List.mem_append_right _ (List.mem_append_right _ (List.mem_append_left _ h0_))), (tb_c_X12_isEligible w_ h0_).2⟩) (List.mem_cons_of_mem _ (List.mem_append_left _ (List.mem_of_getElem? (i := 2) rfl))) (List.mem_cons_of_mem _ (List.mem_append_left _ (List.mem_of_getElem? (i := 3) rfl))) (List.mem_cons_of_mem _ (List.mem_append_left _ (List.mem_of_getElem? (i := 4) rfl))) (List.mem_cons_of_mem _ (List.mem_append_left _ (List.mem_of_getElem? (i := 5) rfl)))) rfl rfl rfl (by decide +kernel) ⟨Nat.le_of_ble_eq_true rfl, Nat.le_of_ble_eq_true rfl⟩) ⟨fun a U g mk q => ⟨q.1, q.2.calling rfl rfl⟩, k_recv hK hI i_h0.1 k_9 (ci := 12) rfl, fun U hU hW => ⟨rfl, kIn.of hI hK hE hS hU hW⟩⟩ rfl rfl hl.1 rfl (lv_room (Nat.le_of_ble_eq_true rfl)) dX12_earliest_23 ⟨Nat.le_of_ble_eq_true rfl, Nat.le_of_ble_eq_true rfl⟩) hS (fun q _ h => h) (fun q h => h) (fun r_22 u9 t H1 locs ht hvm w_21 hB hz1 hk1 hS => ?_)
        have hI : Iv dC dI g A f_6 t.heap := hB
        rw [ht] at hI
        generalize H1 = H at hI hS ⊢
        refine W.widen (k := 0) (n := 0) (Nat.le_of_ble_eq_true rfl) (Nat.le_of_ble_eq_true rfl) ?_
        have J_43 : ∀ (y_23 : Int32) (H : Heap) (locs : List Loc) (ls : Array Slot), Iv dC dI g A f_6 H → va_S A s.heap H locs → lv_has ls 4 [(3, .int (nI y_14)), (2, .int y_15), (0, .ref h0), (1, .int p1)] → W p l e (headSpec wq_c_X12_earliest ({ frames := 5, cells := 0, slots := 0, locals := 108 } : Room)).room s m ([.ref h0, .int p1].toArray) below meth c H locs 0 0 (MQ below (va_Qi (fun (r : Int32) (_ : Unit) => True) (fun (_ : Unit) t => ∃ f1 : Nat → va_E, Iv dC dI g A f1 t.heap ∧ Kp g [12] f f1 ∧ ∃ (w0 : Int32) (w1 : Int32) (w10 : Int32) (w12 : Int32) (w13 : Int32) (w14 : Int32) (w15 : Int32) (w16 : Int64) (w17 : Int32) (w18 : Int32) (w23 : Int32) (w24 : Int64) (w25 : Int64) (w26 : Int64) (q1 : Nat → Int64) (u1 : Nat → Int64) (im1 : Nat → Int64) (ik1 : Nat → Int32), (f1 h0 = .inr (12, [.int w0, .int w1, .ref (gr g h0 2), .ref (gr g h0 3), .ref (gr g h0 4), .ref (gr g h0 5), .ref (gr g h0 6), .ref (gr g h0 7), .ref (gr g h0 8), .ref (gr g h0 9), .int w10, .ref (gr g h0 11), .int w12, .int w13, .int w14, .int w15, .long w16, .int w17, .int w18, .ref (gr g h0 19), .ref (gr g h0 20), .ref (gr g h0 21), .ref (gr g h0 22), .int w23, .long w24, .long w25, .long w26])) ∧ (0 ≤ w10.toInt ∧ w10.toInt ≤ 10) ∧ (0 ≤ w12.toInt ∧ w12.toInt ≤ 200) ∧ (0 ≤ w23.toInt ∧ w23.toInt ≤ 8) ∧ (f1 (gr g h0 4) = .inl (gc g 1, 906, .inr (.inl q1))) ∧ (RowOK q1) ∧ (f1 (gr g h0 5) = .inl (gc g 1, 9060, .inr (.inl u1))) ∧ (f1 (gr g h0 7) = .inl (gc g 1, 1812, .inr (.inl im1))) ∧ (f1 (gr g h0 8) = .inl (gc g 3, 2, .inl ik1)) ∧ (UIq w10 u1 im1 ik1)) A) ([.ref h0, .int p1].toArray) s 0 0 A) (F0 m 43 ls [.int y_23]) := by
          intro y_23 H locs ls hI hS  hl
          refine lv_istore_n (lv' := [(2, .int y_23), (3, .int (nI y_14)), (0, .ref h0), (1, .int p1)]) hx hb dX12_earliest_43 rfl hl (by decide) rfl (fun ls hl => ?_)
          refine lv_iinc (v := nI (y_14 + 1)) (lv' := [(3, .int (nI (y_14 + 1))), (2, .int y_23), (0, .ref h0), (1, .int p1)]) hx hb dX12_earliest_44 hl (k := 1) rfl (nI_1 _) (by decide) rfl (fun ls hl => ?_)
          refine lv_goto (tgt := 9) hx hb dX12_earliest_47 (by decide) ?_
          exact ih (y_14 + 1) y_23 _ _ _ (by omega) hI hS (by first | omega | decide | exact Or.inl (by decide)) (lv_sub hl [0, 1, 2, 3] rfl)
        have J_42 : ∀ (H : Heap) (locs : List Loc) (ls : Array Slot), Iv dC dI g A f_6 H → va_S A s.heap H locs → lv_has ls 4 [(3, .int (nI y_14)), (2, .int y_15), (0, .ref h0), (1, .int p1)] → W p l e (headSpec wq_c_X12_earliest ({ frames := 5, cells := 0, slots := 0, locals := 108 } : Room)).room s m ([.ref h0, .int p1].toArray) below meth c H locs 0 0 (MQ below (va_Qi (fun (r : Int32) (_ : Unit) => True) (fun (_ : Unit) t => ∃ f1 : Nat → va_E, Iv dC dI g A f1 t.heap ∧ Kp g [12] f f1 ∧ ∃ (w0 : Int32) (w1 : Int32) (w10 : Int32) (w12 : Int32) (w13 : Int32) (w14 : Int32) (w15 : Int32) (w16 : Int64) (w17 : Int32) (w18 : Int32) (w23 : Int32) (w24 : Int64) (w25 : Int64) (w26 : Int64) (q1 : Nat → Int64) (u1 : Nat → Int64) (im1 : Nat → Int64) (ik1 : Nat → Int32), (f1 h0 = .inr (12, [.int w0, .int w1, .ref (gr g h0 2), .ref (gr g h0 3), .ref (gr g h0 4), .ref (gr g h0 5), .ref (gr g h0 6), .ref (gr g h0 7), .ref (gr g h0 8), .ref (gr g h0 9), .int w10, .ref (gr g h0 11), .int w12, .int w13, .int w14, .int w15, .long w16, .int w17, .int w18, .ref (gr g h0 19), .ref (gr g h0 20), .ref (gr g h0 21), .ref (gr g h0 22), .int w23, .long w24, .long w25, .long w26])) ∧ (0 ≤ w10.toInt ∧ w10.toInt ≤ 10) ∧ (0 ≤ w12.toInt ∧ w12.toInt ≤ 200) ∧ (0 ≤ w23.toInt ∧ w23.toInt ≤ 8) ∧ (f1 (gr g h0 4) = .inl (gc g 1, 906, .inr (.inl q1))) ∧ (RowOK q1) ∧ (f1 (gr g h0 5) = .inl (gc g 1, 9060, .inr (.inl u1))) ∧ (f1 (gr g h0 7) = .inl (gc g 1, 1812, .inr (.inl im1))) ∧ (f1 (gr g h0 8) = .inl (gc g 3, 2, .inl ik1)) ∧ (UIq w10 u1 im1 ik1)) A) ([.ref h0, .int p1].toArray) s 0 0 A) (F0 m 42 ls []) := by
          intro H locs ls hI hS  hl
          refine lv_iload_n hx hb dX12_earliest_42 rfl (lv_at hl 1 rfl) ?_
          exact J_43 y_15 _ _ _ hI hS  (lv_sub hl [0, 1, 2, 3] rfl)
        refine lv_if_eq (tgt := 42) hx hb dX12_earliest_26 (by decide) (fun c_24 => ?_) (fun c_24 => ?_)
        · have c_24 := kc_eq rfl (by decide : Int32.toInt 0 = 0) c_24
          exact J_42  _ _ _ hI hS  (lv_sub hl [0, 1, 2, 3] rfl)
        · have c_24 := kn_eq rfl (by decide : Int32.toInt 0 = 0) c_24
          refine lv_aload_n hx hb dX12_earliest_29 rfl (lv_at hl 2 rfl) ?_
          refine lv_iload_n hx hb dX12_earliest_30 rfl (lv_at hl 0 rfl) ?_
          refine va_calli (va_runV (As := [.int (nI y_14)]) (rest := []) ⟨hx, hb, hml, hown, hts⟩ (c_X12_aheadOf l dC dI g A hG f_6 h0 y_14 q i_h0 k_10 hc1_ok (by first | omega | decide | (simp only [k_c0, k_c1, k_cm1] <;> omega))) (cwV 1 hts (gi_V (fun w_ h0_ => ⟨List.mem_cons_of_mem _ (List.mem_append_right _ (List.mem_append_right _ (List.mem_append_right _ (List.mem_append_left _ h0_)))), (tb_c_X12_aheadOf w_ h0_).2⟩) (List.mem_cons_of_mem _ (List.mem_append_left _ (List.mem_of_getElem? (i := 6) rfl))) (List.mem_cons_of_mem _ (List.mem_append_left _ (List.mem_of_getElem? (i := 7) rfl))) (List.mem_cons_of_mem _ (List.mem_append_left _ (List.mem_of_getElem? (i := 8) rfl))) (List.mem_cons_of_mem _ (List.mem_append_left _ (List.mem_of_getElem? (i := 5) rfl)))) rfl rfl rfl (by decide +kernel) ⟨Nat.le_of_ble_eq_true rfl, Nat.le_of_ble_eq_true rfl⟩) ⟨fun a U g mk q => ⟨q.1, q.2.calling rfl rfl⟩, k_recv hK hI i_h0.1 k_9 (ci := 12) rfl, fun U hU hW => ⟨rfl, kIn.of hI hK hE hS hU hW⟩⟩ rfl rfl hl.1 rfl (lv_room (Nat.le_of_ble_eq_true rfl)) dX12_earliest_31 ⟨Nat.le_of_ble_eq_true rfl, Nat.le_of_ble_eq_true rfl⟩) hS (fun q _ h => h) (fun q h => h) (fun r_26 u9 t H1 locs ht hvm w_25 hB hz1 hk1 hS => ?_)
          have hI : Iv dC dI g A f_6 t.heap := hB
          rw [ht] at hI
          generalize H1 = H at hI hS ⊢
          refine W.widen (k := 0) (n := 0) (Nat.le_of_ble_eq_true rfl) (Nat.le_of_ble_eq_true rfl) ?_
          refine lv_iload_n hx hb dX12_earliest_34 rfl (lv_at hl 3 rfl) ?_
          refine lv_icmp_ne (tgt := 42) hx hb dX12_earliest_35 (by decide) (fun c_27 => ?_) (fun c_27 => ?_)
          · have c_27 := kn_eq rfl rfl c_27
            exact J_42  _ _ _ hI hS  (lv_sub hl [0, 1, 2, 3] rfl)
          · have c_27 := kc_eq rfl rfl c_27
            refine lv_iload_n hx hb dX12_earliest_38 rfl (lv_at hl 0 rfl) ?_
            refine lv_goto (tgt := 43) hx hb dX12_earliest_39 (by decide) ?_
            have g_28 := nI_toInt (n := y_14) (by omega)
            exact J_43 (nI y_14) _ _ _ hI hS  (lv_sub hl [0, 1, 2, 3] rfl)
  exact K_9 _ 0 (-1) _ _ _ (Nat.lt_succ_self _) hI hS (by first | omega | decide | exact Or.inl (by decide) | (simp only [show Int32.toInt (-1) = (-1) from by decide] <;> omega)) (lv_sub hl [0, 1, 2, 3] rfl)
