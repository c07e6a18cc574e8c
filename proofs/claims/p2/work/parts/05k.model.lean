theorem tw_958 : q_g (.selects RX12 yX12_tell yX12_tell) := ⟨(List.mem_append_left _ (List.mem_of_getElem? (i := 22) (by decide +kernel))), good_of_word (by decide +kernel)⟩
theorem tw_959 : q_g (.instanceMethod yX12_tell) := ⟨(List.mem_append_right _ (List.mem_of_getElem? (i := 1189) (by decide +kernel))), good_of_word (by decide +kernel)⟩
theorem tw_960 : q_g (.methodLink RX12 80 yX12_tell) := ⟨(List.mem_append_right _ (List.mem_of_getElem? (i := 1187) (by decide +kernel))), good_of_word (by decide +kernel)⟩
theorem tw_961 : q_g (.selects RX12 yX12_remember yX12_remember) := ⟨(List.mem_append_left _ (List.mem_of_getElem? (i := 24) (by decide +kernel))), good_of_word (by decide +kernel)⟩
theorem tw_962 : q_g (.instanceMethod yX12_remember) := ⟨(List.mem_append_right _ (List.mem_of_getElem? (i := 1225) (by decide +kernel))), good_of_word (by decide +kernel)⟩
theorem tw_963 : q_g (.methodLink RX12 139 yX12_remember) := ⟨(List.mem_append_right _ (List.mem_of_getElem? (i := 1223) (by decide +kernel))), good_of_word (by decide +kernel)⟩
theorem tw_964 : q_g (.selects RX12 yX12_refuse yX12_refuse) := ⟨(List.mem_append_left _ (List.mem_of_getElem? (i := 21) (by decide +kernel))), good_of_word (by decide +kernel)⟩
theorem tw_965 : q_g (.instanceMethod yX12_refuse) := ⟨(List.mem_append_right _ (List.mem_of_getElem? (i := 1185) (by decide +kernel))), good_of_word (by decide +kernel)⟩
theorem tw_966 : q_g (.methodLink RX12 76 yX12_refuse) := ⟨(List.mem_append_right _ (List.mem_of_getElem? (i := 1183) (by decide +kernel))), good_of_word (by decide +kernel)⟩
theorem tw_967 : q_g (.code yX12_join cX12_join 2 (some .int)) := ⟨(List.mem_append_right _ (List.mem_of_getElem? (i := 1233) (by decide +kernel))), good_of_word (by decide +kernel)⟩
def ow_c_X12_join : List Cond := [.fieldLink RX12 67 "DeadlineShareModel" "thrown" "I", .methodLink RX12 142 yX12_isTask, .instanceMethod yX12_isTask, .selects RX12 yX12_isTask yX12_isTask, .initialized RX12, .fieldLink RX12 16 "DeadlineShareModel" "row" "[J", .methodLink RX12 87 yX12_at, .static yX12_at, .methodLink RX12 76 yX12_refuse, .instanceMethod yX12_refuse, .selects RX12 yX12_refuse yX12_refuse, .methodLink RX12 145 yX12_isSpent, .instanceMethod yX12_isSpent, .selects RX12 yX12_isSpent yX12_isSpent, .methodLink RX12 148 yX12_hasRoom, .instanceMethod yX12_hasRoom, .selects RX12 yX12_hasRoom yX12_hasRoom, .methodLink RX12 139 yX12_remember, .instanceMethod yX12_remember, .selects RX12 yX12_remember yX12_remember, .methodLink RX12 151 yX12_joins, .instanceMethod yX12_joins, .selects RX12 yX12_joins yX12_joins, .methodLink RX12 105 yX12_heavy, .instanceMethod yX12_heavy, .selects RX12 yX12_heavy yX12_heavy, .methodLink RX12 80 yX12_tell, .instanceMethod yX12_tell, .selects RX12 yX12_tell yX12_tell]
def wq_c_X12_join : List Cond := .code yX12_join cX12_join 2 (some .int) :: (ow_c_X12_join ++ (u_ws RX12 TX12 27 ++ (wq_c_X12_isTask ++ (wq_c_X12_at ++ (wq_c_X12_refuse ++ (wq_c_X12_isSpent ++ (wq_c_X12_hasRoom ++ (wq_c_X12_remember ++ (wq_c_X12_joins ++ (wq_c_X12_heavy ++ (wq_c_X12_tell ++ ([] : List Cond))))))))))))
theorem tb_c_X12_join : ∀ w ∈ wq_c_X12_join, q_g w := by
  unfold wq_c_X12_join ow_c_X12_join
  exact q_cons tw_967 (q_app (q_cons tw_927 (q_cons tw_951 (q_cons tw_950 (q_cons tw_949 (q_cons tw_728 (q_cons tw_731 (q_cons tw_734 (q_cons tw_733 (q_cons tw_966 (q_cons tw_965 (q_cons tw_964 (q_cons tw_844 (q_cons tw_843 (q_cons tw_842 (q_cons tw_847 (q_cons tw_846 (q_cons tw_845 (q_cons tw_963 (q_cons tw_962 (q_cons tw_961 (q_cons tw_841 (q_cons tw_840 (q_cons tw_839 (q_cons tw_752 (q_cons tw_751 (q_cons tw_750 (q_cons tw_960 (q_cons tw_959 (q_cons tw_958 q_nil))))))))))))))))))))))))))))) (q_app tu_X12 (q_app tb_c_X12_isTask (q_app tb_c_X12_at (q_app tb_c_X12_refuse (q_app tb_c_X12_isSpent (q_app tb_c_X12_hasRoom (q_app tb_c_X12_remember (q_app tb_c_X12_joins (q_app tb_c_X12_heavy (q_app tb_c_X12_tell q_nil)))))))))))
set_option maxHeartbeats 4000000 in
set_option maxRecDepth 100000 in
theorem c_X12_join (l : Launch) (dC : Nat → ClassId) (dI : Nat → Nat → Nat) (g : kG) (A : Nat → Prop) (hG : kWf g) (f : Nat → va_E) (h0 : Nat) (p1 : Int32) (z0 : Int32) (z1 : Int32) (z10 : Int32) (z12 : Int32) (z13 : Int32) (z14 : Int32) (z15 : Int32) (z16 : Int64) (z17 : Int32) (z18 : Int32) (z23 : Int32) (z24 : Int64) (z25 : Int64) (z26 : Int64) (q : Nat → Int64) (u : Nat → Int64) (im : Nat → Int64) (kt : Nat → Int32) (i_h0 : ik g 12 h0) (hc0 : f h0 = .inr (12, [.int z0, .int z1, .ref (gr g h0 2), .ref (gr g h0 3), .ref (gr g h0 4), .ref (gr g h0 5), .ref (gr g h0 6), .ref (gr g h0 7), .ref (gr g h0 8), .ref (gr g h0 9), .int z10, .ref (gr g h0 11), .int z12, .int z13, .int z14, .int z15, .long z16, .int z17, .int z18, .ref (gr g h0 19), .ref (gr g h0 20), .ref (gr g h0 21), .ref (gr g h0 22), .int z23, .long z24, .long z25, .long z26])) (hc0_10 : 0 ≤ z10.toInt ∧ z10.toInt ≤ 10) (hc0_12 : 0 ≤ z12.toInt ∧ z12.toInt ≤ 200) (hc0_23 : 0 ≤ z23.toInt ∧ z23.toInt ≤ 8) (hc1 : f (gr g h0 4) = .inl (gc g 1, 906, .inr (.inl q))) (hc1_ok : RowOK q) (hc2 : f (gr g h0 5) = .inl (gc g 1, 9060, .inr (.inl u))) (hc3 : f (gr g h0 7) = .inl (gc g 1, 1812, .inr (.inl im))) (hc4 : f (gr g h0 8) = .inl (gc g 3, 2, .inl kt)) (hU : UIq z10 u im kt) : Met l yX12_join wq_c_X12_join ({ frames := 4, cells := 0, slots := 0, locals := 94 } : Room) (va_Pc [.ref h0, .int p1] (fun U => kIn dC dI g A f U)) (va_Qi (fun (r : Int32) (_ : Unit) => True) (fun (_ : Unit) t => ∃ f1 : Nat → va_E, Iv dC dI g A f1 t.heap ∧ Kp g [12, 30, 32, 33, 37] f f1 ∧ ∃ (w0 : Int32) (w1 : Int32) (w10 : Int32) (w12 : Int32) (w13 : Int32) (w14 : Int32) (w15 : Int32) (w16 : Int64) (w17 : Int32) (w18 : Int32) (w23 : Int32) (w24 : Int64) (w25 : Int64) (w26 : Int64) (q1 : Nat → Int64) (u1 : Nat → Int64) (im1 : Nat → Int64) (ik1 : Nat → Int32), (f1 h0 = .inr (12, [.int w0, .int w1, .ref (gr g h0 2), .ref (gr g h0 3), .ref (gr g h0 4), .ref (gr g h0 5), .ref (gr g h0 6), .ref (gr g h0 7), .ref (gr g h0 8), .ref (gr g h0 9), .int w10, .ref (gr g h0 11), .int w12, .int w13, .int w14, .int w15, .long w16, .int w17, .int w18, .ref (gr g h0 19), .ref (gr g h0 20), .ref (gr g h0 21), .ref (gr g h0 22), .int w23, .long w24, .long w25, .long w26])) ∧ (0 ≤ w10.toInt ∧ w10.toInt ≤ 10) ∧ (0 ≤ w12.toInt ∧ w12.toInt ≤ 200) ∧ (0 ≤ w23.toInt ∧ w23.toInt ≤ 8) ∧ (f1 (gr g h0 4) = .inl (gc g 1, 906, .inr (.inl q1))) ∧ (RowOK q1) ∧ (f1 (gr g h0 5) = .inl (gc g 1, 9060, .inr (.inl u1))) ∧ (f1 (gr g h0 7) = .inl (gc g 1, 1812, .inr (.inl im1))) ∧ (f1 (gr g h0 8) = .inl (gc g 3, 2, .inl ik1)) ∧ (UIq w10 u1 im1 ik1)) A) 0 0 A := by
  refine Met.ofW (cc := cX12_join) (maxL := 2) (ret := (some .int)) (by decide) rfl ?_
  intro p e s m args below meth c s₁ B hml hv
  obtain ⟨rfl, hI, hK, hE⟩ := hv
  have hx := B.exec
  have hb := B.bytes
  have hr := B.returns
  have hts := atoms_spec (ws := wq_c_X12_join) B.pre
  have hown : s.vm.findClass RX12 = some m.cls := findClass_of_methodNamed B.named
  have hlocks := B.notSynchronized
  have hS : va_S A s.heap s.heap [] := va_S.rf
  have hk0 : Kp g [12, 30, 32, 33, 37] f f := Kp.rf
  have hl := lv_entry ([.ref h0, .int p1]) (n := 2) (Nat.le_of_ble_eq_true rfl)
  rw [lg_entry_eq]
  generalize (lg_sl ([.ref h0, .int p1]) ++ List.replicate (2 - (lg_sl ([.ref h0, .int p1])).length) Slot.unset).toArray = ls at hl ⊢
  have hl : lv_has ls 2 [(0, .ref h0), (1, .int p1)] := hl
  have i_1 := kw_12_4 hG i_h0
  have d_2 := rk_hd hc1_ok
  have i_3 := kw_12_5 hG i_h0
  have i_4 := kw_12_7 hG i_h0
  have i_5 := kw_12_8 hG i_h0
  refine lv_aload_n hx hb dX12_join_0 rfl (lv_at hl 0 rfl) ?_
  refine lv_iconst (v := 0) hx hb dX12_join_1 (by decide) ?_
  refine k_put (ci := 12) (v := .int 0) (ty := .int) (C := RX12) (T := TX12) (N := 27) hx hb hts (fun _ h0_ => List.mem_cons_of_mem _ (List.mem_append_right _ (List.mem_append_left _ h0_))) tyX12 tyX12_ok nmX12 hown hK hI hS i_h0.1 hc0 rfl 0 (by decide) (hts (.fieldLink RX12 67 "DeadlineShareModel" "thrown" "I") (List.mem_cons_of_mem _ (List.mem_append_left _ (List.mem_of_getElem? (i := 0) rfl)))) (fun _ h9 => h9) rfl (by decide +kernel) rfl rfl (Nat.le_of_ble_eq_true rfl) rfl (cl_12 i_h0 (by omega) (by omega) (by omega)) dX12_join_2 (fun f_6 H locs e_7 hI hS => ?_)
  have k_9 : f_6 h0 = .inr (12, [.int 0, .int z1, .ref (gr g h0 2), .ref (gr g h0 3), .ref (gr g h0 4), .ref (gr g h0 5), .ref (gr g h0 6), .ref (gr g h0 7), .ref (gr g h0 8), .ref (gr g h0 9), .int z10, .ref (gr g h0 11), .int z12, .int z13, .int z14, .int z15, .long z16, .int z17, .int z18, .ref (gr g h0 19), .ref (gr g h0 20), .ref (gr g h0 21), .ref (gr g h0 22), .int z23, .long z24, .long z25, .long z26]) := by rw [e_7]; exact va_up_self _ _ _
  have k_10 : f_6 (gr g h0 4) = .inl (gc g 1, 906, .inr (.inl q)) := by rw [e_7, va_up_ne _ _ (ik_ne i_1 i_h0 (by decide))]; exact hc1
  have k_11 : f_6 (gr g h0 5) = .inl (gc g 1, 9060, .inr (.inl u)) := by rw [e_7, va_up_ne _ _ (ik_ne i_3 i_h0 (by decide))]; exact hc2
  have k_12 : f_6 (gr g h0 7) = .inl (gc g 1, 1812, .inr (.inl im)) := by rw [e_7, va_up_ne _ _ (ik_ne i_4 i_h0 (by decide))]; exact hc3
  have k_13 : f_6 (gr g h0 8) = .inl (gc g 3, 2, .inl kt) := by rw [e_7, va_up_ne _ _ (ik_ne i_5 i_h0 (by decide))]; exact hc4
  have kp_8 := Kp.put hk0 i_h0 (by decide) e_7
  refine lv_aload_n hx hb dX12_join_5 rfl (lv_at hl 0 rfl) ?_
  refine lv_iload_n hx hb dX12_join_6 rfl (lv_at hl 1 rfl) ?_
  refine va_calli (va_runV (As := [.int p1]) (rest := []) ⟨hx, hb, hml, hown, hts⟩ (c_X12_isTask l dC dI g A hG f_6 h0 p1 q i_h0 k_10 hc1_ok) (cwV 1 hts (gi_V (fun w_ h0_ => ⟨List.mem_cons_of_mem _ (List.mem_append_right _ (List.mem_append_right _ (List.mem_append_left _ h0_))), (tb_c_X12_isTask w_ h0_).2⟩) (List.mem_cons_of_mem _ (List.mem_append_left _ (List.mem_of_getElem? (i := 1) rfl))) (List.mem_cons_of_mem _ (List.mem_append_left _ (List.mem_of_getElem? (i := 2) rfl))) (List.mem_cons_of_mem _ (List.mem_append_left _ (List.mem_of_getElem? (i := 3) rfl))) (List.mem_cons_of_mem _ (List.mem_append_left _ (List.mem_of_getElem? (i := 4) rfl)))) rfl rfl rfl (by decide +kernel) ⟨Nat.le_of_ble_eq_true rfl, Nat.le_of_ble_eq_true rfl⟩) ⟨fun a U g mk q => ⟨q.1, q.2.calling rfl rfl⟩, k_recv hK hI i_h0.1 k_9 (ci := 12) rfl, fun U hU hW => ⟨rfl, kIn.of hI hK hE hS hU hW⟩⟩ rfl rfl hl.1 rfl (lv_room (Nat.le_of_ble_eq_true rfl)) dX12_join_7 ⟨Nat.le_of_ble_eq_true rfl, Nat.le_of_ble_eq_true rfl⟩) hS (fun q _ h => h) (fun q h => h) (fun r_15 u9 t H1 locs ht hvm w_14 hB hz1 hk1 hS => ?_)
  have hI : Iv dC dI g A f_6 t.heap := hB
  rw [ht] at hI
  generalize H1 = H at hI hS ⊢
  refine W.widen (k := 0) (n := 0) (Nat.le_of_ble_eq_true rfl) (Nat.le_of_ble_eq_true rfl) ?_
  have w_14 : (r_15.toInt = 0 ∨ r_15.toInt = 1) ∧ (r_15.toInt = 0 ∨ (0 ≤ p1.toInt ∧ p1.toInt < (q 0).toInt)) := w_14
  refine lv_if_ne (tgt := 20) hx hb dX12_join_10 (by decide) (fun c_16 => ?_) (fun c_16 => ?_)
  · have c_16 := kn_eq rfl (by decide : Int32.toInt 0 = 0) c_16
    refine lv_aload_n hx hb dX12_join_20 rfl (lv_at hl 0 rfl) ?_
    refine k_get (ci := 12) (v := .ref (gr g h0 4)) (C := RX12) (T := TX12) (N := 27) hx hb hts (fun _ h0_ => List.mem_cons_of_mem _ (List.mem_append_right _ (List.mem_append_left _ h0_))) hown hK hI i_h0.1 k_9 rfl 4 (by decide) (hts (.fieldLink RX12 16 "DeadlineShareModel" "row" "[J") (List.mem_cons_of_mem _ (List.mem_append_left _ (List.mem_of_getElem? (i := 5) rfl)))) (fun _ h9 => h9) rfl dX12_join_21 ?_
    obtain ⟨m_19, em_19, tm_19⟩ := k_nat (x := p1) (by omega)
    refine lv_iload_n hx hb dX12_join_24 rfl (lv_at hl 1 rfl) ?_
    refine k_topi (y := nI m_19) em_19 ?_
    refine va_calli (va_runS (As := [.int (nI m_19)]) (rest := [.ref (gr g h0 4)]) ⟨hx, hb, hml, hown, hts⟩ (c_X12_at l dC dI g A hG f_6 m_19) (va_cwS 1 hts (gi_S (fun w_ h0_ => ⟨List.mem_cons_of_mem _ (List.mem_append_right _ (List.mem_append_right _ (List.mem_append_right _ (List.mem_append_left _ h0_)))), (tb_c_X12_at w_ h0_).2⟩) (List.mem_cons_of_mem _ (List.mem_append_left _ (List.mem_of_getElem? (i := 6) rfl))) (List.mem_cons_of_mem _ (List.mem_append_left _ (List.mem_of_getElem? (i := 7) rfl))) (List.mem_cons_of_mem _ (List.mem_append_left _ (List.mem_of_getElem? (i := 4) rfl)))) rfl rfl rfl (by decide +kernel) ⟨Nat.le_of_ble_eq_true rfl, Nat.le_of_ble_eq_true rfl⟩) ⟨fun a U g mk q => ⟨q.1, q.2.calling rfl rfl⟩, fun U hU hW => ⟨rfl, kIn.of hI hK hE hS hU hW⟩⟩ rfl rfl hl.1 rfl (lv_room (Nat.le_of_ble_eq_true rfl)) dX12_join_25 ⟨Nat.le_of_ble_eq_true rfl, Nat.le_of_ble_eq_true rfl⟩) hS (fun q _ h => h) (fun q h => h) (fun r_21 u9 t H1 locs ht hvm w_20 hB hz1 hk1 hS => ?_)
    have hI : Iv dC dI g A f_6 t.heap := hB
    rw [ht] at hI
    generalize H1 = H at hI hS ⊢
    refine W.widen (k := 0) (n := 0) (Nat.le_of_ble_eq_true rfl) (Nat.le_of_ble_eq_true rfl) ?_
    have w_20 : r_21 = nI (6 + 43 * m_19) := w_20
    refine k_topi (y := nI (6 + 43 * m_19)) w_20 ?_
    refine lv_iconst (v := 2) hx hb dX12_join_28 (by decide) ?_
    refine lv_iadd hx hb dX12_join_29 ?_
    refine k_topi (y := nI (6 + 43 * m_19 + 2)) ((nI_add (6 + 43 * m_19) 2).trans (congrArg nI (by omega))) ?_
    refine k_lald hx hb hK hI i_1.1 1 k_10 rfl (vp_in_nI (by omega) (by omega)) dX12_join_30 ?_
    refine k_topl (y := q (6 + 43 * m_19 + 2)) (congrArg q (nI_clamp (by omega))) ?_
    refine lv_lconst (v := 0) hx hb dX12_join_31 (by decide) ?_
    refine W.lcmp hx hb dX12_join_32 ?_
    have J_44 : ∀ (H : Heap) (locs : List Loc) (ls : Array Slot), Iv dC dI g A f_6 H → va_S A s.heap H locs → lv_has ls 2 [(0, .ref h0), (1, .int p1)] → W p l e (headSpec wq_c_X12_join ({ frames := 4, cells := 0, slots := 0, locals := 94 } : Room)).room s m ([.ref h0, .int p1].toArray) below meth c H locs 0 0 (MQ below (va_Qi (fun (r : Int32) (_ : Unit) => True) (fun (_ : Unit) t => ∃ f1 : Nat → va_E, Iv dC dI g A f1 t.heap ∧ Kp g [12, 30, 32, 33, 37] f f1 ∧ ∃ (w0 : Int32) (w1 : Int32) (w10 : Int32) (w12 : Int32) (w13 : Int32) (w14 : Int32) (w15 : Int32) (w16 : Int64) (w17 : Int32) (w18 : Int32) (w23 : Int32) (w24 : Int64) (w25 : Int64) (w26 : Int64) (q1 : Nat → Int64) (u1 : Nat → Int64) (im1 : Nat → Int64) (ik1 : Nat → Int32), (f1 h0 = .inr (12, [.int w0, .int w1, .ref (gr g h0 2), .ref (gr g h0 3), .ref (gr g h0 4), .ref (gr g h0 5), .ref (gr g h0 6), .ref (gr g h0 7), .ref (gr g h0 8), .ref (gr g h0 9), .int w10, .ref (gr g h0 11), .int w12, .int w13, .int w14, .int w15, .long w16, .int w17, .int w18, .ref (gr g h0 19), .ref (gr g h0 20), .ref (gr g h0 21), .ref (gr g h0 22), .int w23, .long w24, .long w25, .long w26])) ∧ (0 ≤ w10.toInt ∧ w10.toInt ≤ 10) ∧ (0 ≤ w12.toInt ∧ w12.toInt ≤ 200) ∧ (0 ≤ w23.toInt ∧ w23.toInt ≤ 8) ∧ (f1 (gr g h0 4) = .inl (gc g 1, 906, .inr (.inl q1))) ∧ (RowOK q1) ∧ (f1 (gr g h0 5) = .inl (gc g 1, 9060, .inr (.inl u1))) ∧ (f1 (gr g h0 7) = .inl (gc g 1, 1812, .inr (.inl im1))) ∧ (f1 (gr g h0 8) = .inl (gc g 3, 2, .inl ik1)) ∧ (UIq w10 u1 im1 ik1)) A) ([.ref h0, .int p1].toArray) s 0 0 A) (F0 m 44 ls []) := by
      intro H locs ls hI hS  hl
      refine lv_aload_n hx hb dX12_join_44 rfl (lv_at hl 0 rfl) ?_
      refine lv_bipush (v := (-4)) hx hb dX12_join_45 (by decide) ?_
      refine va_calli (va_runV (As := [.int (-4)]) (rest := []) ⟨hx, hb, hml, hown, hts⟩ (c_X12_refuse l dC dI g A hG f_6 h0 (-4) 0 z1 z10 z12 z13 z14 z15 z16 z17 z18 z23 z24 z25 z26 i_h0 k_9 (by first | omega | (simp only [k_c0]; omega)) (by first | omega | (simp only [k_c0]; omega)) (by first | omega | (simp only [k_c0]; omega)) (by first | omega | decide | (simp only [show Int32.toInt (-4) = (-4) from by decide] <;> omega))) (cwV 1 hts (gi_V (fun w_ h0_ => ⟨List.mem_cons_of_mem _ (List.mem_append_right _ (List.mem_append_right _ (List.mem_append_right _ (List.mem_append_right _ (List.mem_append_left _ h0_))))), (tb_c_X12_refuse w_ h0_).2⟩) (List.mem_cons_of_mem _ (List.mem_append_left _ (List.mem_of_getElem? (i := 8) rfl))) (List.mem_cons_of_mem _ (List.mem_append_left _ (List.mem_of_getElem? (i := 9) rfl))) (List.mem_cons_of_mem _ (List.mem_append_left _ (List.mem_of_getElem? (i := 10) rfl))) (List.mem_cons_of_mem _ (List.mem_append_left _ (List.mem_of_getElem? (i := 4) rfl)))) rfl rfl rfl (by decide +kernel) ⟨Nat.le_of_ble_eq_true rfl, Nat.le_of_ble_eq_true rfl⟩) ⟨fun a U g mk q => ⟨q.1, q.2.calling rfl rfl⟩, k_recv hK hI i_h0.1 k_9 (ci := 12) rfl, fun U hU hW => ⟨rfl, kIn.of hI hK hE hS hU hW⟩⟩ rfl rfl hl.1 rfl (lv_room (Nat.le_of_ble_eq_true rfl)) dX12_join_47 ⟨Nat.le_of_ble_eq_true rfl, Nat.le_of_ble_eq_true rfl⟩) hS (fun q _ h => h) (fun q h => h) (fun r_24 u9 t H1 locs ht hvm w_23 hB hz1 hk1 hS => ?_)
      obtain ⟨f_22, hI, kc_25, k_26⟩ := hB
      rw [ht] at hI
      have k_27 : f_22 (gr g h0 4) = .inl (gc g 1, 906, .inr (.inl q)) := Kp.at kc_25 i_1 (by decide) k_10
      have k_28 : f_22 (gr g h0 5) = .inl (gc g 1, 9060, .inr (.inl u)) := Kp.at kc_25 i_3 (by decide) k_11
      have k_29 : f_22 (gr g h0 7) = .inl (gc g 1, 1812, .inr (.inl im)) := Kp.at kc_25 i_4 (by decide) k_12
      have k_30 : f_22 (gr g h0 8) = .inl (gc g 3, 2, .inl kt) := Kp.at kc_25 i_5 (by decide) k_13
      have k_26 : f_22 h0 = .inr (12, [.int (0 : Int32), .int (-4 : Int32), .ref (gr g h0 2), .ref (gr g h0 3), .ref (gr g h0 4), .ref (gr g h0 5), .ref (gr g h0 6), .ref (gr g h0 7), .ref (gr g h0 8), .ref (gr g h0 9), .int z10, .ref (gr g h0 11), .int z12, .int z13, .int z14, .int z15, .long z16, .int z17, .int z18, .ref (gr g h0 19), .ref (gr g h0 20), .ref (gr g h0 21), .ref (gr g h0 22), .int z23, .long z24, .long z25, .long z26]) := k_26
      have kp_31 := Kp.call kp_8 kc_25 (by decide)
      generalize H1 = H at hI hS ⊢
      refine W.widen (k := 0) (n := 0) (Nat.le_of_ble_eq_true rfl) (Nat.le_of_ble_eq_true rfl) ?_
      have w_23 : r_24.toInt = (-4 : Int32).toInt := w_23
      have g_32 : Int32.toInt ((-4)) = (-4) := by decide
      exact W.iret (v := r_24) hx hb hr (fun t ht hW => ⟨⟨r_24, (), rfl, trivial, ⟨f_22, k_ret ht hI, kp_31, (0 : Int32), (-4 : Int32), z10, z12, z13, z14, z15, z16, z17, z18, z23, z24, z25, z26, q, u, im, kt, k_26, (by first | omega | decide), (by first | omega | decide), (by first | omega | decide), k_27, hc1_ok, k_28, k_29, k_30, hU⟩⟩, hS.F ht⟩) hS.2.2 dX12_join_50
    refine lv_if_ne (tgt := 44) hx hb dX12_join_33 (by decide) (fun c_33 => ?_) (fun c_33 => ?_)
    · have c_33 := ln_eq rfl (by decide : Int64.toInt 0 = 0) (fun h9 => c_33 ((lg_cmp_eq _ _).mpr h9))
      exact J_44  _ _ _ hI hS  (lv_sub hl [0, 1] rfl)
    · have c_33 := lc_eq rfl (by decide : Int64.toInt 0 = 0) ((lg_cmp_eq _ _).mp c_33)
      refine lv_aload_n hx hb dX12_join_36 rfl (lv_at hl 0 rfl) ?_
      refine lv_iload_n hx hb dX12_join_37 rfl (lv_at hl 1 rfl) ?_
      refine k_topi (y := nI m_19) em_19 ?_
      refine va_calli (va_runV (As := [.int (nI m_19)]) (rest := []) ⟨hx, hb, hml, hown, hts⟩ (c_X12_isSpent l dC dI g A hG f_6 h0 m_19 q i_h0 k_10 hc1_ok (by first | omega | decide | (simp only [k_c0, k_c1, k_cm1] <;> omega))) (cwV 1 hts (gi_V (fun w_ h0_ => ⟨List.mem_cons_of_mem _ (List.mem_append_right _ (List.mem_append_right _ (List.mem_append_right _ (List.mem_append_right _ (List.mem_append_right _ (List.mem_append_left _ h0_)))))), (tb_c_X12_isSpent w_ h0_).2⟩) (List.mem_cons_of_mem _ (List.mem_append_left _ (List.mem_of_getElem? (i := 11) rfl))) (List.mem_cons_of_mem _ (List.mem_append_left _ (List.mem_of_getElem? (i := 12) rfl))) (List.mem_cons_of_mem _ (List.mem_append_left _ (List.mem_of_getElem? (i := 13) rfl))) (List.mem_cons_of_mem _ (List.mem_append_left _ (List.mem_of_getElem? (i := 4) rfl)))) rfl rfl rfl (by decide +kernel) ⟨Nat.le_of_ble_eq_true rfl, Nat.le_of_ble_eq_true rfl⟩) ⟨fun a U g mk q => ⟨q.1, q.2.calling rfl rfl⟩, k_recv hK hI i_h0.1 k_9 (ci := 12) rfl, fun U hU hW => ⟨rfl, kIn.of hI hK hE hS hU hW⟩⟩ rfl rfl hl.1 rfl (lv_room (Nat.le_of_ble_eq_true rfl)) dX12_join_38 ⟨Nat.le_of_ble_eq_true rfl, Nat.le_of_ble_eq_true rfl⟩) hS (fun q _ h => h) (fun q h => h) (fun r_35 u9 t H1 locs ht hvm w_34 hB hz1 hk1 hS => ?_)
      have hI : Iv dC dI g A f_6 t.heap := hB
      rw [ht] at hI
      generalize H1 = H at hI hS ⊢
      refine W.widen (k := 0) (n := 0) (Nat.le_of_ble_eq_true rfl) (Nat.le_of_ble_eq_true rfl) ?_
      refine lv_if_eq (tgt := 51) hx hb dX12_join_41 (by decide) (fun c_36 => ?_) (fun c_36 => ?_)
      · have c_36 := kc_eq rfl (by decide : Int32.toInt 0 = 0) c_36
        refine lv_aload_n hx hb dX12_join_51 rfl (lv_at hl 0 rfl) ?_
        refine lv_iload_n hx hb dX12_join_52 rfl (lv_at hl 1 rfl) ?_
        refine k_topi (y := nI m_19) em_19 ?_
        refine va_calli (va_runV (As := [.int (nI m_19)]) (rest := []) ⟨hx, hb, hml, hown, hts⟩ (c_X12_hasRoom l dC dI g A hG f_6 h0 m_19 q i_h0 k_10 hc1_ok (by first | omega | decide | (simp only [k_c0, k_c1, k_cm1] <;> omega))) (cwV 1 hts (gi_V (fun w_ h0_ => ⟨List.mem_cons_of_mem _ (List.mem_append_right _ (List.mem_append_right _ (List.mem_append_right _ (List.mem_append_right _ (List.mem_append_right _ (List.mem_append_right _ (List.mem_append_left _ h0_))))))), (tb_c_X12_hasRoom w_ h0_).2⟩) (List.mem_cons_of_mem _ (List.mem_append_left _ (List.mem_of_getElem? (i := 14) rfl))) (List.mem_cons_of_mem _ (List.mem_append_left _ (List.mem_of_getElem? (i := 15) rfl))) (List.mem_cons_of_mem _ (List.mem_append_left _ (List.mem_of_getElem? (i := 16) rfl))) (List.mem_cons_of_mem _ (List.mem_append_left _ (List.mem_of_getElem? (i := 4) rfl)))) rfl rfl rfl (by decide +kernel) ⟨Nat.le_of_ble_eq_true rfl, Nat.le_of_ble_eq_true rfl⟩) ⟨fun a U g mk q => ⟨q.1, q.2.calling rfl rfl⟩, k_recv hK hI i_h0.1 k_9 (ci := 12) rfl, fun U hU hW => ⟨rfl, kIn.of hI hK hE hS hU hW⟩⟩ rfl rfl hl.1 rfl (lv_room (Nat.le_of_ble_eq_true rfl)) dX12_join_53 ⟨Nat.le_of_ble_eq_true rfl, Nat.le_of_ble_eq_true rfl⟩) hS (fun q _ h => h) (fun q h => h) (fun r_38 u9 t H1 locs ht hvm w_37 hB hz1 hk1 hS => ?_)
        have hI : Iv dC dI g A f_6 t.heap := hB
        rw [ht] at hI
        generalize H1 = H at hI hS ⊢
        refine W.widen (k := 0) (n := 0) (Nat.le_of_ble_eq_true rfl) (Nat.le_of_ble_eq_true rfl) ?_
        refine lv_if_ne (tgt := 66) hx hb dX12_join_56 (by decide) (fun c_39 => ?_) (fun c_39 => ?_)
        · have c_39 := kn_eq rfl (by decide : Int32.toInt 0 = 0) c_39
          refine lv_aload_n hx hb dX12_join_66 rfl (lv_at hl 0 rfl) ?_
          refine lv_iconst (v := 1) hx hb dX12_join_67 (by decide) ?_
          refine va_callv (va_runV (As := [.int 1]) (rest := []) ⟨hx, hb, hml, hown, hts⟩ (c_X12_remember l dC dI g A hG f_6 h0 1 0 z1 z10 z12 z13 z14 z15 z16 z17 z18 z23 z24 z25 z26 q u im kt i_h0 k_9 (by first | omega | (simp only [k_c0]; omega)) (by first | omega | (simp only [k_c0]; omega)) (by first | omega | (simp only [k_c0]; omega)) k_10 hc1_ok k_11 k_12 k_13 (by first | omega | decide | (simp only [show Int32.toInt 1 = 1 from by decide] <;> omega))) (cwV 1 hts (gi_V (fun w_ h0_ => ⟨List.mem_cons_of_mem _ (List.mem_append_right _ (List.mem_append_right _ (List.mem_append_right _ (List.mem_append_right _ (List.mem_append_right _ (List.mem_append_right _ (List.mem_append_right _ (List.mem_append_left _ h0_)))))))), (tb_c_X12_remember w_ h0_).2⟩) (List.mem_cons_of_mem _ (List.mem_append_left _ (List.mem_of_getElem? (i := 17) rfl))) (List.mem_cons_of_mem _ (List.mem_append_left _ (List.mem_of_getElem? (i := 18) rfl))) (List.mem_cons_of_mem _ (List.mem_append_left _ (List.mem_of_getElem? (i := 19) rfl))) (List.mem_cons_of_mem _ (List.mem_append_left _ (List.mem_of_getElem? (i := 4) rfl)))) rfl rfl rfl (by decide +kernel) ⟨Nat.le_of_ble_eq_true rfl, Nat.le_of_ble_eq_true rfl⟩) ⟨fun a U g mk q => ⟨q.1, q.2.calling rfl rfl⟩, k_recv hK hI i_h0.1 k_9 (ci := 12) rfl, fun U hU hW => ⟨rfl, kIn.of hI hK hE hS hU hW⟩⟩ rfl rfl hl.1 rfl (lv_room (Nat.le_of_ble_eq_true rfl)) dX12_join_68 ⟨Nat.le_of_ble_eq_true rfl, Nat.le_of_ble_eq_true rfl⟩) hS (fun q _ h => h) (fun q h => h) (fun u9 t H1 locs ht hvm _ hB hz1 hk1 hS => ?_)
          obtain ⟨f_40, hI, kc_42, w10_43, u1_44, k_45, z_46, k_47, z_48⟩ := hB
          rw [ht] at hI
          have k_49 : f_40 (gr g h0 4) = .inl (gc g 1, 906, .inr (.inl q)) := Kp.at kc_42 i_1 (by decide) k_10
          have k_50 : f_40 (gr g h0 7) = .inl (gc g 1, 1812, .inr (.inl im)) := Kp.at kc_42 i_4 (by decide) k_12
          have k_51 : f_40 (gr g h0 8) = .inl (gc g 3, 2, .inl kt) := Kp.at kc_42 i_5 (by decide) k_13
          have k_45 : f_40 h0 = .inr (12, [.int (0 : Int32), .int z1, .ref (gr g h0 2), .ref (gr g h0 3), .ref (gr g h0 4), .ref (gr g h0 5), .ref (gr g h0 6), .ref (gr g h0 7), .ref (gr g h0 8), .ref (gr g h0 9), .int w10_43, .ref (gr g h0 11), .int z12, .int z13, .int z14, .int z15, .long z16, .int z17, .int z18, .ref (gr g h0 19), .ref (gr g h0 20), .ref (gr g h0 21), .ref (gr g h0 22), .int z23, .long z24, .long z25, .long z26]) := k_45
          have z_46 : 0 ≤ w10_43.toInt ∧ w10_43.toInt ≤ 10 := z_46
          have z_48 : UIq w10_43 u1_44 im kt := z_48
          have kp_52 := Kp.call kp_8 kc_42 (by decide)
          generalize H1 = H at hI hS ⊢
          refine W.widen (k := 0) (n := 0) (Nat.le_of_ble_eq_true rfl) (Nat.le_of_ble_eq_true rfl) ?_
          refine lv_aload_n hx hb dX12_join_71 rfl (lv_at hl 0 rfl) ?_
          refine lv_iload_n hx hb dX12_join_72 rfl (lv_at hl 1 rfl) ?_
          refine k_topi (y := nI m_19) em_19 ?_
          refine va_callv (va_runV (As := [.int (nI m_19)]) (rest := []) ⟨hx, hb, hml, hown, hts⟩ (c_X12_joins l dC dI g A hG f_40 h0 m_19 q i_h0 k_49 hc1_ok (by first | omega | decide | (simp only [k_c0, k_c1, k_cm1] <;> omega))) (cwV 1 hts (gi_V (fun w_ h0_ => ⟨List.mem_cons_of_mem _ (List.mem_append_right _ (List.mem_append_right _ (List.mem_append_right _ (List.mem_append_right _ (List.mem_append_right _ (List.mem_append_right _ (List.mem_append_right _ (List.mem_append_right _ (List.mem_append_left _ h0_))))))))), (tb_c_X12_joins w_ h0_).2⟩) (List.mem_cons_of_mem _ (List.mem_append_left _ (List.mem_of_getElem? (i := 20) rfl))) (List.mem_cons_of_mem _ (List.mem_append_left _ (List.mem_of_getElem? (i := 21) rfl))) (List.mem_cons_of_mem _ (List.mem_append_left _ (List.mem_of_getElem? (i := 22) rfl))) (List.mem_cons_of_mem _ (List.mem_append_left _ (List.mem_of_getElem? (i := 4) rfl)))) rfl rfl rfl (by decide +kernel) ⟨Nat.le_of_ble_eq_true rfl, Nat.le_of_ble_eq_true rfl⟩) ⟨fun a U g mk q => ⟨q.1, q.2.calling rfl rfl⟩, k_recv hK hI i_h0.1 k_45 (ci := 12) rfl, fun U hU hW => ⟨rfl, kIn.of hI hK hE hS hU hW⟩⟩ rfl rfl hl.1 rfl (lv_room (Nat.le_of_ble_eq_true rfl)) dX12_join_73 ⟨Nat.le_of_ble_eq_true rfl, Nat.le_of_ble_eq_true rfl⟩) hS (fun q _ h => h) (fun q h => h) (fun u9 t H1 locs ht hvm _ hB hz1 hk1 hS => ?_)
          obtain ⟨f_53, hI, kc_55, q1_56, k_57, z_58, z_59, z_60⟩ := hB
          rw [ht] at hI
          have k_61 : f_53 (gr g h0 7) = .inl (gc g 1, 1812, .inr (.inl im)) := Kp.at kc_55 i_4 (by decide) k_50
          have k_62 : f_53 (gr g h0 8) = .inl (gc g 3, 2, .inl kt) := Kp.at kc_55 i_5 (by decide) k_51
          have k_63 : f_53 h0 = .inr (12, [.int (0 : Int32), .int z1, .ref (gr g h0 2), .ref (gr g h0 3), .ref (gr g h0 4), .ref (gr g h0 5), .ref (gr g h0 6), .ref (gr g h0 7), .ref (gr g h0 8), .ref (gr g h0 9), .int w10_43, .ref (gr g h0 11), .int z12, .int z13, .int z14, .int z15, .long z16, .int z17, .int z18, .ref (gr g h0 19), .ref (gr g h0 20), .ref (gr g h0 21), .ref (gr g h0 22), .int z23, .long z24, .long z25, .long z26]) := Kp.at kc_55 i_h0 (by decide) k_45
          have k_64 : f_53 (gr g h0 5) = .inl (gc g 1, 9060, .inr (.inl u1_44)) := Kp.at kc_55 i_3 (by decide) k_47
          have z_58 : RowOK q1_56 := z_58
          have d_65 := rk_hd z_58
          have z_59 : (q1_56 0).toInt = (q 0).toInt := z_59
          have z_60 : (q1_56 1).toInt = (q 1).toInt := z_60
          have kp_66 := Kp.call kp_52 kc_55 (by decide)
          generalize H1 = H at hI hS ⊢
          refine W.widen (k := 0) (n := 0) (Nat.le_of_ble_eq_true rfl) (Nat.le_of_ble_eq_true rfl) ?_
          refine lv_aload_n hx hb dX12_join_76 rfl (lv_at hl 0 rfl) ?_
          refine lv_aload_n hx hb dX12_join_77 rfl (lv_at hl 0 rfl) ?_
          refine va_calll (va_runV (As := []) (rest := [.ref h0]) ⟨hx, hb, hml, hown, hts⟩ (c_X12_heavy l dC dI g A hG f_53 h0 q1_56 i_h0 k_57 z_58) (cwV 0 hts (gi_V (fun w_ h0_ => ⟨List.mem_cons_of_mem _ (List.mem_append_right _ (List.mem_append_right _ (List.mem_append_right _ (List.mem_append_right _ (List.mem_append_right _ (List.mem_append_right _ (List.mem_append_right _ (List.mem_append_right _ (List.mem_append_right _ (List.mem_append_left _ h0_)))))))))), (tb_c_X12_heavy w_ h0_).2⟩) (List.mem_cons_of_mem _ (List.mem_append_left _ (List.mem_of_getElem? (i := 23) rfl))) (List.mem_cons_of_mem _ (List.mem_append_left _ (List.mem_of_getElem? (i := 24) rfl))) (List.mem_cons_of_mem _ (List.mem_append_left _ (List.mem_of_getElem? (i := 25) rfl))) (List.mem_cons_of_mem _ (List.mem_append_left _ (List.mem_of_getElem? (i := 4) rfl)))) rfl rfl rfl (by decide +kernel) ⟨Nat.le_of_ble_eq_true rfl, Nat.le_of_ble_eq_true rfl⟩) ⟨fun a U g mk q => ⟨q.1, q.2.calling rfl rfl⟩, k_recv hK hI i_h0.1 k_63 (ci := 12) rfl, fun U hU hW => ⟨rfl, kIn.of hI hK hE hS hU hW⟩⟩ rfl rfl hl.1 rfl (lv_room (Nat.le_of_ble_eq_true rfl)) dX12_join_78 ⟨Nat.le_of_ble_eq_true rfl, Nat.le_of_ble_eq_true rfl⟩) hS (fun q _ h => h) (fun q h => h) (fun r_68 u9 t H1 locs ht hvm w_67 hB hz1 hk1 hS => ?_)
          have hI : Iv dC dI g A f_53 t.heap := hB
          rw [ht] at hI
          generalize H1 = H at hI hS ⊢
          refine W.widen (k := 0) (n := 0) (Nat.le_of_ble_eq_true rfl) (Nat.le_of_ble_eq_true rfl) ?_
          have w_67 : 0 ≤ r_68.toInt ∧ r_68.toInt ≤ 96 ∧ ∀ t : Nat, (t : Int) < (q1_56 0).toInt → (q1_56 (6 + 43 * t + 2)).toInt = 1 → 1 ≤ r_68.toInt := w_67
          refine lv_l2i (v := r_68.toInt32) hx hb dX12_join_81 rfl ?_
          refine lv_topi (fun v_69 ev_69 => ?_)
          have tv_69 := k_l2i r_68
          rw [← ev_69] at tv_69
          refine va_calli (va_runV (As := [.int v_69]) (rest := []) ⟨hx, hb, hml, hown, hts⟩ (c_X12_tell l dC dI g A hG f_53 h0 v_69 (0 : Int32) z1 w10_43 z12 z13 z14 z15 z16 z17 z18 z23 z24 z25 z26 i_h0 k_63 (by first | omega | (simp only [k_c0]; omega)) (by first | omega | (simp only [k_c0]; omega)) (by first | omega | (simp only [k_c0]; omega))) (cwV 1 hts (gi_V (fun w_ h0_ => ⟨List.mem_cons_of_mem _ (List.mem_append_right _ (List.mem_append_right _ (List.mem_append_right _ (List.mem_append_right _ (List.mem_append_right _ (List.mem_append_right _ (List.mem_append_right _ (List.mem_append_right _ (List.mem_append_right _ (List.mem_append_right _ (List.mem_append_left _ h0_))))))))))), (tb_c_X12_tell w_ h0_).2⟩) (List.mem_cons_of_mem _ (List.mem_append_left _ (List.mem_of_getElem? (i := 26) rfl))) (List.mem_cons_of_mem _ (List.mem_append_left _ (List.mem_of_getElem? (i := 27) rfl))) (List.mem_cons_of_mem _ (List.mem_append_left _ (List.mem_of_getElem? (i := 28) rfl))) (List.mem_cons_of_mem _ (List.mem_append_left _ (List.mem_of_getElem? (i := 4) rfl)))) rfl rfl rfl (by decide +kernel) ⟨Nat.le_of_ble_eq_true rfl, Nat.le_of_ble_eq_true rfl⟩) ⟨fun a U g mk q => ⟨q.1, q.2.calling rfl rfl⟩, k_recv hK hI i_h0.1 k_63 (ci := 12) rfl, fun U hU hW => ⟨rfl, kIn.of hI hK hE hS hU hW⟩⟩ rfl rfl hl.1 rfl (lv_room (Nat.le_of_ble_eq_true rfl)) dX12_join_82 ⟨Nat.le_of_ble_eq_true rfl, Nat.le_of_ble_eq_true rfl⟩) hS (fun q _ h => h) (fun q h => h) (fun r_72 u9 t H1 locs ht hvm w_71 hB hz1 hk1 hS => ?_)
          obtain ⟨f_70, hI, kc_73, k_74⟩ := hB
          rw [ht] at hI
          have k_75 : f_70 (gr g h0 7) = .inl (gc g 1, 1812, .inr (.inl im)) := Kp.at kc_73 i_4 (by decide) k_61
          have k_76 : f_70 (gr g h0 8) = .inl (gc g 3, 2, .inl kt) := Kp.at kc_73 i_5 (by decide) k_62
          have k_77 : f_70 (gr g h0 5) = .inl (gc g 1, 9060, .inr (.inl u1_44)) := Kp.at kc_73 i_3 (by decide) k_64
          have k_78 : f_70 (gr g h0 4) = .inl (gc g 1, 906, .inr (.inl q1_56)) := Kp.at kc_73 i_1 (by decide) k_57
          have k_74 : f_70 h0 = .inr (12, [.int (0 : Int32), .int 0, .ref (gr g h0 2), .ref (gr g h0 3), .ref (gr g h0 4), .ref (gr g h0 5), .ref (gr g h0 6), .ref (gr g h0 7), .ref (gr g h0 8), .ref (gr g h0 9), .int w10_43, .ref (gr g h0 11), .int z12, .int z13, .int z14, .int z15, .long z16, .int z17, .int z18, .ref (gr g h0 19), .ref (gr g h0 20), .ref (gr g h0 21), .ref (gr g h0 22), .int z23, .long z24, .long z25, .long z26]) := k_74
          have kp_79 := Kp.call kp_66 kc_73 (by decide)
          generalize H1 = H at hI hS ⊢
          refine W.widen (k := 0) (n := 0) (Nat.le_of_ble_eq_true rfl) (Nat.le_of_ble_eq_true rfl) ?_
          have w_71 : r_72.toInt = v_69.toInt := w_71
          exact W.iret (v := r_72) hx hb hr (fun t ht hW => ⟨⟨r_72, (), rfl, trivial, ⟨f_70, k_ret ht hI, kp_79, (0 : Int32), 0, w10_43, z12, z13, z14, z15, z16, z17, z18, z23, z24, z25, z26, q1_56, u1_44, im, kt, k_74, (by first | omega | decide), (by first | omega | decide), (by first | omega | decide), k_78, z_58, k_77, k_75, k_76, z_48⟩⟩, hS.F ht⟩) hS.2.2 dX12_join_85
        · have c_39 := kc_eq rfl (by decide : Int32.toInt 0 = 0) c_39
          refine lv_aload_n hx hb dX12_join_59 rfl (lv_at hl 0 rfl) ?_
          refine lv_bipush (v := (-5)) hx hb dX12_join_60 (by decide) ?_
          refine va_calli (va_runV (As := [.int (-5)]) (rest := []) ⟨hx, hb, hml, hown, hts⟩ (c_X12_refuse l dC dI g A hG f_6 h0 (-5) 0 z1 z10 z12 z13 z14 z15 z16 z17 z18 z23 z24 z25 z26 i_h0 k_9 (by first | omega | (simp only [k_c0]; omega)) (by first | omega | (simp only [k_c0]; omega)) (by first | omega | (simp only [k_c0]; omega)) (by first | omega | decide | (simp only [show Int32.toInt (-5) = (-5) from by decide] <;> omega))) (cwV 1 hts (gi_V (fun w_ h0_ => ⟨List.mem_cons_of_mem _ (List.mem_append_right _ (List.mem_append_right _ (List.mem_append_right _ (List.mem_append_right _ (List.mem_append_left _ h0_))))), (tb_c_X12_refuse w_ h0_).2⟩) (List.mem_cons_of_mem _ (List.mem_append_left _ (List.mem_of_getElem? (i := 8) rfl))) (List.mem_cons_of_mem _ (List.mem_append_left _ (List.mem_of_getElem? (i := 9) rfl))) (List.mem_cons_of_mem _ (List.mem_append_left _ (List.mem_of_getElem? (i := 10) rfl))) (List.mem_cons_of_mem _ (List.mem_append_left _ (List.mem_of_getElem? (i := 4) rfl)))) rfl rfl rfl (by decide +kernel) ⟨Nat.le_of_ble_eq_true rfl, Nat.le_of_ble_eq_true rfl⟩) ⟨fun a U g mk q => ⟨q.1, q.2.calling rfl rfl⟩, k_recv hK hI i_h0.1 k_9 (ci := 12) rfl, fun U hU hW => ⟨rfl, kIn.of hI hK hE hS hU hW⟩⟩ rfl rfl hl.1 rfl (lv_room (Nat.le_of_ble_eq_true rfl)) dX12_join_62 ⟨Nat.le_of_ble_eq_true rfl, Nat.le_of_ble_eq_true rfl⟩) hS (fun q _ h => h) (fun q h => h) (fun r_82 u9 t H1 locs ht hvm w_81 hB hz1 hk1 hS => ?_)
          obtain ⟨f_80, hI, kc_83, k_84⟩ := hB
          rw [ht] at hI
          have k_85 : f_80 (gr g h0 4) = .inl (gc g 1, 906, .inr (.inl q)) := Kp.at kc_83 i_1 (by decide) k_10
          have k_86 : f_80 (gr g h0 5) = .inl (gc g 1, 9060, .inr (.inl u)) := Kp.at kc_83 i_3 (by decide) k_11
          have k_87 : f_80 (gr g h0 7) = .inl (gc g 1, 1812, .inr (.inl im)) := Kp.at kc_83 i_4 (by decide) k_12
          have k_88 : f_80 (gr g h0 8) = .inl (gc g 3, 2, .inl kt) := Kp.at kc_83 i_5 (by decide) k_13
          have k_84 : f_80 h0 = .inr (12, [.int (0 : Int32), .int (-5 : Int32), .ref (gr g h0 2), .ref (gr g h0 3), .ref (gr g h0 4), .ref (gr g h0 5), .ref (gr g h0 6), .ref (gr g h0 7), .ref (gr g h0 8), .ref (gr g h0 9), .int z10, .ref (gr g h0 11), .int z12, .int z13, .int z14, .int z15, .long z16, .int z17, .int z18, .ref (gr g h0 19), .ref (gr g h0 20), .ref (gr g h0 21), .ref (gr g h0 22), .int z23, .long z24, .long z25, .long z26]) := k_84
          have kp_89 := Kp.call kp_8 kc_83 (by decide)
          generalize H1 = H at hI hS ⊢
          refine W.widen (k := 0) (n := 0) (Nat.le_of_ble_eq_true rfl) (Nat.le_of_ble_eq_true rfl) ?_
          have w_81 : r_82.toInt = (-5 : Int32).toInt := w_81
          have g_90 : Int32.toInt ((-5)) = (-5) := by decide
          exact W.iret (v := r_82) hx hb hr (fun t ht hW => ⟨⟨r_82, (), rfl, trivial, ⟨f_80, k_ret ht hI, kp_89, (0 : Int32), (-5 : Int32), z10, z12, z13, z14, z15, z16, z17, z18, z23, z24, z25, z26, q, u, im, kt, k_84, (by first | omega | decide), (by first | omega | decide), (by first | omega | decide), k_85, hc1_ok, k_86, k_87, k_88, hU⟩⟩, hS.F ht⟩) hS.2.2 dX12_join_65
      · have c_36 := kn_eq rfl (by decide : Int32.toInt 0 = 0) c_36
        exact J_44  _ _ _ hI hS  (lv_sub hl [0, 1] rfl)
  · have c_16 := kc_eq rfl (by decide : Int32.toInt 0 = 0) c_16
    refine lv_aload_n hx hb dX12_join_13 rfl (lv_at hl 0 rfl) ?_
    refine lv_bipush (v := (-2)) hx hb dX12_join_14 (by decide) ?_
    refine va_calli (va_runV (As := [.int (-2)]) (rest := []) ⟨hx, hb, hml, hown, hts⟩ (c_X12_refuse l dC dI g A hG f_6 h0 (-2) 0 z1 z10 z12 z13 z14 z15 z16 z17 z18 z23 z24 z25 z26 i_h0 k_9 (by first | omega | (simp only [k_c0]; omega)) (by first | omega | (simp only [k_c0]; omega)) (by first | omega | (simp only [k_c0]; omega)) (by first | omega | decide | (simp only [show Int32.toInt (-2) = (-2) from by decide] <;> omega))) (cwV 1 hts (gi_V (fun w_ h0_ => ⟨List.mem_cons_of_mem _ (List.mem_append_right _ (List.mem_append_right _ (List.mem_append_right _ (List.mem_append_right _ (List.mem_append_left _ h0_))))), (tb_c_X12_refuse w_ h0_).2⟩) (List.mem_cons_of_mem _ (List.mem_append_left _ (List.mem_of_getElem? (i := 8) rfl))) (List.mem_cons_of_mem _ (List.mem_append_left _ (List.mem_of_getElem? (i := 9) rfl))) (List.mem_cons_of_mem _ (List.mem_append_left _ (List.mem_of_getElem? (i := 10) rfl))) (List.mem_cons_of_mem _ (List.mem_append_left _ (List.mem_of_getElem? (i := 4) rfl)))) rfl rfl rfl (by decide +kernel) ⟨Nat.le_of_ble_eq_true rfl, Nat.le_of_ble_eq_true rfl⟩) ⟨fun a U g mk q => ⟨q.1, q.2.calling rfl rfl⟩, k_recv hK hI i_h0.1 k_9 (ci := 12) rfl, fun U hU hW => ⟨rfl, kIn.of hI hK hE hS hU hW⟩⟩ rfl rfl hl.1 rfl (lv_room (Nat.le_of_ble_eq_true rfl)) dX12_join_16 ⟨Nat.le_of_ble_eq_true rfl, Nat.le_of_ble_eq_true rfl⟩) hS (fun q _ h => h) (fun q h => h) (fun r_93 u9 t H1 locs ht hvm w_92 hB hz1 hk1 hS => ?_)
    obtain ⟨f_91, hI, kc_94, k_95⟩ := hB
    rw [ht] at hI
    have k_96 : f_91 (gr g h0 4) = .inl (gc g 1, 906, .inr (.inl q)) := Kp.at kc_94 i_1 (by decide) k_10
    have k_97 : f_91 (gr g h0 5) = .inl (gc g 1, 9060, .inr (.inl u)) := Kp.at kc_94 i_3 (by decide) k_11
    have k_98 : f_91 (gr g h0 7) = .inl (gc g 1, 1812, .inr (.inl im)) := Kp.at kc_94 i_4 (by decide) k_12
    have k_99 : f_91 (gr g h0 8) = .inl (gc g 3, 2, .inl kt) := Kp.at kc_94 i_5 (by decide) k_13
    have k_95 : f_91 h0 = .inr (12, [.int (0 : Int32), .int (-2 : Int32), .ref (gr g h0 2), .ref (gr g h0 3), .ref (gr g h0 4), .ref (gr g h0 5), .ref (gr g h0 6), .ref (gr g h0 7), .ref (gr g h0 8), .ref (gr g h0 9), .int z10, .ref (gr g h0 11), .int z12, .int z13, .int z14, .int z15, .long z16, .int z17, .int z18, .ref (gr g h0 19), .ref (gr g h0 20), .ref (gr g h0 21), .ref (gr g h0 22), .int z23, .long z24, .long z25, .long z26]) := k_95
    have kp_100 := Kp.call kp_8 kc_94 (by decide)
    generalize H1 = H at hI hS ⊢
    refine W.widen (k := 0) (n := 0) (Nat.le_of_ble_eq_true rfl) (Nat.le_of_ble_eq_true rfl) ?_
    have w_92 : r_93.toInt = (-2 : Int32).toInt := w_92
    have g_101 : Int32.toInt ((-2)) = (-2) := by decide
    exact W.iret (v := r_93) hx hb hr (fun t ht hW => ⟨⟨r_93, (), rfl, trivial, ⟨f_91, k_ret ht hI, kp_100, (0 : Int32), (-2 : Int32), z10, z12, z13, z14, z15, z16, z17, z18, z23, z24, z25, z26, q, u, im, kt, k_95, (by first | omega | decide), (by first | omega | decide), (by first | omega | decide), k_96, hc1_ok, k_97, k_98, k_99, hU⟩⟩, hS.F ht⟩) hS.2.2 dX12_join_19
theorem tw_968 : q_g (.code yX12_leave cX12_leave 2 (some .int)) := ⟨(List.mem_append_right _ (List.mem_of_getElem? (i := 1282) (by decide +kernel))), good_of_word (by decide +kernel)⟩
def ow_c_X12_leave : List Cond := [.fieldLink RX12 67 "DeadlineShareModel" "thrown" "I", .methodLink RX12 142 yX12_isTask, .instanceMethod yX12_isTask, .selects RX12 yX12_isTask yX12_isTask, .initialized RX12, .fieldLink RX12 16 "DeadlineShareModel" "row" "[J", .methodLink RX12 87 yX12_at, .static yX12_at, .methodLink RX12 139 yX12_remember, .instanceMethod yX12_remember, .selects RX12 yX12_remember yX12_remember, .methodLink RX12 154 yX12_leaves, .instanceMethod yX12_leaves, .selects RX12 yX12_leaves yX12_leaves, .methodLink RX12 105 yX12_heavy, .instanceMethod yX12_heavy, .selects RX12 yX12_heavy yX12_heavy, .methodLink RX12 80 yX12_tell, .instanceMethod yX12_tell, .selects RX12 yX12_tell yX12_tell, .methodLink RX12 76 yX12_refuse, .instanceMethod yX12_refuse, .selects RX12 yX12_refuse yX12_refuse]
def wq_c_X12_leave : List Cond := .code yX12_leave cX12_leave 2 (some .int) :: (ow_c_X12_leave ++ (u_ws RX12 TX12 27 ++ (wq_c_X12_isTask ++ (wq_c_X12_at ++ (wq_c_X12_remember ++ (wq_c_X12_leaves ++ (wq_c_X12_heavy ++ (wq_c_X12_tell ++ (wq_c_X12_refuse ++ ([] : List Cond))))))))))
theorem tb_c_X12_leave : ∀ w ∈ wq_c_X12_leave, q_g w := by
  unfold wq_c_X12_leave ow_c_X12_leave
  exact q_cons tw_968 (q_app (q_cons tw_927 (q_cons tw_951 (q_cons tw_950 (q_cons tw_949 (q_cons tw_728 (q_cons tw_731 (q_cons tw_734 (q_cons tw_733 (q_cons tw_963 (q_cons tw_962 (q_cons tw_961 (q_cons tw_834 (q_cons tw_833 (q_cons tw_832 (q_cons tw_752 (q_cons tw_751 (q_cons tw_750 (q_cons tw_960 (q_cons tw_959 (q_cons tw_958 (q_cons tw_966 (q_cons tw_965 (q_cons tw_964 q_nil))))))))))))))))))))))) (q_app tu_X12 (q_app tb_c_X12_isTask (q_app tb_c_X12_at (q_app tb_c_X12_remember (q_app tb_c_X12_leaves (q_app tb_c_X12_heavy (q_app tb_c_X12_tell (q_app tb_c_X12_refuse q_nil)))))))))
set_option maxHeartbeats 4000000 in
set_option maxRecDepth 100000 in
theorem c_X12_leave (l : Launch) (dC : Nat → ClassId) (dI : Nat → Nat → Nat) (g : kG) (A : Nat → Prop) (hG : kWf g) (f : Nat → va_E) (h0 : Nat) (p1 : Int32) (z0 : Int32) (z1 : Int32) (z10 : Int32) (z12 : Int32) (z13 : Int32) (z14 : Int32) (z15 : Int32) (z16 : Int64) (z17 : Int32) (z18 : Int32) (z23 : Int32) (z24 : Int64) (z25 : Int64) (z26 : Int64) (q : Nat → Int64) (u : Nat → Int64) (im : Nat → Int64) (kt : Nat → Int32) (i_h0 : ik g 12 h0) (hc0 : f h0 = .inr (12, [.int z0, .int z1, .ref (gr g h0 2), .ref (gr g h0 3), .ref (gr g h0 4), .ref (gr g h0 5), .ref (gr g h0 6), .ref (gr g h0 7), .ref (gr g h0 8), .ref (gr g h0 9), .int z10, .ref (gr g h0 11), .int z12, .int z13, .int z14, .int z15, .long z16, .int z17, .int z18, .ref (gr g h0 19), .ref (gr g h0 20), .ref (gr g h0 21), .ref (gr g h0 22), .int z23, .long z24, .long z25, .long z26])) (hc0_10 : 0 ≤ z10.toInt ∧ z10.toInt ≤ 10) (hc0_12 : 0 ≤ z12.toInt ∧ z12.toInt ≤ 200) (hc0_23 : 0 ≤ z23.toInt ∧ z23.toInt ≤ 8) (hc1 : f (gr g h0 4) = .inl (gc g 1, 906, .inr (.inl q))) (hc1_ok : RowOK q) (hc2 : f (gr g h0 5) = .inl (gc g 1, 9060, .inr (.inl u))) (hc3 : f (gr g h0 7) = .inl (gc g 1, 1812, .inr (.inl im))) (hc4 : f (gr g h0 8) = .inl (gc g 3, 2, .inl kt)) (hU : UIq z10 u im kt) : Met l yX12_leave wq_c_X12_leave ({ frames := 5, cells := 0, slots := 0, locals := 107 } : Room) (va_Pc [.ref h0, .int p1] (fun U => kIn dC dI g A f U)) (va_Qi (fun (r : Int32) (_ : Unit) => True) (fun (_ : Unit) t => ∃ f1 : Nat → va_E, Iv dC dI g A f1 t.heap ∧ Kp g [12, 30, 32, 33, 37] f f1 ∧ ∃ (w0 : Int32) (w1 : Int32) (w10 : Int32) (w12 : Int32) (w13 : Int32) (w14 : Int32) (w15 : Int32) (w16 : Int64) (w17 : Int32) (w18 : Int32) (w23 : Int32) (w24 : Int64) (w25 : Int64) (w26 : Int64) (q1 : Nat → Int64) (u1 : Nat → Int64) (im1 : Nat → Int64) (ik1 : Nat → Int32), (f1 h0 = .inr (12, [.int w0, .int w1, .ref (gr g h0 2), .ref (gr g h0 3), .ref (gr g h0 4), .ref (gr g h0 5), .ref (gr g h0 6), .ref (gr g h0 7), .ref (gr g h0 8), .ref (gr g h0 9), .int w10, .ref (gr g h0 11), .int w12, .int w13, .int w14, .int w15, .long w16, .int w17, .int w18, .ref (gr g h0 19), .ref (gr g h0 20), .ref (gr g h0 21), .ref (gr g h0 22), .int w23, .long w24, .long w25, .long w26])) ∧ (0 ≤ w10.toInt ∧ w10.toInt ≤ 10) ∧ (0 ≤ w12.toInt ∧ w12.toInt ≤ 200) ∧ (0 ≤ w23.toInt ∧ w23.toInt ≤ 8) ∧ (f1 (gr g h0 4) = .inl (gc g 1, 906, .inr (.inl q1))) ∧ (RowOK q1) ∧ (f1 (gr g h0 5) = .inl (gc g 1, 9060, .inr (.inl u1))) ∧ (f1 (gr g h0 7) = .inl (gc g 1, 1812, .inr (.inl im1))) ∧ (f1 (gr g h0 8) = .inl (gc g 3, 2, .inl ik1)) ∧ (UIq w10 u1 im1 ik1)) A) 0 0 A := by
  refine Met.ofW (cc := cX12_leave) (maxL := 2) (ret := (some .int)) (by decide) rfl ?_
  intro p e s m args below meth c s₁ B hml hv
  obtain ⟨rfl, hI, hK, hE⟩ := hv
  have hx := B.exec
  have hb := B.bytes
  have hr := B.returns
  have hts := atoms_spec (ws := wq_c_X12_leave) B.pre
  have hown : s.vm.findClass RX12 = some m.cls := findClass_of_methodNamed B.named
  have hlocks := B.notSynchronized
  have hS : va_S A s.heap s.heap [] := va_S.rf
  have hk0 : Kp g [12, 30, 32, 33, 37] f f := Kp.rf
  have hl := lv_entry ([.ref h0, .int p1]) (n := 2) (Nat.le_of_ble_eq_true rfl)
  rw [lg_entry_eq]
  generalize (lg_sl ([.ref h0, .int p1]) ++ List.replicate (2 - (lg_sl ([.ref h0, .int p1])).length) Slot.unset).toArray = ls at hl ⊢
  have hl : lv_has ls 2 [(0, .ref h0), (1, .int p1)] := hl
  have i_1 := kw_12_4 hG i_h0
  have d_2 := rk_hd hc1_ok
  have i_3 := kw_12_5 hG i_h0
  have i_4 := kw_12_7 hG i_h0
  have i_5 := kw_12_8 hG i_h0
  refine lv_aload_n hx hb dX12_leave_0 rfl (lv_at hl 0 rfl) ?_
  refine lv_iconst (v := 0) hx hb dX12_leave_1 (by decide) ?_
  refine k_put (ci := 12) (v := .int 0) (ty := .int) (C := RX12) (T := TX12) (N := 27) hx hb hts (fun _ h0_ => List.mem_cons_of_mem _ (List.mem_append_right _ (List.mem_append_left _ h0_))) tyX12 tyX12_ok nmX12 hown hK hI hS i_h0.1 hc0 rfl 0 (by decide) (hts (.fieldLink RX12 67 "DeadlineShareModel" "thrown" "I") (List.mem_cons_of_mem _ (List.mem_append_left _ (List.mem_of_getElem? (i := 0) rfl)))) (fun _ h9 => h9) rfl (by decide +kernel) rfl rfl (Nat.le_of_ble_eq_true rfl) rfl (cl_12 i_h0 (by omega) (by omega) (by omega)) dX12_leave_2 (fun f_6 H locs e_7 hI hS => ?_)
  have k_9 : f_6 h0 = .inr (12, [.int 0, .int z1, .ref (gr g h0 2), .ref (gr g h0 3), .ref (gr g h0 4), .ref (gr g h0 5), .ref (gr g h0 6), .ref (gr g h0 7), .ref (gr g h0 8), .ref (gr g h0 9), .int z10, .ref (gr g h0 11), .int z12, .int z13, .int z14, .int z15, .long z16, .int z17, .int z18, .ref (gr g h0 19), .ref (gr g h0 20), .ref (gr g h0 21), .ref (gr g h0 22), .int z23, .long z24, .long z25, .long z26]) := by rw [e_7]; exact va_up_self _ _ _
  have k_10 : f_6 (gr g h0 4) = .inl (gc g 1, 906, .inr (.inl q)) := by rw [e_7, va_up_ne _ _ (ik_ne i_1 i_h0 (by decide))]; exact hc1
  have k_11 : f_6 (gr g h0 5) = .inl (gc g 1, 9060, .inr (.inl u)) := by rw [e_7, va_up_ne _ _ (ik_ne i_3 i_h0 (by decide))]; exact hc2
  have k_12 : f_6 (gr g h0 7) = .inl (gc g 1, 1812, .inr (.inl im)) := by rw [e_7, va_up_ne _ _ (ik_ne i_4 i_h0 (by decide))]; exact hc3
  have k_13 : f_6 (gr g h0 8) = .inl (gc g 3, 2, .inl kt) := by rw [e_7, va_up_ne _ _ (ik_ne i_5 i_h0 (by decide))]; exact hc4
  have kp_8 := Kp.put hk0 i_h0 (by decide) e_7
  refine lv_aload_n hx hb dX12_leave_5 rfl (lv_at hl 0 rfl) ?_
  refine lv_iload_n hx hb dX12_leave_6 rfl (lv_at hl 1 rfl) ?_
  refine va_calli (va_runV (As := [.int p1]) (rest := []) ⟨hx, hb, hml, hown, hts⟩ (c_X12_isTask l dC dI g A hG f_6 h0 p1 q i_h0 k_10 hc1_ok) (cwV 1 hts (gi_V (fun w_ h0_ => ⟨List.mem_cons_of_mem _ (List.mem_append_right _ (List.mem_append_right _ (List.mem_append_left _ h0_))), (tb_c_X12_isTask w_ h0_).2⟩) (List.mem_cons_of_mem _ (List.mem_append_left _ (List.mem_of_getElem? (i := 1) rfl))) (List.mem_cons_of_mem _ (List.mem_append_left _ (List.mem_of_getElem? (i := 2) rfl))) (List.mem_cons_of_mem _ (List.mem_append_left _ (List.mem_of_getElem? (i := 3) rfl))) (List.mem_cons_of_mem _ (List.mem_append_left _ (List.mem_of_getElem? (i := 4) rfl)))) rfl rfl rfl (by decide +kernel) ⟨Nat.le_of_ble_eq_true rfl, Nat.le_of_ble_eq_true rfl⟩) ⟨fun a U g mk q => ⟨q.1, q.2.calling rfl rfl⟩, k_recv hK hI i_h0.1 k_9 (ci := 12) rfl, fun U hU hW => ⟨rfl, kIn.of hI hK hE hS hU hW⟩⟩ rfl rfl hl.1 rfl (lv_room (Nat.le_of_ble_eq_true rfl)) dX12_leave_7 ⟨Nat.le_of_ble_eq_true rfl, Nat.le_of_ble_eq_true rfl⟩) hS (fun q _ h => h) (fun q h => h) (fun r_15 u9 t H1 locs ht hvm w_14 hB hz1 hk1 hS => ?_)
  have hI : Iv dC dI g A f_6 t.heap := hB
  rw [ht] at hI
  generalize H1 = H at hI hS ⊢
  refine W.widen (k := 0) (n := 0) (Nat.le_of_ble_eq_true rfl) (Nat.le_of_ble_eq_true rfl) ?_
  have w_14 : (r_15.toInt = 0 ∨ r_15.toInt = 1) ∧ (r_15.toInt = 0 ∨ (0 ≤ p1.toInt ∧ p1.toInt < (q 0).toInt)) := w_14
  refine lv_if_ne (tgt := 20) hx hb dX12_leave_10 (by decide) (fun c_16 => ?_) (fun c_16 => ?_)
  · have c_16 := kn_eq rfl (by decide : Int32.toInt 0 = 0) c_16
    refine lv_aload_n hx hb dX12_leave_20 rfl (lv_at hl 0 rfl) ?_
    refine k_get (ci := 12) (v := .ref (gr g h0 4)) (C := RX12) (T := TX12) (N := 27) hx hb hts (fun _ h0_ => List.mem_cons_of_mem _ (List.mem_append_right _ (List.mem_append_left _ h0_))) hown hK hI i_h0.1 k_9 rfl 4 (by decide) (hts (.fieldLink RX12 16 "DeadlineShareModel" "row" "[J") (List.mem_cons_of_mem _ (List.mem_append_left _ (List.mem_of_getElem? (i := 5) rfl)))) (fun _ h9 => h9) rfl dX12_leave_21 ?_
    obtain ⟨m_19, em_19, tm_19⟩ := k_nat (x := p1) (by omega)
    refine lv_iload_n hx hb dX12_leave_24 rfl (lv_at hl 1 rfl) ?_
    refine k_topi (y := nI m_19) em_19 ?_
    refine va_calli (va_runS (As := [.int (nI m_19)]) (rest := [.ref (gr g h0 4)]) ⟨hx, hb, hml, hown, hts⟩ (c_X12_at l dC dI g A hG f_6 m_19) (va_cwS 1 hts (gi_S (fun w_ h0_ => ⟨List.mem_cons_of_mem _ (List.mem_append_right _ (List.mem_append_right _ (List.mem_append_right _ (List.mem_append_left _ h0_)))), (tb_c_X12_at w_ h0_).2⟩) (List.mem_cons_of_mem _ (List.mem_append_left _ (List.mem_of_getElem? (i := 6) rfl))) (List.mem_cons_of_mem _ (List.mem_append_left _ (List.mem_of_getElem? (i := 7) rfl))) (List.mem_cons_of_mem _ (List.mem_append_left _ (List.mem_of_getElem? (i := 4) rfl)))) rfl rfl rfl (by decide +kernel) ⟨Nat.le_of_ble_eq_true rfl, Nat.le_of_ble_eq_true rfl⟩) ⟨fun a U g mk q => ⟨q.1, q.2.calling rfl rfl⟩, fun U hU hW => ⟨rfl, kIn.of hI hK hE hS hU hW⟩⟩ rfl rfl hl.1 rfl (lv_room (Nat.le_of_ble_eq_true rfl)) dX12_leave_25 ⟨Nat.le_of_ble_eq_true rfl, Nat.le_of_ble_eq_true rfl⟩) hS (fun q _ h => h) (fun q h => h) (fun r_21 u9 t H1 locs ht hvm w_20 hB hz1 hk1 hS => ?_)
    have hI : Iv dC dI g A f_6 t.heap := hB
    rw [ht] at hI
    generalize H1 = H at hI hS ⊢
    refine W.widen (k := 0) (n := 0) (Nat.le_of_ble_eq_true rfl) (Nat.le_of_ble_eq_true rfl) ?_
    have w_20 : r_21 = nI (6 + 43 * m_19) := w_20
    refine k_topi (y := nI (6 + 43 * m_19)) w_20 ?_
    refine lv_iconst (v := 2) hx hb dX12_leave_28 (by decide) ?_
    refine lv_iadd hx hb dX12_leave_29 ?_
    refine k_topi (y := nI (6 + 43 * m_19 + 2)) ((nI_add (6 + 43 * m_19) 2).trans (congrArg nI (by omega))) ?_
    refine k_lald hx hb hK hI i_1.1 1 k_10 rfl (vp_in_nI (by omega) (by omega)) dX12_leave_30 ?_
    refine k_topl (y := q (6 + 43 * m_19 + 2)) (congrArg q (nI_clamp (by omega))) ?_
    refine lv_lconst (v := 0) hx hb dX12_leave_31 (by decide) ?_
    refine W.lcmp hx hb dX12_leave_32 ?_
    refine lv_if_ne (tgt := 43) hx hb dX12_leave_33 (by decide) (fun c_22 => ?_) (fun c_22 => ?_)
    · have c_22 := ln_eq rfl (by decide : Int64.toInt 0 = 0) (fun h9 => c_22 ((lg_cmp_eq _ _).mpr h9))
      refine lv_aload_n hx hb dX12_leave_43 rfl (lv_at hl 0 rfl) ?_
      refine lv_iconst (v := 2) hx hb dX12_leave_44 (by decide) ?_
      refine va_callv (va_runV (As := [.int 2]) (rest := []) ⟨hx, hb, hml, hown, hts⟩ (c_X12_remember l dC dI g A hG f_6 h0 2 0 z1 z10 z12 z13 z14 z15 z16 z17 z18 z23 z24 z25 z26 q u im kt i_h0 k_9 (by first | omega | (simp only [k_c0]; omega)) (by first | omega | (simp only [k_c0]; omega)) (by first | omega | (simp only [k_c0]; omega)) k_10 hc1_ok k_11 k_12 k_13 (by first | omega | decide | (simp only [show Int32.toInt 2 = 2 from by decide] <;> omega))) (cwV 1 hts (gi_V (fun w_ h0_ => ⟨List.mem_cons_of_mem _ (List.mem_append_right _ (List.mem_append_right _ (List.mem_append_right _ (List.mem_append_right _ (List.mem_append_left _ h0_))))), (tb_c_X12_remember w_ h0_).2⟩) (List.mem_cons_of_mem _ (List.mem_append_left _ (List.mem_of_getElem? (i := 8) rfl))) (List.mem_cons_of_mem _ (List.mem_append_left _ (List.mem_of_getElem? (i := 9) rfl))) (List.mem_cons_of_mem _ (List.mem_append_left _ (List.mem_of_getElem? (i := 10) rfl))) (List.mem_cons_of_mem _ (List.mem_append_left _ (List.mem_of_getElem? (i := 4) rfl)))) rfl rfl rfl (by decide +kernel) ⟨Nat.le_of_ble_eq_true rfl, Nat.le_of_ble_eq_true rfl⟩) ⟨fun a U g mk q => ⟨q.1, q.2.calling rfl rfl⟩, k_recv hK hI i_h0.1 k_9 (ci := 12) rfl, fun U hU hW => ⟨rfl, kIn.of hI hK hE hS hU hW⟩⟩ rfl rfl hl.1 rfl (lv_room (Nat.le_of_ble_eq_true rfl)) dX12_leave_45 ⟨Nat.le_of_ble_eq_true rfl, Nat.le_of_ble_eq_true rfl⟩) hS (fun q _ h => h) (fun q h => h) (fun u9 t H1 locs ht hvm _ hB hz1 hk1 hS => ?_)
      obtain ⟨f_23, hI, kc_25, w10_26, u1_27, k_28, z_29, k_30, z_31⟩ := hB
      rw [ht] at hI
      have k_32 : f_23 (gr g h0 4) = .inl (gc g 1, 906, .inr (.inl q)) := Kp.at kc_25 i_1 (by decide) k_10
      have k_33 : f_23 (gr g h0 7) = .inl (gc g 1, 1812, .inr (.inl im)) := Kp.at kc_25 i_4 (by decide) k_12
      have k_34 : f_23 (gr g h0 8) = .inl (gc g 3, 2, .inl kt) := Kp.at kc_25 i_5 (by decide) k_13
      have k_28 : f_23 h0 = .inr (12, [.int (0 : Int32), .int z1, .ref (gr g h0 2), .ref (gr g h0 3), .ref (gr g h0 4), .ref (gr g h0 5), .ref (gr g h0 6), .ref (gr g h0 7), .ref (gr g h0 8), .ref (gr g h0 9), .int w10_26, .ref (gr g h0 11), .int z12, .int z13, .int z14, .int z15, .long z16, .int z17, .int z18, .ref (gr g h0 19), .ref (gr g h0 20), .ref (gr g h0 21), .ref (gr g h0 22), .int z23, .long z24, .long z25, .long z26]) := k_28
      have z_29 : 0 ≤ w10_26.toInt ∧ w10_26.toInt ≤ 10 := z_29
      have z_31 : UIq w10_26 u1_27 im kt := z_31
      have kp_35 := Kp.call kp_8 kc_25 (by decide)
      generalize H1 = H at hI hS ⊢
      refine W.widen (k := 0) (n := 0) (Nat.le_of_ble_eq_true rfl) (Nat.le_of_ble_eq_true rfl) ?_
      refine lv_aload_n hx hb dX12_leave_48 rfl (lv_at hl 0 rfl) ?_
      refine lv_iload_n hx hb dX12_leave_49 rfl (lv_at hl 1 rfl) ?_
      refine k_topi (y := nI m_19) em_19 ?_
      refine va_callv (va_runV (As := [.int (nI m_19)]) (rest := []) ⟨hx, hb, hml, hown, hts⟩ (c_X12_leaves l dC dI g A hG f_23 h0 m_19 q i_h0 k_32 hc1_ok (by first | omega | decide | (simp only [k_c0, k_c1, k_cm1] <;> omega))) (cwV 1 hts (gi_V (fun w_ h0_ => ⟨List.mem_cons_of_mem _ (List.mem_append_right _ (List.mem_append_right _ (List.mem_append_right _ (List.mem_append_right _ (List.mem_append_right _ (List.mem_append_left _ h0_)))))), (tb_c_X12_leaves w_ h0_).2⟩) (List.mem_cons_of_mem _ (List.mem_append_left _ (List.mem_of_getElem? (i := 11) rfl))) (List.mem_cons_of_mem _ (List.mem_append_left _ (List.mem_of_getElem? (i := 12) rfl))) (List.mem_cons_of_mem _ (List.mem_append_left _ (List.mem_of_getElem? (i := 13) rfl))) (List.mem_cons_of_mem _ (List.mem_append_left _ (List.mem_of_getElem? (i := 4) rfl)))) rfl rfl rfl (by decide +kernel) ⟨Nat.le_of_ble_eq_true rfl, Nat.le_of_ble_eq_true rfl⟩) ⟨fun a U g mk q => ⟨q.1, q.2.calling rfl rfl⟩, k_recv hK hI i_h0.1 k_28 (ci := 12) rfl, fun U hU hW => ⟨rfl, kIn.of hI hK hE hS hU hW⟩⟩ rfl rfl hl.1 rfl (lv_room (Nat.le_of_ble_eq_true rfl)) dX12_leave_50 ⟨Nat.le_of_ble_eq_true rfl, Nat.le_of_ble_eq_true rfl⟩) hS (fun q _ h => h) (fun q h => h) (fun u9 t H1 locs ht hvm _ hB hz1 hk1 hS => ?_)
      obtain ⟨f_36, hI, kc_38, q1_39, k_40, z_41, z_42, z_43⟩ := hB
      rw [ht] at hI
      have k_44 : f_36 (gr g h0 7) = .inl (gc g 1, 1812, .inr (.inl im)) := Kp.at kc_38 i_4 (by decide) k_33
      have k_45 : f_36 (gr g h0 8) = .inl (gc g 3, 2, .inl kt) := Kp.at kc_38 i_5 (by decide) k_34
      have k_46 : f_36 h0 = .inr (12, [.int (0 : Int32), .int z1, .ref (gr g h0 2), .ref (gr g h0 3), .ref (gr g h0 4), .ref (gr g h0 5), .ref (gr g h0 6), .ref (gr g h0 7), .ref (gr g h0 8), .ref (gr g h0 9), .int w10_26, .ref (gr g h0 11), .int z12, .int z13, .int z14, .int z15, .long z16, .int z17, .int z18, .ref (gr g h0 19), .ref (gr g h0 20), .ref (gr g h0 21), .ref (gr g h0 22), .int z23, .long z24, .long z25, .long z26]) := Kp.at kc_38 i_h0 (by decide) k_28
      have k_47 : f_36 (gr g h0 5) = .inl (gc g 1, 9060, .inr (.inl u1_27)) := Kp.at kc_38 i_3 (by decide) k_30
      have z_41 : RowOK q1_39 := z_41
      have d_48 := rk_hd z_41
      have z_42 : (q1_39 0).toInt = (q 0).toInt := z_42
      have z_43 : (q1_39 1).toInt = (q 1).toInt := z_43
      have kp_49 := Kp.call kp_35 kc_38 (by decide)
      generalize H1 = H at hI hS ⊢
      refine W.widen (k := 0) (n := 0) (Nat.le_of_ble_eq_true rfl) (Nat.le_of_ble_eq_true rfl) ?_
      refine lv_aload_n hx hb dX12_leave_53 rfl (lv_at hl 0 rfl) ?_
      refine k_get (ci := 12) (v := .ref (gr g h0 4)) (C := RX12) (T := TX12) (N := 27) hx hb hts (fun _ h0_ => List.mem_cons_of_mem _ (List.mem_append_right _ (List.mem_append_left _ h0_))) hown hK hI i_h0.1 k_46 rfl 4 (by decide) (hts (.fieldLink RX12 16 "DeadlineShareModel" "row" "[J") (List.mem_cons_of_mem _ (List.mem_append_left _ (List.mem_of_getElem? (i := 5) rfl)))) (fun _ h9 => h9) rfl dX12_leave_54 ?_
      refine lv_iload_n hx hb dX12_leave_57 rfl (lv_at hl 1 rfl) ?_
      refine k_topi (y := nI m_19) em_19 ?_
      refine va_calli (va_runS (As := [.int (nI m_19)]) (rest := [.ref (gr g h0 4)]) ⟨hx, hb, hml, hown, hts⟩ (c_X12_at l dC dI g A hG f_36 m_19) (va_cwS 1 hts (gi_S (fun w_ h0_ => ⟨List.mem_cons_of_mem _ (List.mem_append_right _ (List.mem_append_right _ (List.mem_append_right _ (List.mem_append_left _ h0_)))), (tb_c_X12_at w_ h0_).2⟩) (List.mem_cons_of_mem _ (List.mem_append_left _ (List.mem_of_getElem? (i := 6) rfl))) (List.mem_cons_of_mem _ (List.mem_append_left _ (List.mem_of_getElem? (i := 7) rfl))) (List.mem_cons_of_mem _ (List.mem_append_left _ (List.mem_of_getElem? (i := 4) rfl)))) rfl rfl rfl (by decide +kernel) ⟨Nat.le_of_ble_eq_true rfl, Nat.le_of_ble_eq_true rfl⟩) ⟨fun a U g mk q => ⟨q.1, q.2.calling rfl rfl⟩, fun U hU hW => ⟨rfl, kIn.of hI hK hE hS hU hW⟩⟩ rfl rfl hl.1 rfl (lv_room (Nat.le_of_ble_eq_true rfl)) dX12_leave_58 ⟨Nat.le_of_ble_eq_true rfl, Nat.le_of_ble_eq_true rfl⟩) hS (fun q _ h => h) (fun q h => h) (fun r_53 u9 t H1 locs ht hvm w_52 hB hz1 hk1 hS => ?_)
      have hI : Iv dC dI g A f_36 t.heap := hB
      rw [ht] at hI
      generalize H1 = H at hI hS ⊢
      refine W.widen (k := 0) (n := 0) (Nat.le_of_ble_eq_true rfl) (Nat.le_of_ble_eq_true rfl) ?_
      have w_52 : r_53 = nI (6 + 43 * m_19) := w_52
      refine k_topi (y := nI (6 + 43 * m_19)) w_52 ?_
      refine lv_bipush (v := 13) hx hb dX12_leave_61 (by decide) ?_
      refine lv_iadd hx hb dX12_leave_63 ?_
      refine k_topi (y := nI (6 + 43 * m_19 + 13)) ((nI_add (6 + 43 * m_19) 13).trans (congrArg nI (by omega))) ?_
      refine lv_lconst (v := 0) hx hb dX12_leave_64 (by decide) ?_
      refine k_last hx hb hK hI hS i_1.1 1 k_40 rfl (vp_in_nI (by omega) (by omega)) (cl_32 i_1) dX12_leave_65 (fun f_54 H locs e_55 hI hS => ?_)
      generalize eq_56 : vp_updL q1_39 (Int32.toNatClampNeg (nI (6 + 43 * m_19 + 13))) 0 = q_56 at e_55
      have k_58 : f_54 (gr g h0 7) = .inl (gc g 1, 1812, .inr (.inl im)) := by rw [e_55, va_up_ne _ _ (ik_ne i_4 i_1 (by decide))]; exact k_44
      have k_59 : f_54 (gr g h0 8) = .inl (gc g 3, 2, .inl kt) := by rw [e_55, va_up_ne _ _ (ik_ne i_5 i_1 (by decide))]; exact k_45
      have k_60 : f_54 h0 = .inr (12, [.int (0 : Int32), .int z1, .ref (gr g h0 2), .ref (gr g h0 3), .ref (gr g h0 4), .ref (gr g h0 5), .ref (gr g h0 6), .ref (gr g h0 7), .ref (gr g h0 8), .ref (gr g h0 9), .int w10_26, .ref (gr g h0 11), .int z12, .int z13, .int z14, .int z15, .long z16, .int z17, .int z18, .ref (gr g h0 19), .ref (gr g h0 20), .ref (gr g h0 21), .ref (gr g h0 22), .int z23, .long z24, .long z25, .long z26]) := by rw [e_55, va_up_ne _ _ (ik_ne i_h0 i_1 (by decide))]; exact k_46
      have k_61 : f_54 (gr g h0 5) = .inl (gc g 1, 9060, .inr (.inl u1_27)) := by rw [e_55, va_up_ne _ _ (ik_ne i_3 i_1 (by decide))]; exact k_47
      have k_62 : f_54 (gr g h0 4) = .inl (gc g 1, 906, .inr (.inl q_56)) := by rw [e_55]; exact va_up_self _ _ _
      have kp_57 := Kp.put kp_49 i_1 (by decide) e_55
      have u_63 : vp_updL q1_39 (6 + 43 * m_19 + 13) 0 = q_56 := by rw [← eq_56, show Int32.toNatClampNeg (nI (6 + 43 * m_19 + 13)) = 6 + 43 * m_19 + 13 from (nI_clamp (by omega))]
      have ok_64 : RowOK q_56 := by rw [← u_63]; exact rk_upd z_41 (by rw [show Int64.toInt 0 = 0 from by decide]; refine ⟨⟨by omega, by omega, by omega, by omega, by omega⟩, fun t9 ht9 => ⟨by omega, by omega, by omega, by omega, by omega, by omega⟩, fun t9 k9 ht9 hk9 => ⟨by omega, by omega, by omega⟩, by omega⟩)
      have d_65 := rk_hd ok_64
      have n_66 : (q_56 0).toInt = (q1_39 0).toInt := by rw [← u_63, pk_uLn (by omega)]
      have n_67 : (q_56 1).toInt = (q1_39 1).toInt := by rw [← u_63, pk_uLn (by omega)]
      have n_68 : (q_56 3).toInt = (q1_39 3).toInt := by rw [← u_63, pk_uLn (by omega)]
      have n_69 : (q_56 4).toInt = (q1_39 4).toInt := by rw [← u_63, pk_uLn (by omega)]
      have n_70 : (q_56 5).toInt = (q1_39 5).toInt := by rw [← u_63, pk_uLn (by omega)]
      refine lv_aload_n hx hb dX12_leave_66 rfl (lv_at hl 0 rfl) ?_
      refine lv_aload_n hx hb dX12_leave_67 rfl (lv_at hl 0 rfl) ?_
      refine va_calll (va_runV (As := []) (rest := [.ref h0]) ⟨hx, hb, hml, hown, hts⟩ (c_X12_heavy l dC dI g A hG f_54 h0 q_56 i_h0 k_62 ok_64) (cwV 0 hts (gi_V (fun w_ h0_ => ⟨List.mem_cons_of_mem _ (List.mem_append_right _ (List.mem_append_right _ (List.mem_append_right _ (List.mem_append_right _ (List.mem_append_right _ (List.mem_append_right _ (List.mem_append_left _ h0_))))))), (tb_c_X12_heavy w_ h0_).2⟩) (List.mem_cons_of_mem _ (List.mem_append_left _ (List.mem_of_getElem? (i := 14) rfl))) (List.mem_cons_of_mem _ (List.mem_append_left _ (List.mem_of_getElem? (i := 15) rfl))) (List.mem_cons_of_mem _ (List.mem_append_left _ (List.mem_of_getElem? (i := 16) rfl))) (List.mem_cons_of_mem _ (List.mem_append_left _ (List.mem_of_getElem? (i := 4) rfl)))) rfl rfl rfl (by decide +kernel) ⟨Nat.le_of_ble_eq_true rfl, Nat.le_of_ble_eq_true rfl⟩) ⟨fun a U g mk q => ⟨q.1, q.2.calling rfl rfl⟩, k_recv hK hI i_h0.1 k_60 (ci := 12) rfl, fun U hU hW => ⟨rfl, kIn.of hI hK hE hS hU hW⟩⟩ rfl rfl hl.1 rfl (lv_room (Nat.le_of_ble_eq_true rfl)) dX12_leave_68 ⟨Nat.le_of_ble_eq_true rfl, Nat.le_of_ble_eq_true rfl⟩) hS (fun q _ h => h) (fun q h => h) (fun r_72 u9 t H1 locs ht hvm w_71 hB hz1 hk1 hS => ?_)
      have hI : Iv dC dI g A f_54 t.heap := hB
      rw [ht] at hI
      generalize H1 = H at hI hS ⊢
      refine W.widen (k := 0) (n := 0) (Nat.le_of_ble_eq_true rfl) (Nat.le_of_ble_eq_true rfl) ?_
      have w_71 : 0 ≤ r_72.toInt ∧ r_72.toInt ≤ 96 ∧ ∀ t : Nat, (t : Int) < (q_56 0).toInt → (q_56 (6 + 43 * t + 2)).toInt = 1 → 1 ≤ r_72.toInt := w_71
      refine lv_l2i (v := r_72.toInt32) hx hb dX12_leave_71 rfl ?_
      refine lv_topi (fun v_73 ev_73 => ?_)
      have tv_73 := k_l2i r_72
      rw [← ev_73] at tv_73
      refine va_calli (va_runV (As := [.int v_73]) (rest := []) ⟨hx, hb, hml, hown, hts⟩ (c_X12_tell l dC dI g A hG f_54 h0 v_73 (0 : Int32) z1 w10_26 z12 z13 z14 z15 z16 z17 z18 z23 z24 z25 z26 i_h0 k_60 (by first | omega | (simp only [k_c0]; omega)) (by first | omega | (simp only [k_c0]; omega)) (by first | omega | (simp only [k_c0]; omega))) (cwV 1 hts (gi_V (fun w_ h0_ => ⟨List.mem_cons_of_mem _ (List.mem_append_right _ (List.mem_append_right _ (List.mem_append_right _ (List.mem_append_right _ (List.mem_append_right _ (List.mem_append_right _ (List.mem_append_right _ (List.mem_append_left _ h0_)))))))), (tb_c_X12_tell w_ h0_).2⟩) (List.mem_cons_of_mem _ (List.mem_append_left _ (List.mem_of_getElem? (i := 17) rfl))) (List.mem_cons_of_mem _ (List.mem_append_left _ (List.mem_of_getElem? (i := 18) rfl))) (List.mem_cons_of_mem _ (List.mem_append_left _ (List.mem_of_getElem? (i := 19) rfl))) (List.mem_cons_of_mem _ (List.mem_append_left _ (List.mem_of_getElem? (i := 4) rfl)))) rfl rfl rfl (by decide +kernel) ⟨Nat.le_of_ble_eq_true rfl, Nat.le_of_ble_eq_true rfl⟩) ⟨fun a U g mk q => ⟨q.1, q.2.calling rfl rfl⟩, k_recv hK hI i_h0.1 k_60 (ci := 12) rfl, fun U hU hW => ⟨rfl, kIn.of hI hK hE hS hU hW⟩⟩ rfl rfl hl.1 rfl (lv_room (Nat.le_of_ble_eq_true rfl)) dX12_leave_72 ⟨Nat.le_of_ble_eq_true rfl, Nat.le_of_ble_eq_true rfl⟩) hS (fun q _ h => h) (fun q h => h) (fun r_76 u9 t H1 locs ht hvm w_75 hB hz1 hk1 hS => ?_)
      obtain ⟨f_74, hI, kc_77, k_78⟩ := hB
      rw [ht] at hI
      have k_79 : f_74 (gr g h0 7) = .inl (gc g 1, 1812, .inr (.inl im)) := Kp.at kc_77 i_4 (by decide) k_58
      have k_80 : f_74 (gr g h0 8) = .inl (gc g 3, 2, .inl kt) := Kp.at kc_77 i_5 (by decide) k_59
      have k_81 : f_74 (gr g h0 5) = .inl (gc g 1, 9060, .inr (.inl u1_27)) := Kp.at kc_77 i_3 (by decide) k_61
      have k_82 : f_74 (gr g h0 4) = .inl (gc g 1, 906, .inr (.inl q_56)) := Kp.at kc_77 i_1 (by decide) k_62
      have k_78 : f_74 h0 = .inr (12, [.int (0 : Int32), .int 0, .ref (gr g h0 2), .ref (gr g h0 3), .ref (gr g h0 4), .ref (gr g h0 5), .ref (gr g h0 6), .ref (gr g h0 7), .ref (gr g h0 8), .ref (gr g h0 9), .int w10_26, .ref (gr g h0 11), .int z12, .int z13, .int z14, .int z15, .long z16, .int z17, .int z18, .ref (gr g h0 19), .ref (gr g h0 20), .ref (gr g h0 21), .ref (gr g h0 22), .int z23, .long z24, .long z25, .long z26]) := k_78
      have kp_83 := Kp.call kp_57 kc_77 (by decide)
      generalize H1 = H at hI hS ⊢
      refine W.widen (k := 0) (n := 0) (Nat.le_of_ble_eq_true rfl) (Nat.le_of_ble_eq_true rfl) ?_
      have w_75 : r_76.toInt = v_73.toInt := w_75
      exact W.iret (v := r_76) hx hb hr (fun t ht hW => ⟨⟨r_76, (), rfl, trivial, ⟨f_74, k_ret ht hI, kp_83, (0 : Int32), 0, w10_26, z12, z13, z14, z15, z16, z17, z18, z23, z24, z25, z26, q_56, u1_27, im, kt, k_78, (by first | omega | decide), (by first | omega | decide), (by first | omega | decide), k_82, ok_64, k_81, k_79, k_80, z_31⟩⟩, hS.F ht⟩) hS.2.2 dX12_leave_75
    · have c_22 := lc_eq rfl (by decide : Int64.toInt 0 = 0) ((lg_cmp_eq _ _).mp c_22)
      refine lv_aload_n hx hb dX12_leave_36 rfl (lv_at hl 0 rfl) ?_
      refine lv_bipush (v := (-4)) hx hb dX12_leave_37 (by decide) ?_
      refine va_calli (va_runV (As := [.int (-4)]) (rest := []) ⟨hx, hb, hml, hown, hts⟩ (c_X12_refuse l dC dI g A hG f_6 h0 (-4) 0 z1 z10 z12 z13 z14 z15 z16 z17 z18 z23 z24 z25 z26 i_h0 k_9 (by first | omega | (simp only [k_c0]; omega)) (by first | omega | (simp only [k_c0]; omega)) (by first | omega | (simp only [k_c0]; omega)) (by first | omega | decide | (simp only [show Int32.toInt (-4) = (-4) from by decide] <;> omega))) (cwV 1 hts (gi_V (fun w_ h0_ => ⟨List.mem_cons_of_mem _ (List.mem_append_right _ (List.mem_append_right _ (List.mem_append_right _ (List.mem_append_right _ (List.mem_append_right _ (List.mem_append_right _ (List.mem_append_right _ (List.mem_append_right _ (List.mem_append_left _ h0_))))))))), (tb_c_X12_refuse w_ h0_).2⟩) (List.mem_cons_of_mem _ (List.mem_append_left _ (List.mem_of_getElem? (i := 20) rfl))) (List.mem_cons_of_mem _ (List.mem_append_left _ (List.mem_of_getElem? (i := 21) rfl))) (List.mem_cons_of_mem _ (List.mem_append_left _ (List.mem_of_getElem? (i := 22) rfl))) (List.mem_cons_of_mem _ (List.mem_append_left _ (List.mem_of_getElem? (i := 4) rfl)))) rfl rfl rfl (by decide +kernel) ⟨Nat.le_of_ble_eq_true rfl, Nat.le_of_ble_eq_true rfl⟩) ⟨fun a U g mk q => ⟨q.1, q.2.calling rfl rfl⟩, k_recv hK hI i_h0.1 k_9 (ci := 12) rfl, fun U hU hW => ⟨rfl, kIn.of hI hK hE hS hU hW⟩⟩ rfl rfl hl.1 rfl (lv_room (Nat.le_of_ble_eq_true rfl)) dX12_leave_39 ⟨Nat.le_of_ble_eq_true rfl, Nat.le_of_ble_eq_true rfl⟩) hS (fun q _ h => h) (fun q h => h) (fun r_86 u9 t H1 locs ht hvm w_85 hB hz1 hk1 hS => ?_)
      obtain ⟨f_84, hI, kc_87, k_88⟩ := hB
      rw [ht] at hI
      have k_89 : f_84 (gr g h0 4) = .inl (gc g 1, 906, .inr (.inl q)) := Kp.at kc_87 i_1 (by decide) k_10
      have k_90 : f_84 (gr g h0 5) = .inl (gc g 1, 9060, .inr (.inl u)) := Kp.at kc_87 i_3 (by decide) k_11
      have k_91 : f_84 (gr g h0 7) = .inl (gc g 1, 1812, .inr (.inl im)) := Kp.at kc_87 i_4 (by decide) k_12
      have k_92 : f_84 (gr g h0 8) = .inl (gc g 3, 2, .inl kt) := Kp.at kc_87 i_5 (by decide) k_13
      have k_88 : f_84 h0 = .inr (12, [.int (0 : Int32), .int (-4 : Int32), .ref (gr g h0 2), .ref (gr g h0 3), .ref (gr g h0 4), .ref (gr g h0 5), .ref (gr g h0 6), .ref (gr g h0 7), .ref (gr g h0 8), .ref (gr g h0 9), .int z10, .ref (gr g h0 11), .int z12, .int z13, .int z14, .int z15, .long z16, .int z17, .int z18, .ref (gr g h0 19), .ref (gr g h0 20), .ref (gr g h0 21), .ref (gr g h0 22), .int z23, .long z24, .long z25, .long z26]) := k_88
      have kp_93 := Kp.call kp_8 kc_87 (by decide)
      generalize H1 = H at hI hS ⊢
      refine W.widen (k := 0) (n := 0) (Nat.le_of_ble_eq_true rfl) (Nat.le_of_ble_eq_true rfl) ?_
      have w_85 : r_86.toInt = (-4 : Int32).toInt := w_85
      have g_94 : Int32.toInt ((-4)) = (-4) := by decide
      exact W.iret (v := r_86) hx hb hr (fun t ht hW => ⟨⟨r_86, (), rfl, trivial, ⟨f_84, k_ret ht hI, kp_93, (0 : Int32), (-4 : Int32), z10, z12, z13, z14, z15, z16, z17, z18, z23, z24, z25, z26, q, u, im, kt, k_88, (by first | omega | decide), (by first | omega | decide), (by first | omega | decide), k_89, hc1_ok, k_90, k_91, k_92, hU⟩⟩, hS.F ht⟩) hS.2.2 dX12_leave_42
  · have c_16 := kc_eq rfl (by decide : Int32.toInt 0 = 0) c_16
    refine lv_aload_n hx hb dX12_leave_13 rfl (lv_at hl 0 rfl) ?_
    refine lv_bipush (v := (-2)) hx hb dX12_leave_14 (by decide) ?_
    refine va_calli (va_runV (As := [.int (-2)]) (rest := []) ⟨hx, hb, hml, hown, hts⟩ (c_X12_refuse l dC dI g A hG f_6 h0 (-2) 0 z1 z10 z12 z13 z14 z15 z16 z17 z18 z23 z24 z25 z26 i_h0 k_9 (by first | omega | (simp only [k_c0]; omega)) (by first | omega | (simp only [k_c0]; omega)) (by first | omega | (simp only [k_c0]; omega)) (by first | omega | decide | (simp only [show Int32.toInt (-2) = (-2) from by decide] <;> omega))) (cwV 1 hts (gi_V (fun w_ h0_ => ⟨List.mem_cons_of_mem _ (List.mem_append_right _ (List.mem_append_right _ (List.mem_append_right _ (List.mem_append_right _ (List.mem_append_right _ (List.mem_append_right _ (List.mem_append_right _ (List.mem_append_right _ (List.mem_append_left _ h0_))))))))), (tb_c_X12_refuse w_ h0_).2⟩) (List.mem_cons_of_mem _ (List.mem_append_left _ (List.mem_of_getElem? (i := 20) rfl))) (List.mem_cons_of_mem _ (List.mem_append_left _ (List.mem_of_getElem? (i := 21) rfl))) (List.mem_cons_of_mem _ (List.mem_append_left _ (List.mem_of_getElem? (i := 22) rfl))) (List.mem_cons_of_mem _ (List.mem_append_left _ (List.mem_of_getElem? (i := 4) rfl)))) rfl rfl rfl (by decide +kernel) ⟨Nat.le_of_ble_eq_true rfl, Nat.le_of_ble_eq_true rfl⟩) ⟨fun a U g mk q => ⟨q.1, q.2.calling rfl rfl⟩, k_recv hK hI i_h0.1 k_9 (ci := 12) rfl, fun U hU hW => ⟨rfl, kIn.of hI hK hE hS hU hW⟩⟩ rfl rfl hl.1 rfl (lv_room (Nat.le_of_ble_eq_true rfl)) dX12_leave_16 ⟨Nat.le_of_ble_eq_true rfl, Nat.le_of_ble_eq_true rfl⟩) hS (fun q _ h => h) (fun q h => h) (fun r_97 u9 t H1 locs ht hvm w_96 hB hz1 hk1 hS => ?_)
    obtain ⟨f_95, hI, kc_98, k_99⟩ := hB
    rw [ht] at hI
    have k_100 : f_95 (gr g h0 4) = .inl (gc g 1, 906, .inr (.inl q)) := Kp.at kc_98 i_1 (by decide) k_10
    have k_101 : f_95 (gr g h0 5) = .inl (gc g 1, 9060, .inr (.inl u)) := Kp.at kc_98 i_3 (by decide) k_11
    have k_102 : f_95 (gr g h0 7) = .inl (gc g 1, 1812, .inr (.inl im)) := Kp.at kc_98 i_4 (by decide) k_12
    have k_103 : f_95 (gr g h0 8) = .inl (gc g 3, 2, .inl kt) := Kp.at kc_98 i_5 (by decide) k_13
    have k_99 : f_95 h0 = .inr (12, [.int (0 : Int32), .int (-2 : Int32), .ref (gr g h0 2), .ref (gr g h0 3), .ref (gr g h0 4), .ref (gr g h0 5), .ref (gr g h0 6), .ref (gr g h0 7), .ref (gr g h0 8), .ref (gr g h0 9), .int z10, .ref (gr g h0 11), .int z12, .int z13, .int z14, .int z15, .long z16, .int z17, .int z18, .ref (gr g h0 19), .ref (gr g h0 20), .ref (gr g h0 21), .ref (gr g h0 22), .int z23, .long z24, .long z25, .long z26]) := k_99
    have kp_104 := Kp.call kp_8 kc_98 (by decide)
    generalize H1 = H at hI hS ⊢
    refine W.widen (k := 0) (n := 0) (Nat.le_of_ble_eq_true rfl) (Nat.le_of_ble_eq_true rfl) ?_
    have w_96 : r_97.toInt = (-2 : Int32).toInt := w_96
    have g_105 : Int32.toInt ((-2)) = (-2) := by decide
    exact W.iret (v := r_97) hx hb hr (fun t ht hW => ⟨⟨r_97, (), rfl, trivial, ⟨f_95, k_ret ht hI, kp_104, (0 : Int32), (-2 : Int32), z10, z12, z13, z14, z15, z16, z17, z18, z23, z24, z25, z26, q, u, im, kt, k_99, (by first | omega | decide), (by first | omega | decide), (by first | omega | decide), k_100, hc1_ok, k_101, k_102, k_103, hU⟩⟩, hS.F ht⟩) hS.2.2 dX12_leave_19
theorem tw_969 : q_g (.code yX12_weigh cX12_weigh 4 (some .int)) := ⟨(List.mem_append_right _ (List.mem_of_getElem? (i := 1294) (by decide +kernel))), good_of_word (by decide +kernel)⟩
def ow_c_X12_weigh : List Cond := [.fieldLink RX12 67 "DeadlineShareModel" "thrown" "I", .constantLong RX12 135 (8), .methodLink RX12 83 yX12_in, .static yX12_in, .initialized RX12, .methodLink RX12 142 yX12_isTask, .instanceMethod yX12_isTask, .selects RX12 yX12_isTask yX12_isTask, .methodLink RX12 94 yX12_weight, .instanceMethod yX12_weight, .selects RX12 yX12_weight yX12_weight, .methodLink RX12 90 yX12_isOn, .instanceMethod yX12_isOn, .selects RX12 yX12_isOn yX12_isOn, .methodLink RX12 139 yX12_remember, .instanceMethod yX12_remember, .selects RX12 yX12_remember yX12_remember, .methodLink RX12 157 yX12_weighs, .instanceMethod yX12_weighs, .selects RX12 yX12_weighs yX12_weighs, .methodLink RX12 80 yX12_tell, .instanceMethod yX12_tell, .selects RX12 yX12_tell yX12_tell, .methodLink RX12 105 yX12_heavy, .instanceMethod yX12_heavy, .selects RX12 yX12_heavy yX12_heavy, .constantLong RX12 110 (24), .methodLink RX12 76 yX12_refuse, .instanceMethod yX12_refuse, .selects RX12 yX12_refuse yX12_refuse]
def wq_c_X12_weigh : List Cond := .code yX12_weigh cX12_weigh 4 (some .int) :: (ow_c_X12_weigh ++ (u_ws RX12 TX12 27 ++ (wq_c_X12_in ++ (wq_c_X12_isTask ++ (wq_c_X12_weight ++ (wq_c_X12_isOn ++ (wq_c_X12_remember ++ (wq_c_X12_weighs ++ (wq_c_X12_tell ++ (wq_c_X12_heavy ++ (wq_c_X12_refuse ++ ([] : List Cond))))))))))))
theorem tb_c_X12_weigh : ∀ w ∈ wq_c_X12_weigh, q_g w := by
  unfold wq_c_X12_weigh ow_c_X12_weigh
  exact q_cons tw_969 (q_app (q_cons tw_927 (q_cons tw_956 (q_cons tw_730 (q_cons tw_729 (q_cons tw_728 (q_cons tw_951 (q_cons tw_950 (q_cons tw_949 (q_cons tw_741 (q_cons tw_740 (q_cons tw_739 (q_cons tw_744 (q_cons tw_743 (q_cons tw_742 (q_cons tw_963 (q_cons tw_962 (q_cons tw_961 (q_cons tw_828 (q_cons tw_827 (q_cons tw_826 (q_cons tw_960 (q_cons tw_959 (q_cons tw_958 (q_cons tw_752 (q_cons tw_751 (q_cons tw_750 (q_cons tw_760 (q_cons tw_966 (q_cons tw_965 (q_cons tw_964 q_nil)))))))))))))))))))))))))))))) (q_app tu_X12 (q_app tb_c_X12_in (q_app tb_c_X12_isTask (q_app tb_c_X12_weight (q_app tb_c_X12_isOn (q_app tb_c_X12_remember (q_app tb_c_X12_weighs (q_app tb_c_X12_tell (q_app tb_c_X12_heavy (q_app tb_c_X12_refuse q_nil)))))))))))
set_option maxHeartbeats 4000000 in
set_option maxRecDepth 100000 in
theorem c_X12_weigh (l : Launch) (dC : Nat → ClassId) (dI : Nat → Nat → Nat) (g : kG) (A : Nat → Prop) (hG : kWf g) (f : Nat → va_E) (h0 : Nat) (p1 : Int32) (p2 : Int32) (z0 : Int32) (z1 : Int32) (z10 : Int32) (z12 : Int32) (z13 : Int32) (z14 : Int32) (z15 : Int32) (z16 : Int64) (z17 : Int32) (z18 : Int32) (z23 : Int32) (z24 : Int64) (z25 : Int64) (z26 : Int64) (q : Nat → Int64) (u : Nat → Int64) (im : Nat → Int64) (kt : Nat → Int32) (i_h0 : ik g 12 h0) (hc0 : f h0 = .inr (12, [.int z0, .int z1, .ref (gr g h0 2), .ref (gr g h0 3), .ref (gr g h0 4), .ref (gr g h0 5), .ref (gr g h0 6), .ref (gr g h0 7), .ref (gr g h0 8), .ref (gr g h0 9), .int z10, .ref (gr g h0 11), .int z12, .int z13, .int z14, .int z15, .long z16, .int z17, .int z18, .ref (gr g h0 19), .ref (gr g h0 20), .ref (gr g h0 21), .ref (gr g h0 22), .int z23, .long z24, .long z25, .long z26])) (hc0_10 : 0 ≤ z10.toInt ∧ z10.toInt ≤ 10) (hc0_12 : 0 ≤ z12.toInt ∧ z12.toInt ≤ 200) (hc0_23 : 0 ≤ z23.toInt ∧ z23.toInt ≤ 8) (hc1 : f (gr g h0 4) = .inl (gc g 1, 906, .inr (.inl q))) (hc1_ok : RowOK q) (hc2 : f (gr g h0 5) = .inl (gc g 1, 9060, .inr (.inl u))) (hc3 : f (gr g h0 7) = .inl (gc g 1, 1812, .inr (.inl im))) (hc4 : f (gr g h0 8) = .inl (gc g 3, 2, .inl kt)) (hU : UIq z10 u im kt) : Met l yX12_weigh wq_c_X12_weigh ({ frames := 5, cells := 0, slots := 0, locals := 111 } : Room) (va_Pc [.ref h0, .int p1, .int p2] (fun U => kIn dC dI g A f U)) (va_Qi (fun (r : Int32) (_ : Unit) => True) (fun (_ : Unit) t => ∃ f1 : Nat → va_E, Iv dC dI g A f1 t.heap ∧ Kp g [12, 30, 32, 33, 37] f f1 ∧ ∃ (w0 : Int32) (w1 : Int32) (w10 : Int32) (w12 : Int32) (w13 : Int32) (w14 : Int32) (w15 : Int32) (w16 : Int64) (w17 : Int32) (w18 : Int32) (w23 : Int32) (w24 : Int64) (w25 : Int64) (w26 : Int64) (q1 : Nat → Int64) (u1 : Nat → Int64) (im1 : Nat → Int64) (ik1 : Nat → Int32), (f1 h0 = .inr (12, [.int w0, .int w1, .ref (gr g h0 2), .ref (gr g h0 3), .ref (gr g h0 4), .ref (gr g h0 5), .ref (gr g h0 6), .ref (gr g h0 7), .ref (gr g h0 8), .ref (gr g h0 9), .int w10, .ref (gr g h0 11), .int w12, .int w13, .int w14, .int w15, .long w16, .int w17, .int w18, .ref (gr g h0 19), .ref (gr g h0 20), .ref (gr g h0 21), .ref (gr g h0 22), .int w23, .long w24, .long w25, .long w26])) ∧ (0 ≤ w10.toInt ∧ w10.toInt ≤ 10) ∧ (0 ≤ w12.toInt ∧ w12.toInt ≤ 200) ∧ (0 ≤ w23.toInt ∧ w23.toInt ≤ 8) ∧ (f1 (gr g h0 4) = .inl (gc g 1, 906, .inr (.inl q1))) ∧ (RowOK q1) ∧ (f1 (gr g h0 5) = .inl (gc g 1, 9060, .inr (.inl u1))) ∧ (f1 (gr g h0 7) = .inl (gc g 1, 1812, .inr (.inl im1))) ∧ (f1 (gr g h0 8) = .inl (gc g 3, 2, .inl ik1)) ∧ (UIq w10 u1 im1 ik1)) A) 0 0 A := by
  refine Met.ofW (cc := cX12_weigh) (maxL := 4) (ret := (some .int)) (by decide) rfl ?_
  intro p e s m args below meth c s₁ B hml hv
  obtain ⟨rfl, hI, hK, hE⟩ := hv
  have hx := B.exec
  have hb := B.bytes
  have hr := B.returns
  have hts := atoms_spec (ws := wq_c_X12_weigh) B.pre
  have hown : s.vm.findClass RX12 = some m.cls := findClass_of_methodNamed B.named
  have hlocks := B.notSynchronized
  have hS : va_S A s.heap s.heap [] := va_S.rf
  have hk0 : Kp g [12, 30, 32, 33, 37] f f := Kp.rf
  have hl := lv_entry ([.ref h0, .int p1, .int p2]) (n := 4) (Nat.le_of_ble_eq_true rfl)
  rw [lg_entry_eq]
  generalize (lg_sl ([.ref h0, .int p1, .int p2]) ++ List.replicate (4 - (lg_sl ([.ref h0, .int p1, .int p2])).length) Slot.unset).toArray = ls at hl ⊢
  have hl : lv_has ls 4 [(0, .ref h0), (1, .int p1), (2, .int p2)] := hl
  have i_1 := kw_12_4 hG i_h0
  have d_2 := rk_hd hc1_ok
  have i_3 := kw_12_5 hG i_h0
  have i_4 := kw_12_7 hG i_h0
  have i_5 := kw_12_8 hG i_h0
  refine lv_aload_n hx hb dX12_weigh_0 rfl (lv_at hl 0 rfl) ?_
  refine lv_iconst (v := 0) hx hb dX12_weigh_1 (by decide) ?_
  refine k_put (ci := 12) (v := .int 0) (ty := .int) (C := RX12) (T := TX12) (N := 27) hx hb hts (fun _ h0_ => List.mem_cons_of_mem _ (List.mem_append_right _ (List.mem_append_left _ h0_))) tyX12 tyX12_ok nmX12 hown hK hI hS i_h0.1 hc0 rfl 0 (by decide) (hts (.fieldLink RX12 67 "DeadlineShareModel" "thrown" "I") (List.mem_cons_of_mem _ (List.mem_append_left _ (List.mem_of_getElem? (i := 0) rfl)))) (fun _ h9 => h9) rfl (by decide +kernel) rfl rfl (Nat.le_of_ble_eq_true rfl) rfl (cl_12 i_h0 (by omega) (by omega) (by omega)) dX12_weigh_2 (fun f_6 H locs e_7 hI hS => ?_)
  have k_9 : f_6 h0 = .inr (12, [.int 0, .int z1, .ref (gr g h0 2), .ref (gr g h0 3), .ref (gr g h0 4), .ref (gr g h0 5), .ref (gr g h0 6), .ref (gr g h0 7), .ref (gr g h0 8), .ref (gr g h0 9), .int z10, .ref (gr g h0 11), .int z12, .int z13, .int z14, .int z15, .long z16, .int z17, .int z18, .ref (gr g h0 19), .ref (gr g h0 20), .ref (gr g h0 21), .ref (gr g h0 22), .int z23, .long z24, .long z25, .long z26]) := by rw [e_7]; exact va_up_self _ _ _
  have k_10 : f_6 (gr g h0 4) = .inl (gc g 1, 906, .inr (.inl q)) := by rw [e_7, va_up_ne _ _ (ik_ne i_1 i_h0 (by decide))]; exact hc1
  have k_11 : f_6 (gr g h0 5) = .inl (gc g 1, 9060, .inr (.inl u)) := by rw [e_7, va_up_ne _ _ (ik_ne i_3 i_h0 (by decide))]; exact hc2
  have k_12 : f_6 (gr g h0 7) = .inl (gc g 1, 1812, .inr (.inl im)) := by rw [e_7, va_up_ne _ _ (ik_ne i_4 i_h0 (by decide))]; exact hc3
  have k_13 : f_6 (gr g h0 8) = .inl (gc g 3, 2, .inl kt) := by rw [e_7, va_up_ne _ _ (ik_ne i_5 i_h0 (by decide))]; exact hc4
  have kp_8 := Kp.put hk0 i_h0 (by decide) e_7
  refine lv_iload_n hx hb dX12_weigh_5 rfl (lv_at hl 2 rfl) ?_
  refine lv_i2l (v := p2.toInt64) hx hb dX12_weigh_6 rfl ?_
  have t_14 := Int32.toInt_toInt64 p2
  have g_15 := Int32.toInt_lt p2
  have g_16 := Int32.le_toInt p2
  refine lv_lconst (v := 1) hx hb dX12_weigh_7 (by decide) ?_
  refine lv_ldc2 hx hb hown (hts (.constantLong RX12 135 (8)) (List.mem_cons_of_mem _ (List.mem_append_left _ (List.mem_of_getElem? (i := 1) rfl)))) dX12_weigh_8 ?_
  refine va_calli (va_runS (As := [.long p2.toInt64, .long 1, .long 8]) (rest := []) ⟨hx, hb, hml, hown, hts⟩ (c_X12_in l dC dI g A hG f_6 p2.toInt64 1 8) (va_cwS 3 hts (gi_S (fun w_ h0_ => ⟨List.mem_cons_of_mem _ (List.mem_append_right _ (List.mem_append_right _ (List.mem_append_left _ h0_))), (tb_c_X12_in w_ h0_).2⟩) (List.mem_cons_of_mem _ (List.mem_append_left _ (List.mem_of_getElem? (i := 2) rfl))) (List.mem_cons_of_mem _ (List.mem_append_left _ (List.mem_of_getElem? (i := 3) rfl))) (List.mem_cons_of_mem _ (List.mem_append_left _ (List.mem_of_getElem? (i := 4) rfl)))) rfl rfl rfl (by decide +kernel) ⟨Nat.le_of_ble_eq_true rfl, Nat.le_of_ble_eq_true rfl⟩) ⟨fun a U g mk q => ⟨q.1, q.2.calling rfl rfl⟩, fun U hU hW => ⟨rfl, kIn.of hI hK hE hS hU hW⟩⟩ rfl rfl hl.1 rfl (lv_room (Nat.le_of_ble_eq_true rfl)) dX12_weigh_11 ⟨Nat.le_of_ble_eq_true rfl, Nat.le_of_ble_eq_true rfl⟩) hS (fun q _ h => h) (fun q h => h) (fun r_18 u9 t H1 locs ht hvm w_17 hB hz1 hk1 hS => ?_)
  have hI : Iv dC dI g A f_6 t.heap := hB
  rw [ht] at hI
  generalize H1 = H at hI hS ⊢
  refine W.widen (k := 0) (n := 0) (Nat.le_of_ble_eq_true rfl) (Nat.le_of_ble_eq_true rfl) ?_
  have w_17 : (r_18.toInt = 0 ∧ (p2.toInt64.toInt < (1 : Int64).toInt ∨ (8 : Int64).toInt < p2.toInt64.toInt)) ∨ (r_18.toInt = 1 ∧ (1 : Int64).toInt ≤ p2.toInt64.toInt ∧ p2.toInt64.toInt ≤ (8 : Int64).toInt) := w_17
  have g_19 : Int64.toInt (1) = 1 := by decide
  have g_20 : Int64.toInt (8) = 8 := by decide
  refine lv_if_ne (tgt := 23) hx hb dX12_weigh_14 (by decide) (fun c_21 => ?_) (fun c_21 => ?_)
  · have c_21 := kn_eq rfl (by decide : Int32.toInt 0 = 0) c_21
    refine lv_aload_n hx hb dX12_weigh_23 rfl (lv_at hl 0 rfl) ?_
    refine lv_iload_n hx hb dX12_weigh_24 rfl (lv_at hl 1 rfl) ?_
    refine va_calli (va_runV (As := [.int p1]) (rest := []) ⟨hx, hb, hml, hown, hts⟩ (c_X12_isTask l dC dI g A hG f_6 h0 p1 q i_h0 k_10 hc1_ok) (cwV 1 hts (gi_V (fun w_ h0_ => ⟨List.mem_cons_of_mem _ (List.mem_append_right _ (List.mem_append_right _ (List.mem_append_right _ (List.mem_append_left _ h0_)))), (tb_c_X12_isTask w_ h0_).2⟩) (List.mem_cons_of_mem _ (List.mem_append_left _ (List.mem_of_getElem? (i := 5) rfl))) (List.mem_cons_of_mem _ (List.mem_append_left _ (List.mem_of_getElem? (i := 6) rfl))) (List.mem_cons_of_mem _ (List.mem_append_left _ (List.mem_of_getElem? (i := 7) rfl))) (List.mem_cons_of_mem _ (List.mem_append_left _ (List.mem_of_getElem? (i := 4) rfl)))) rfl rfl rfl (by decide +kernel) ⟨Nat.le_of_ble_eq_true rfl, Nat.le_of_ble_eq_true rfl⟩) ⟨fun a U g mk q => ⟨q.1, q.2.calling rfl rfl⟩, k_recv hK hI i_h0.1 k_9 (ci := 12) rfl, fun U hU hW => ⟨rfl, kIn.of hI hK hE hS hU hW⟩⟩ rfl rfl hl.1 rfl (lv_room (Nat.le_of_ble_eq_true rfl)) dX12_weigh_25 ⟨Nat.le_of_ble_eq_true rfl, Nat.le_of_ble_eq_true rfl⟩) hS (fun q _ h => h) (fun q h => h) (fun r_23 u9 t H1 locs ht hvm w_22 hB hz1 hk1 hS => ?_)
    have hI : Iv dC dI g A f_6 t.heap := hB
    rw [ht] at hI
    generalize H1 = H at hI hS ⊢
    refine W.widen (k := 0) (n := 0) (Nat.le_of_ble_eq_true rfl) (Nat.le_of_ble_eq_true rfl) ?_
    have w_22 : (r_23.toInt = 0 ∨ r_23.toInt = 1) ∧ (r_23.toInt = 0 ∨ (0 ≤ p1.toInt ∧ p1.toInt < (q 0).toInt)) := w_22
    refine lv_if_ne (tgt := 38) hx hb dX12_weigh_28 (by decide) (fun c_24 => ?_) (fun c_24 => ?_)
    · have c_24 := kn_eq rfl (by decide : Int32.toInt 0 = 0) c_24
      refine lv_aload_n hx hb dX12_weigh_38 rfl (lv_at hl 0 rfl) ?_
      obtain ⟨m_25, em_25, tm_25⟩ := k_nat (x := p1) (by omega)
      refine lv_iload_n hx hb dX12_weigh_39 rfl (lv_at hl 1 rfl) ?_
      refine k_topi (y := nI m_25) em_25 ?_
      refine va_calll (va_runV (As := [.int (nI m_25)]) (rest := []) ⟨hx, hb, hml, hown, hts⟩ (c_X12_weight l dC dI g A hG f_6 h0 m_25 q i_h0 k_10 hc1_ok (by first | omega | decide | (simp only [k_c0, k_c1, k_cm1] <;> omega))) (cwV 1 hts (gi_V (fun w_ h0_ => ⟨List.mem_cons_of_mem _ (List.mem_append_right _ (List.mem_append_right _ (List.mem_append_right _ (List.mem_append_right _ (List.mem_append_left _ h0_))))), (tb_c_X12_weight w_ h0_).2⟩) (List.mem_cons_of_mem _ (List.mem_append_left _ (List.mem_of_getElem? (i := 8) rfl))) (List.mem_cons_of_mem _ (List.mem_append_left _ (List.mem_of_getElem? (i := 9) rfl))) (List.mem_cons_of_mem _ (List.mem_append_left _ (List.mem_of_getElem? (i := 10) rfl))) (List.mem_cons_of_mem _ (List.mem_append_left _ (List.mem_of_getElem? (i := 4) rfl)))) rfl rfl rfl (by decide +kernel) ⟨Nat.le_of_ble_eq_true rfl, Nat.le_of_ble_eq_true rfl⟩) ⟨fun a U g mk q => ⟨q.1, q.2.calling rfl rfl⟩, k_recv hK hI i_h0.1 k_9 (ci := 12) rfl, fun U hU hW => ⟨rfl, kIn.of hI hK hE hS hU hW⟩⟩ rfl rfl hl.1 rfl (lv_room (Nat.le_of_ble_eq_true rfl)) dX12_weigh_40 ⟨Nat.le_of_ble_eq_true rfl, Nat.le_of_ble_eq_true rfl⟩) hS (fun q _ h => h) (fun q h => h) (fun r_27 u9 t H1 locs ht hvm w_26 hB hz1 hk1 hS => ?_)
      have hI : Iv dC dI g A f_6 t.heap := hB
      rw [ht] at hI
      generalize H1 = H at hI hS ⊢
      refine W.widen (k := 0) (n := 0) (Nat.le_of_ble_eq_true rfl) (Nat.le_of_ble_eq_true rfl) ?_
      have w_26 : r_27 = q (6 + 43 * m_25) := w_26
      refine k_topl (y := q (6 + 43 * m_25)) w_26 ?_
      have d_28 := rk_0 hc1_ok (t := m_25) (by omega)
      refine lv_l2i (v := (q (6 + 43 * m_25)).toInt32) hx hb dX12_weigh_43 rfl ?_
      refine lv_topi (fun v_29 ev_29 => ?_)
      have tv_29 := k_l2i (q (6 + 43 * m_25))
      rw [← ev_29] at tv_29
      refine lv_istore_n (lv' := [(3, .int v_29), (0, .ref h0), (1, .int p1), (2, .int p2)]) hx hb dX12_weigh_44 rfl hl (by decide) rfl (fun ls hl => ?_)
      refine lv_iload_n hx hb dX12_weigh_45 rfl (lv_at hl 0 rfl) ?_
      refine lv_iload_n hx hb dX12_weigh_46 rfl (lv_at hl 3 rfl) ?_
      refine lv_icmp_ne (tgt := 57) hx hb dX12_weigh_47 (by decide) (fun c_30 => ?_) (fun c_30 => ?_)
      · have c_30 := kn_eq rfl rfl c_30
        refine lv_aload_n hx hb dX12_weigh_57 rfl (lv_at hl 1 rfl) ?_
        refine lv_iload_n hx hb dX12_weigh_58 rfl (lv_at hl 2 rfl) ?_
        refine k_topi (y := nI m_25) em_25 ?_
        refine va_calli (va_runV (As := [.int (nI m_25)]) (rest := []) ⟨hx, hb, hml, hown, hts⟩ (c_X12_isOn l dC dI g A hG f_6 h0 m_25 q i_h0 k_10 hc1_ok (by first | omega | decide | (simp only [k_c0, k_c1, k_cm1] <;> omega))) (cwV 1 hts (gi_V (fun w_ h0_ => ⟨List.mem_cons_of_mem _ (List.mem_append_right _ (List.mem_append_right _ (List.mem_append_right _ (List.mem_append_right _ (List.mem_append_right _ (List.mem_append_left _ h0_)))))), (tb_c_X12_isOn w_ h0_).2⟩) (List.mem_cons_of_mem _ (List.mem_append_left _ (List.mem_of_getElem? (i := 11) rfl))) (List.mem_cons_of_mem _ (List.mem_append_left _ (List.mem_of_getElem? (i := 12) rfl))) (List.mem_cons_of_mem _ (List.mem_append_left _ (List.mem_of_getElem? (i := 13) rfl))) (List.mem_cons_of_mem _ (List.mem_append_left _ (List.mem_of_getElem? (i := 4) rfl)))) rfl rfl rfl (by decide +kernel) ⟨Nat.le_of_ble_eq_true rfl, Nat.le_of_ble_eq_true rfl⟩) ⟨fun a U g mk q => ⟨q.1, q.2.calling rfl rfl⟩, k_recv hK hI i_h0.1 k_9 (ci := 12) rfl, fun U hU hW => ⟨rfl, kIn.of hI hK hE hS hU hW⟩⟩ rfl rfl hl.1 rfl (lv_room (Nat.le_of_ble_eq_true rfl)) dX12_weigh_59 ⟨Nat.le_of_ble_eq_true rfl, Nat.le_of_ble_eq_true rfl⟩) hS (fun q _ h => h) (fun q h => h) (fun r_32 u9 t H1 locs ht hvm w_31 hB hz1 hk1 hS => ?_)
        have hI : Iv dC dI g A f_6 t.heap := hB
        rw [ht] at hI
        generalize H1 = H at hI hS ⊢
        refine W.widen (k := 0) (n := 0) (Nat.le_of_ble_eq_true rfl) (Nat.le_of_ble_eq_true rfl) ?_
        have w_31 : (r_32.toInt = 0 ∧ (q (6 + 43 * m_25 + 2)).toInt ≠ 1) ∨ (r_32.toInt = 1 ∧ (q (6 + 43 * m_25 + 2)).toInt = 1) := w_31
        have J_89 : ∀ (H : Heap) (locs : List Loc) (ls : Array Slot), Iv dC dI g A f_6 H → va_S A s.heap H locs → lv_has ls 4 [(3, .int v_29), (0, .ref h0), (1, .int p1), (2, .int p2)] → W p l e (headSpec wq_c_X12_weigh ({ frames := 5, cells := 0, slots := 0, locals := 111 } : Room)).room s m ([.ref h0, .int p1, .int p2].toArray) below meth c H locs 0 0 (MQ below (va_Qi (fun (r : Int32) (_ : Unit) => True) (fun (_ : Unit) t => ∃ f1 : Nat → va_E, Iv dC dI g A f1 t.heap ∧ Kp g [12, 30, 32, 33, 37] f f1 ∧ ∃ (w0 : Int32) (w1 : Int32) (w10 : Int32) (w12 : Int32) (w13 : Int32) (w14 : Int32) (w15 : Int32) (w16 : Int64) (w17 : Int32) (w18 : Int32) (w23 : Int32) (w24 : Int64) (w25 : Int64) (w26 : Int64) (q1 : Nat → Int64) (u1 : Nat → Int64) (im1 : Nat → Int64) (ik1 : Nat → Int32), (f1 h0 = .inr (12, [.int w0, .int w1, .ref (gr g h0 2), .ref (gr g h0 3), .ref (gr g h0 4), .ref (gr g h0 5), .ref (gr g h0 6), .ref (gr g h0 7), .ref (gr g h0 8), .ref (gr g h0 9), .int w10, .ref (gr g h0 11), .int w12, .int w13, .int w14, .int w15, .long w16, .int w17, .int w18, .ref (gr g h0 19), .ref (gr g h0 20), .ref (gr g h0 21), .ref (gr g h0 22), .int w23, .long w24, .long w25, .long w26])) ∧ (0 ≤ w10.toInt ∧ w10.toInt ≤ 10) ∧ (0 ≤ w12.toInt ∧ w12.toInt ≤ 200) ∧ (0 ≤ w23.toInt ∧ w23.toInt ≤ 8) ∧ (f1 (gr g h0 4) = .inl (gc g 1, 906, .inr (.inl q1))) ∧ (RowOK q1) ∧ (f1 (gr g h0 5) = .inl (gc g 1, 9060, .inr (.inl u1))) ∧ (f1 (gr g h0 7) = .inl (gc g 1, 1812, .inr (.inl im1))) ∧ (f1 (gr g h0 8) = .inl (gc g 3, 2, .inl ik1)) ∧ (UIq w10 u1 im1 ik1)) A) ([.ref h0, .int p1, .int p2].toArray) s 0 0 A) (F0 m 89 ls []) := by
          intro H locs ls hI hS  hl
          refine lv_aload_n hx hb dX12_weigh_89 rfl (lv_at hl 1 rfl) ?_
          refine lv_iconst (v := 3) hx hb dX12_weigh_90 (by decide) ?_
          refine va_callv (va_runV (As := [.int 3]) (rest := []) ⟨hx, hb, hml, hown, hts⟩ (c_X12_remember l dC dI g A hG f_6 h0 3 0 z1 z10 z12 z13 z14 z15 z16 z17 z18 z23 z24 z25 z26 q u im kt i_h0 k_9 (by first | omega | (simp only [k_c0]; omega)) (by first | omega | (simp only [k_c0]; omega)) (by first | omega | (simp only [k_c0]; omega)) k_10 hc1_ok k_11 k_12 k_13 (by first | omega | decide | (simp only [show Int32.toInt 3 = 3 from by decide] <;> omega))) (cwV 1 hts (gi_V (fun w_ h0_ => ⟨List.mem_cons_of_mem _ (List.mem_append_right _ (List.mem_append_right _ (List.mem_append_right _ (List.mem_append_right _ (List.mem_append_right _ (List.mem_append_right _ (List.mem_append_left _ h0_))))))), (tb_c_X12_remember w_ h0_).2⟩) (List.mem_cons_of_mem _ (List.mem_append_left _ (List.mem_of_getElem? (i := 14) rfl))) (List.mem_cons_of_mem _ (List.mem_append_left _ (List.mem_of_getElem? (i := 15) rfl))) (List.mem_cons_of_mem _ (List.mem_append_left _ (List.mem_of_getElem? (i := 16) rfl))) (List.mem_cons_of_mem _ (List.mem_append_left _ (List.mem_of_getElem? (i := 4) rfl)))) rfl rfl rfl (by decide +kernel) ⟨Nat.le_of_ble_eq_true rfl, Nat.le_of_ble_eq_true rfl⟩) ⟨fun a U g mk q => ⟨q.1, q.2.calling rfl rfl⟩, k_recv hK hI i_h0.1 k_9 (ci := 12) rfl, fun U hU hW => ⟨rfl, kIn.of hI hK hE hS hU hW⟩⟩ rfl rfl hl.1 rfl (lv_room (Nat.le_of_ble_eq_true rfl)) dX12_weigh_91 ⟨Nat.le_of_ble_eq_true rfl, Nat.le_of_ble_eq_true rfl⟩) hS (fun q _ h => h) (fun q h => h) (fun u9 t H1 locs ht hvm _ hB hz1 hk1 hS => ?_)
          obtain ⟨f_33, hI, kc_35, w10_36, u1_37, k_38, z_39, k_40, z_41⟩ := hB
          rw [ht] at hI
          have k_42 : f_33 (gr g h0 4) = .inl (gc g 1, 906, .inr (.inl q)) := Kp.at kc_35 i_1 (by decide) k_10
          have k_43 : f_33 (gr g h0 7) = .inl (gc g 1, 1812, .inr (.inl im)) := Kp.at kc_35 i_4 (by decide) k_12
          have k_44 : f_33 (gr g h0 8) = .inl (gc g 3, 2, .inl kt) := Kp.at kc_35 i_5 (by decide) k_13
          have k_38 : f_33 h0 = .inr (12, [.int (0 : Int32), .int z1, .ref (gr g h0 2), .ref (gr g h0 3), .ref (gr g h0 4), .ref (gr g h0 5), .ref (gr g h0 6), .ref (gr g h0 7), .ref (gr g h0 8), .ref (gr g h0 9), .int w10_36, .ref (gr g h0 11), .int z12, .int z13, .int z14, .int z15, .long z16, .int z17, .int z18, .ref (gr g h0 19), .ref (gr g h0 20), .ref (gr g h0 21), .ref (gr g h0 22), .int z23, .long z24, .long z25, .long z26]) := k_38
          have z_39 : 0 ≤ w10_36.toInt ∧ w10_36.toInt ≤ 10 := z_39
          have z_41 : UIq w10_36 u1_37 im kt := z_41
          have kp_45 := Kp.call kp_8 kc_35 (by decide)
          generalize H1 = H at hI hS ⊢
          refine W.widen (k := 0) (n := 0) (Nat.le_of_ble_eq_true rfl) (Nat.le_of_ble_eq_true rfl) ?_
          refine lv_aload_n hx hb dX12_weigh_94 rfl (lv_at hl 1 rfl) ?_
          refine lv_iload_n hx hb dX12_weigh_95 rfl (lv_at hl 2 rfl) ?_
          refine k_topi (y := nI m_25) em_25 ?_
          refine lv_iload_n hx hb dX12_weigh_96 rfl (lv_at hl 3 rfl) ?_
          refine lv_i2l (v := p2.toInt64) hx hb dX12_weigh_97 rfl ?_
          have t_46 := Int32.toInt_toInt64 p2
          have g_47 := Int32.toInt_lt p2
          have g_48 := Int32.le_toInt p2
          refine va_calli (va_runV (As := [.int (nI m_25), .long p2.toInt64]) (rest := []) ⟨hx, hb, hml, hown, hts⟩ (c_X12_weighs l dC dI g A hG f_33 h0 m_25 p2.toInt64 q i_h0 k_42 hc1_ok (by first | omega | decide | (simp only [k_c0, k_c1, k_cm1] <;> omega)) (by first | omega | decide | (simp only [k_c0, k_c1, k_cm1] <;> omega))) (cwV 2 hts (gi_V (fun w_ h0_ => ⟨List.mem_cons_of_mem _ (List.mem_append_right _ (List.mem_append_right _ (List.mem_append_right _ (List.mem_append_right _ (List.mem_append_right _ (List.mem_append_right _ (List.mem_append_right _ (List.mem_append_left _ h0_)))))))), (tb_c_X12_weighs w_ h0_).2⟩) (List.mem_cons_of_mem _ (List.mem_append_left _ (List.mem_of_getElem? (i := 17) rfl))) (List.mem_cons_of_mem _ (List.mem_append_left _ (List.mem_of_getElem? (i := 18) rfl))) (List.mem_cons_of_mem _ (List.mem_append_left _ (List.mem_of_getElem? (i := 19) rfl))) (List.mem_cons_of_mem _ (List.mem_append_left _ (List.mem_of_getElem? (i := 4) rfl)))) rfl rfl rfl (by decide +kernel) ⟨Nat.le_of_ble_eq_true rfl, Nat.le_of_ble_eq_true rfl⟩) ⟨fun a U g mk q => ⟨q.1, q.2.calling rfl rfl⟩, k_recv hK hI i_h0.1 k_38 (ci := 12) rfl, fun U hU hW => ⟨rfl, kIn.of hI hK hE hS hU hW⟩⟩ rfl rfl hl.1 rfl (lv_room (Nat.le_of_ble_eq_true rfl)) dX12_weigh_98 ⟨Nat.le_of_ble_eq_true rfl, Nat.le_of_ble_eq_true rfl⟩) hS (fun q _ h => h) (fun q h => h) (fun r_51 u9 t H1 locs ht hvm w_50 hB hz1 hk1 hS => ?_)
          obtain ⟨f_49, hI, kc_52, q1_53, k_54, z_55, z_56, z_57, z_58⟩ := hB
          rw [ht] at hI
          have k_59 : f_49 (gr g h0 7) = .inl (gc g 1, 1812, .inr (.inl im)) := Kp.at kc_52 i_4 (by decide) k_43
          have k_60 : f_49 (gr g h0 8) = .inl (gc g 3, 2, .inl kt) := Kp.at kc_52 i_5 (by decide) k_44
          have k_61 : f_49 h0 = .inr (12, [.int (0 : Int32), .int z1, .ref (gr g h0 2), .ref (gr g h0 3), .ref (gr g h0 4), .ref (gr g h0 5), .ref (gr g h0 6), .ref (gr g h0 7), .ref (gr g h0 8), .ref (gr g h0 9), .int w10_36, .ref (gr g h0 11), .int z12, .int z13, .int z14, .int z15, .long z16, .int z17, .int z18, .ref (gr g h0 19), .ref (gr g h0 20), .ref (gr g h0 21), .ref (gr g h0 22), .int z23, .long z24, .long z25, .long z26]) := Kp.at kc_52 i_h0 (by decide) k_38
          have k_62 : f_49 (gr g h0 5) = .inl (gc g 1, 9060, .inr (.inl u1_37)) := Kp.at kc_52 i_3 (by decide) k_40
          have z_55 : RowOK q1_53 := z_55
          have d_63 := rk_hd z_55
          have z_56 : (q1_53 0).toInt = (q 0).toInt := z_56
          have z_57 : (q1_53 1).toInt = (q 1).toInt := z_57
          have z_58 : ∀ j : Nat, 11 ≤ j → j < 43 → q1_53 (6 + 43 * m_25 + j) = q (6 + 43 * m_25 + j) := z_58
          have kp_64 := Kp.call kp_45 kc_52 (by decide)
          generalize H1 = H at hI hS ⊢
          refine W.widen (k := 0) (n := 0) (Nat.le_of_ble_eq_true rfl) (Nat.le_of_ble_eq_true rfl) ?_
          refine lv_pop hx hb dX12_weigh_101 rfl ?_
          refine lv_aload_n hx hb dX12_weigh_102 rfl (lv_at hl 1 rfl) ?_
          refine lv_iload_n hx hb dX12_weigh_103 rfl (lv_at hl 0 rfl) ?_
          refine va_calli (va_runV (As := [.int v_29]) (rest := []) ⟨hx, hb, hml, hown, hts⟩ (c_X12_tell l dC dI g A hG f_49 h0 v_29 (0 : Int32) z1 w10_36 z12 z13 z14 z15 z16 z17 z18 z23 z24 z25 z26 i_h0 k_61 (by first | omega | (simp only [k_c0]; omega)) (by first | omega | (simp only [k_c0]; omega)) (by first | omega | (simp only [k_c0]; omega))) (cwV 1 hts (gi_V (fun w_ h0_ => ⟨List.mem_cons_of_mem _ (List.mem_append_right _ (List.mem_append_right _ (List.mem_append_right _ (List.mem_append_right _ (List.mem_append_right _ (List.mem_append_right _ (List.mem_append_right _ (List.mem_append_right _ (List.mem_append_left _ h0_))))))))), (tb_c_X12_tell w_ h0_).2⟩) (List.mem_cons_of_mem _ (List.mem_append_left _ (List.mem_of_getElem? (i := 20) rfl))) (List.mem_cons_of_mem _ (List.mem_append_left _ (List.mem_of_getElem? (i := 21) rfl))) (List.mem_cons_of_mem _ (List.mem_append_left _ (List.mem_of_getElem? (i := 22) rfl))) (List.mem_cons_of_mem _ (List.mem_append_left _ (List.mem_of_getElem? (i := 4) rfl)))) rfl rfl rfl (by decide +kernel) ⟨Nat.le_of_ble_eq_true rfl, Nat.le_of_ble_eq_true rfl⟩) ⟨fun a U g mk q => ⟨q.1, q.2.calling rfl rfl⟩, k_recv hK hI i_h0.1 k_61 (ci := 12) rfl, fun U hU hW => ⟨rfl, kIn.of hI hK hE hS hU hW⟩⟩ rfl rfl hl.1 rfl (lv_room (Nat.le_of_ble_eq_true rfl)) dX12_weigh_104 ⟨Nat.le_of_ble_eq_true rfl, Nat.le_of_ble_eq_true rfl⟩) hS (fun q _ h => h) (fun q h => h) (fun r_67 u9 t H1 locs ht hvm w_66 hB hz1 hk1 hS => ?_)
          obtain ⟨f_65, hI, kc_68, k_69⟩ := hB
          rw [ht] at hI
          have k_70 : f_65 (gr g h0 7) = .inl (gc g 1, 1812, .inr (.inl im)) := Kp.at kc_68 i_4 (by decide) k_59
          have k_71 : f_65 (gr g h0 8) = .inl (gc g 3, 2, .inl kt) := Kp.at kc_68 i_5 (by decide) k_60
          have k_72 : f_65 (gr g h0 5) = .inl (gc g 1, 9060, .inr (.inl u1_37)) := Kp.at kc_68 i_3 (by decide) k_62
          have k_73 : f_65 (gr g h0 4) = .inl (gc g 1, 906, .inr (.inl q1_53)) := Kp.at kc_68 i_1 (by decide) k_54
          have k_69 : f_65 h0 = .inr (12, [.int (0 : Int32), .int 0, .ref (gr g h0 2), .ref (gr g h0 3), .ref (gr g h0 4), .ref (gr g h0 5), .ref (gr g h0 6), .ref (gr g h0 7), .ref (gr g h0 8), .ref (gr g h0 9), .int w10_36, .ref (gr g h0 11), .int z12, .int z13, .int z14, .int z15, .long z16, .int z17, .int z18, .ref (gr g h0 19), .ref (gr g h0 20), .ref (gr g h0 21), .ref (gr g h0 22), .int z23, .long z24, .long z25, .long z26]) := k_69
          have kp_74 := Kp.call kp_64 kc_68 (by decide)
          generalize H1 = H at hI hS ⊢
          refine W.widen (k := 0) (n := 0) (Nat.le_of_ble_eq_true rfl) (Nat.le_of_ble_eq_true rfl) ?_
          have w_66 : r_67.toInt = v_29.toInt := w_66
          exact W.iret (v := r_67) hx hb hr (fun t ht hW => ⟨⟨r_67, (), rfl, trivial, ⟨f_65, k_ret ht hI, kp_74, (0 : Int32), 0, w10_36, z12, z13, z14, z15, z16, z17, z18, z23, z24, z25, z26, q1_53, u1_37, im, kt, k_69, (by first | omega | decide), (by first | omega | decide), (by first | omega | decide), k_73, z_55, k_72, k_70, k_71, z_41⟩⟩, hS.F ht⟩) hS.2.2 dX12_weigh_107
        refine lv_if_eq (tgt := 89) hx hb dX12_weigh_62 (by decide) (fun c_75 => ?_) (fun c_75 => ?_)
        · have c_75 := kc_eq rfl (by decide : Int32.toInt 0 = 0) c_75
          exact J_89  _ _ _ hI hS  (lv_sub hl [0, 1, 2, 3] rfl)
        · have c_75 := kn_eq rfl (by decide : Int32.toInt 0 = 0) c_75
          refine lv_aload_n hx hb dX12_weigh_65 rfl (lv_at hl 1 rfl) ?_
          refine va_calll (va_runV (As := []) (rest := []) ⟨hx, hb, hml, hown, hts⟩ (c_X12_heavy l dC dI g A hG f_6 h0 q i_h0 k_10 hc1_ok) (cwV 0 hts (gi_V (fun w_ h0_ => ⟨List.mem_cons_of_mem _ (List.mem_append_right _ (List.mem_append_right _ (List.mem_append_right _ (List.mem_append_right _ (List.mem_append_right _ (List.mem_append_right _ (List.mem_append_right _ (List.mem_append_right _ (List.mem_append_right _ (List.mem_append_left _ h0_)))))))))), (tb_c_X12_heavy w_ h0_).2⟩) (List.mem_cons_of_mem _ (List.mem_append_left _ (List.mem_of_getElem? (i := 23) rfl))) (List.mem_cons_of_mem _ (List.mem_append_left _ (List.mem_of_getElem? (i := 24) rfl))) (List.mem_cons_of_mem _ (List.mem_append_left _ (List.mem_of_getElem? (i := 25) rfl))) (List.mem_cons_of_mem _ (List.mem_append_left _ (List.mem_of_getElem? (i := 4) rfl)))) rfl rfl rfl (by decide +kernel) ⟨Nat.le_of_ble_eq_true rfl, Nat.le_of_ble_eq_true rfl⟩) ⟨fun a U g mk q => ⟨q.1, q.2.calling rfl rfl⟩, k_recv hK hI i_h0.1 k_9 (ci := 12) rfl, fun U hU hW => ⟨rfl, kIn.of hI hK hE hS hU hW⟩⟩ rfl rfl hl.1 rfl (lv_room (Nat.le_of_ble_eq_true rfl)) dX12_weigh_66 ⟨Nat.le_of_ble_eq_true rfl, Nat.le_of_ble_eq_true rfl⟩) hS (fun q _ h => h) (fun q h => h) (fun r_77 u9 t H1 locs ht hvm w_76 hB hz1 hk1 hS => ?_)
          have hI : Iv dC dI g A f_6 t.heap := hB
          rw [ht] at hI
          generalize H1 = H at hI hS ⊢
          refine W.widen (k := 0) (n := 0) (Nat.le_of_ble_eq_true rfl) (Nat.le_of_ble_eq_true rfl) ?_
          have w_76 : 0 ≤ r_77.toInt ∧ r_77.toInt ≤ 96 ∧ ∀ t : Nat, (t : Int) < (q 0).toInt → (q (6 + 43 * t + 2)).toInt = 1 → 1 ≤ r_77.toInt := w_76
          refine lv_iload_n hx hb dX12_weigh_69 rfl (lv_at hl 0 rfl) ?_
          refine lv_i2l (v := v_29.toInt64) hx hb dX12_weigh_70 rfl ?_
          have t_78 := Int32.toInt_toInt64 v_29
          have g_79 := Int32.toInt_lt v_29
          have g_80 := Int32.le_toInt v_29
          refine lv_lsub hx hb dX12_weigh_71 ?_
          refine lv_topl (fun v_81 ev_81 => ?_)
          have tv_81 := l_sb r_77 v_29.toInt64
          rw [← ev_81] at tv_81
          refine lv_iload_n hx hb dX12_weigh_72 rfl (lv_at hl 3 rfl) ?_
          refine lv_i2l (v := p2.toInt64) hx hb dX12_weigh_73 rfl ?_
          have t_82 := Int32.toInt_toInt64 p2
          have g_83 := Int32.toInt_lt p2
          have g_84 := Int32.le_toInt p2
          refine lv_ladd hx hb dX12_weigh_74 ?_
          refine lv_topl (fun v_85 ev_85 => ?_)
          have tv_85 := l_ad v_81 p2.toInt64
          rw [← ev_85] at tv_85
          refine lv_ldc2 hx hb hown (hts (.constantLong RX12 110 (24)) (List.mem_cons_of_mem _ (List.mem_append_left _ (List.mem_of_getElem? (i := 26) rfl)))) dX12_weigh_75 ?_
          refine W.lcmp hx hb dX12_weigh_78 ?_
          refine lv_if_le (tgt := 89) hx hb dX12_weigh_79 (by decide) (fun c_86 => ?_) (fun c_86 => ?_)
          · have c_86 := lc_le rfl (by decide : Int64.toInt 24 = 24) ((lg_cmp_le _ _).mp c_86)
            exact J_89  _ _ _ hI hS  (lv_sub hl [0, 1, 2, 3] rfl)
          · have c_86 := ln_le rfl (by decide : Int64.toInt 24 = 24) (fun h9 => c_86 ((lg_cmp_le _ _).mpr h9))
            refine lv_aload_n hx hb dX12_weigh_82 rfl (lv_at hl 1 rfl) ?_
            refine lv_bipush (v := (-5)) hx hb dX12_weigh_83 (by decide) ?_
            refine va_calli (va_runV (As := [.int (-5)]) (rest := []) ⟨hx, hb, hml, hown, hts⟩ (c_X12_refuse l dC dI g A hG f_6 h0 (-5) 0 z1 z10 z12 z13 z14 z15 z16 z17 z18 z23 z24 z25 z26 i_h0 k_9 (by first | omega | (simp only [k_c0]; omega)) (by first | omega | (simp only [k_c0]; omega)) (by first | omega | (simp only [k_c0]; omega)) (by first | omega | decide | (simp only [show Int32.toInt (-5) = (-5) from by decide] <;> omega))) (cwV 1 hts (gi_V (fun w_ h0_ => ⟨List.mem_cons_of_mem _ (List.mem_append_right _ (List.mem_append_right _ (List.mem_append_right _ (List.mem_append_right _ (List.mem_append_right _ (List.mem_append_right _ (List.mem_append_right _ (List.mem_append_right _ (List.mem_append_right _ (List.mem_append_right _ (List.mem_append_left _ h0_))))))))))), (tb_c_X12_refuse w_ h0_).2⟩) (List.mem_cons_of_mem _ (List.mem_append_left _ (List.mem_of_getElem? (i := 27) rfl))) (List.mem_cons_of_mem _ (List.mem_append_left _ (List.mem_of_getElem? (i := 28) rfl))) (List.mem_cons_of_mem _ (List.mem_append_left _ (List.mem_of_getElem? (i := 29) rfl))) (List.mem_cons_of_mem _ (List.mem_append_left _ (List.mem_of_getElem? (i := 4) rfl)))) rfl rfl rfl (by decide +kernel) ⟨Nat.le_of_ble_eq_true rfl, Nat.le_of_ble_eq_true rfl⟩) ⟨fun a U g mk q => ⟨q.1, q.2.calling rfl rfl⟩, k_recv hK hI i_h0.1 k_9 (ci := 12) rfl, fun U hU hW => ⟨rfl, kIn.of hI hK hE hS hU hW⟩⟩ rfl rfl hl.1 rfl (lv_room (Nat.le_of_ble_eq_true rfl)) dX12_weigh_85 ⟨Nat.le_of_ble_eq_true rfl, Nat.le_of_ble_eq_true rfl⟩) hS (fun q _ h => h) (fun q h => h) (fun r_89 u9 t H1 locs ht hvm w_88 hB hz1 hk1 hS => ?_)
            obtain ⟨f_87, hI, kc_90, k_91⟩ := hB
            rw [ht] at hI
            have k_92 : f_87 (gr g h0 4) = .inl (gc g 1, 906, .inr (.inl q)) := Kp.at kc_90 i_1 (by decide) k_10
            have k_93 : f_87 (gr g h0 5) = .inl (gc g 1, 9060, .inr (.inl u)) := Kp.at kc_90 i_3 (by decide) k_11
            have k_94 : f_87 (gr g h0 7) = .inl (gc g 1, 1812, .inr (.inl im)) := Kp.at kc_90 i_4 (by decide) k_12
            have k_95 : f_87 (gr g h0 8) = .inl (gc g 3, 2, .inl kt) := Kp.at kc_90 i_5 (by decide) k_13
            have k_91 : f_87 h0 = .inr (12, [.int (0 : Int32), .int (-5 : Int32), .ref (gr g h0 2), .ref (gr g h0 3), .ref (gr g h0 4), .ref (gr g h0 5), .ref (gr g h0 6), .ref (gr g h0 7), .ref (gr g h0 8), .ref (gr g h0 9), .int z10, .ref (gr g h0 11), .int z12, .int z13, .int z14, .int z15, .long z16, .int z17, .int z18, .ref (gr g h0 19), .ref (gr g h0 20), .ref (gr g h0 21), .ref (gr g h0 22), .int z23, .long z24, .long z25, .long z26]) := k_91
            have kp_96 := Kp.call kp_8 kc_90 (by decide)
            generalize H1 = H at hI hS ⊢
            refine W.widen (k := 0) (n := 0) (Nat.le_of_ble_eq_true rfl) (Nat.le_of_ble_eq_true rfl) ?_
            have w_88 : r_89.toInt = (-5 : Int32).toInt := w_88
            have g_97 : Int32.toInt ((-5)) = (-5) := by decide
            exact W.iret (v := r_89) hx hb hr (fun t ht hW => ⟨⟨r_89, (), rfl, trivial, ⟨f_87, k_ret ht hI, kp_96, (0 : Int32), (-5 : Int32), z10, z12, z13, z14, z15, z16, z17, z18, z23, z24, z25, z26, q, u, im, kt, k_91, (by first | omega | decide), (by first | omega | decide), (by first | omega | decide), k_92, hc1_ok, k_93, k_94, k_95, hU⟩⟩, hS.F ht⟩) hS.2.2 dX12_weigh_88
      · have c_30 := kc_eq rfl rfl c_30
        refine lv_aload_n hx hb dX12_weigh_50 rfl (lv_at hl 1 rfl) ?_
        refine lv_bipush (v := (-4)) hx hb dX12_weigh_51 (by decide) ?_
        refine va_calli (va_runV (As := [.int (-4)]) (rest := []) ⟨hx, hb, hml, hown, hts⟩ (c_X12_refuse l dC dI g A hG f_6 h0 (-4) 0 z1 z10 z12 z13 z14 z15 z16 z17 z18 z23 z24 z25 z26 i_h0 k_9 (by first | omega | (simp only [k_c0]; omega)) (by first | omega | (simp only [k_c0]; omega)) (by first | omega | (simp only [k_c0]; omega)) (by first | omega | decide | (simp only [show Int32.toInt (-4) = (-4) from by decide] <;> omega))) (cwV 1 hts (gi_V (fun w_ h0_ => ⟨List.mem_cons_of_mem _ (List.mem_append_right _ (List.mem_append_right _ (List.mem_append_right _ (List.mem_append_right _ (List.mem_append_right _ (List.mem_append_right _ (List.mem_append_right _ (List.mem_append_right _ (List.mem_append_right _ (List.mem_append_right _ (List.mem_append_left _ h0_))))))))))), (tb_c_X12_refuse w_ h0_).2⟩) (List.mem_cons_of_mem _ (List.mem_append_left _ (List.mem_of_getElem? (i := 27) rfl))) (List.mem_cons_of_mem _ (List.mem_append_left _ (List.mem_of_getElem? (i := 28) rfl))) (List.mem_cons_of_mem _ (List.mem_append_left _ (List.mem_of_getElem? (i := 29) rfl))) (List.mem_cons_of_mem _ (List.mem_append_left _ (List.mem_of_getElem? (i := 4) rfl)))) rfl rfl rfl (by decide +kernel) ⟨Nat.le_of_ble_eq_true rfl, Nat.le_of_ble_eq_true rfl⟩) ⟨fun a U g mk q => ⟨q.1, q.2.calling rfl rfl⟩, k_recv hK hI i_h0.1 k_9 (ci := 12) rfl, fun U hU hW => ⟨rfl, kIn.of hI hK hE hS hU hW⟩⟩ rfl rfl hl.1 rfl (lv_room (Nat.le_of_ble_eq_true rfl)) dX12_weigh_53 ⟨Nat.le_of_ble_eq_true rfl, Nat.le_of_ble_eq_true rfl⟩) hS (fun q _ h => h) (fun q h => h) (fun r_100 u9 t H1 locs ht hvm w_99 hB hz1 hk1 hS => ?_)
        obtain ⟨f_98, hI, kc_101, k_102⟩ := hB
        rw [ht] at hI
        have k_103 : f_98 (gr g h0 4) = .inl (gc g 1, 906, .inr (.inl q)) := Kp.at kc_101 i_1 (by decide) k_10
        have k_104 : f_98 (gr g h0 5) = .inl (gc g 1, 9060, .inr (.inl u)) := Kp.at kc_101 i_3 (by decide) k_11
        have k_105 : f_98 (gr g h0 7) = .inl (gc g 1, 1812, .inr (.inl im)) := Kp.at kc_101 i_4 (by decide) k_12
        have k_106 : f_98 (gr g h0 8) = .inl (gc g 3, 2, .inl kt) := Kp.at kc_101 i_5 (by decide) k_13
        have k_102 : f_98 h0 = .inr (12, [.int (0 : Int32), .int (-4 : Int32), .ref (gr g h0 2), .ref (gr g h0 3), .ref (gr g h0 4), .ref (gr g h0 5), .ref (gr g h0 6), .ref (gr g h0 7), .ref (gr g h0 8), .ref (gr g h0 9), .int z10, .ref (gr g h0 11), .int z12, .int z13, .int z14, .int z15, .long z16, .int z17, .int z18, .ref (gr g h0 19), .ref (gr g h0 20), .ref (gr g h0 21), .ref (gr g h0 22), .int z23, .long z24, .long z25, .long z26]) := k_102
        have kp_107 := Kp.call kp_8 kc_101 (by decide)
        generalize H1 = H at hI hS ⊢
        refine W.widen (k := 0) (n := 0) (Nat.le_of_ble_eq_true rfl) (Nat.le_of_ble_eq_true rfl) ?_
        have w_99 : r_100.toInt = (-4 : Int32).toInt := w_99
        have g_108 : Int32.toInt ((-4)) = (-4) := by decide
        exact W.iret (v := r_100) hx hb hr (fun t ht hW => ⟨⟨r_100, (), rfl, trivial, ⟨f_98, k_ret ht hI, kp_107, (0 : Int32), (-4 : Int32), z10, z12, z13, z14, z15, z16, z17, z18, z23, z24, z25, z26, q, u, im, kt, k_102, (by first | omega | decide), (by first | omega | decide), (by first | omega | decide), k_103, hc1_ok, k_104, k_105, k_106, hU⟩⟩, hS.F ht⟩) hS.2.2 dX12_weigh_56
    · have c_24 := kc_eq rfl (by decide : Int32.toInt 0 = 0) c_24
      refine lv_aload_n hx hb dX12_weigh_31 rfl (lv_at hl 0 rfl) ?_
      refine lv_bipush (v := (-2)) hx hb dX12_weigh_32 (by decide) ?_
      refine va_calli (va_runV (As := [.int (-2)]) (rest := []) ⟨hx, hb, hml, hown, hts⟩ (c_X12_refuse l dC dI g A hG f_6 h0 (-2) 0 z1 z10 z12 z13 z14 z15 z16 z17 z18 z23 z24 z25 z26 i_h0 k_9 (by first | omega | (simp only [k_c0]; omega)) (by first | omega | (simp only [k_c0]; omega)) (by first | omega | (simp only [k_c0]; omega)) (by first | omega | decide | (simp only [show Int32.toInt (-2) = (-2) from by decide] <;> omega))) (cwV 1 hts (gi_V (fun w_ h0_ => ⟨List.mem_cons_of_mem _ (List.mem_append_right _ (List.mem_append_right _ (List.mem_append_right _ (List.mem_append_right _ (List.mem_append_right _ (List.mem_append_right _ (List.mem_append_right _ (List.mem_append_right _ (List.mem_append_right _ (List.mem_append_right _ (List.mem_append_left _ h0_))))))))))), (tb_c_X12_refuse w_ h0_).2⟩) (List.mem_cons_of_mem _ (List.mem_append_left _ (List.mem_of_getElem? (i := 27) rfl))) (List.mem_cons_of_mem _ (List.mem_append_left _ (List.mem_of_getElem? (i := 28) rfl))) (List.mem_cons_of_mem _ (List.mem_append_left _ (List.mem_of_getElem? (i := 29) rfl))) (List.mem_cons_of_mem _ (List.mem_append_left _ (List.mem_of_getElem? (i := 4) rfl)))) rfl rfl rfl (by decide +kernel) ⟨Nat.le_of_ble_eq_true rfl, Nat.le_of_ble_eq_true rfl⟩) ⟨fun a U g mk q => ⟨q.1, q.2.calling rfl rfl⟩, k_recv hK hI i_h0.1 k_9 (ci := 12) rfl, fun U hU hW => ⟨rfl, kIn.of hI hK hE hS hU hW⟩⟩ rfl rfl hl.1 rfl (lv_room (Nat.le_of_ble_eq_true rfl)) dX12_weigh_34 ⟨Nat.le_of_ble_eq_true rfl, Nat.le_of_ble_eq_true rfl⟩) hS (fun q _ h => h) (fun q h => h) (fun r_111 u9 t H1 locs ht hvm w_110 hB hz1 hk1 hS => ?_)
      obtain ⟨f_109, hI, kc_112, k_113⟩ := hB
      rw [ht] at hI
      have k_114 : f_109 (gr g h0 4) = .inl (gc g 1, 906, .inr (.inl q)) := Kp.at kc_112 i_1 (by decide) k_10
      have k_115 : f_109 (gr g h0 5) = .inl (gc g 1, 9060, .inr (.inl u)) := Kp.at kc_112 i_3 (by decide) k_11
      have k_116 : f_109 (gr g h0 7) = .inl (gc g 1, 1812, .inr (.inl im)) := Kp.at kc_112 i_4 (by decide) k_12
      have k_117 : f_109 (gr g h0 8) = .inl (gc g 3, 2, .inl kt) := Kp.at kc_112 i_5 (by decide) k_13
      have k_113 : f_109 h0 = .inr (12, [.int (0 : Int32), .int (-2 : Int32), .ref (gr g h0 2), .ref (gr g h0 3), .ref (gr g h0 4), .ref (gr g h0 5), .ref (gr g h0 6), .ref (gr g h0 7), .ref (gr g h0 8), .ref (gr g h0 9), .int z10, .ref (gr g h0 11), .int z12, .int z13, .int z14, .int z15, .long z16, .int z17, .int z18, .ref (gr g h0 19), .ref (gr g h0 20), .ref (gr g h0 21), .ref (gr g h0 22), .int z23, .long z24, .long z25, .long z26]) := k_113
      have kp_118 := Kp.call kp_8 kc_112 (by decide)
      generalize H1 = H at hI hS ⊢
      refine W.widen (k := 0) (n := 0) (Nat.le_of_ble_eq_true rfl) (Nat.le_of_ble_eq_true rfl) ?_
      have w_110 : r_111.toInt = (-2 : Int32).toInt := w_110
      have g_119 : Int32.toInt ((-2)) = (-2) := by decide
      exact W.iret (v := r_111) hx hb hr (fun t ht hW => ⟨⟨r_111, (), rfl, trivial, ⟨f_109, k_ret ht hI, kp_118, (0 : Int32), (-2 : Int32), z10, z12, z13, z14, z15, z16, z17, z18, z23, z24, z25, z26, q, u, im, kt, k_113, (by first | omega | decide), (by first | omega | decide), (by first | omega | decide), k_114, hc1_ok, k_115, k_116, k_117, hU⟩⟩, hS.F ht⟩) hS.2.2 dX12_weigh_37
  · have c_21 := kc_eq rfl (by decide : Int32.toInt 0 = 0) c_21
    refine lv_aload_n hx hb dX12_weigh_17 rfl (lv_at hl 0 rfl) ?_
    refine lv_iconst (v := (-1)) hx hb dX12_weigh_18 (by decide) ?_
    refine va_calli (va_runV (As := [.int (-1)]) (rest := []) ⟨hx, hb, hml, hown, hts⟩ (c_X12_refuse l dC dI g A hG f_6 h0 (-1) 0 z1 z10 z12 z13 z14 z15 z16 z17 z18 z23 z24 z25 z26 i_h0 k_9 (by first | omega | (simp only [k_c0]; omega)) (by first | omega | (simp only [k_c0]; omega)) (by first | omega | (simp only [k_c0]; omega)) (by first | omega | decide | (simp only [show Int32.toInt (-1) = (-1) from by decide] <;> omega))) (cwV 1 hts (gi_V (fun w_ h0_ => ⟨List.mem_cons_of_mem _ (List.mem_append_right _ (List.mem_append_right _ (List.mem_append_right _ (List.mem_append_right _ (List.mem_append_right _ (List.mem_append_right _ (List.mem_append_right _ (List.mem_append_right _ (List.mem_append_right _ (List.mem_append_right _ (List.mem_append_left _ h0_))))))))))), (tb_c_X12_refuse w_ h0_).2⟩) (List.mem_cons_of_mem _ (List.mem_append_left _ (List.mem_of_getElem? (i := 27) rfl))) (List.mem_cons_of_mem _ (List.mem_append_left _ (List.mem_of_getElem? (i := 28) rfl))) (List.mem_cons_of_mem _ (List.mem_append_left _ (List.mem_of_getElem? (i := 29) rfl))) (List.mem_cons_of_mem _ (List.mem_append_left _ (List.mem_of_getElem? (i := 4) rfl)))) rfl rfl rfl (by decide +kernel) ⟨Nat.le_of_ble_eq_true rfl, Nat.le_of_ble_eq_true rfl⟩) ⟨fun a U g mk q => ⟨q.1, q.2.calling rfl rfl⟩, k_recv hK hI i_h0.1 k_9 (ci := 12) rfl, fun U hU hW => ⟨rfl, kIn.of hI hK hE hS hU hW⟩⟩ rfl rfl hl.1 rfl (lv_room (Nat.le_of_ble_eq_true rfl)) dX12_weigh_19 ⟨Nat.le_of_ble_eq_true rfl, Nat.le_of_ble_eq_true rfl⟩) hS (fun q _ h => h) (fun q h => h) (fun r_122 u9 t H1 locs ht hvm w_121 hB hz1 hk1 hS => ?_)
    obtain ⟨f_120, hI, kc_123, k_124⟩ := hB
    rw [ht] at hI
    have k_125 : f_120 (gr g h0 4) = .inl (gc g 1, 906, .inr (.inl q)) := Kp.at kc_123 i_1 (by decide) k_10
    have k_126 : f_120 (gr g h0 5) = .inl (gc g 1, 9060, .inr (.inl u)) := Kp.at kc_123 i_3 (by decide) k_11
    have k_127 : f_120 (gr g h0 7) = .inl (gc g 1, 1812, .inr (.inl im)) := Kp.at kc_123 i_4 (by decide) k_12
    have k_128 : f_120 (gr g h0 8) = .inl (gc g 3, 2, .inl kt) := Kp.at kc_123 i_5 (by decide) k_13
    have k_124 : f_120 h0 = .inr (12, [.int (0 : Int32), .int (-1 : Int32), .ref (gr g h0 2), .ref (gr g h0 3), .ref (gr g h0 4), .ref (gr g h0 5), .ref (gr g h0 6), .ref (gr g h0 7), .ref (gr g h0 8), .ref (gr g h0 9), .int z10, .ref (gr g h0 11), .int z12, .int z13, .int z14, .int z15, .long z16, .int z17, .int z18, .ref (gr g h0 19), .ref (gr g h0 20), .ref (gr g h0 21), .ref (gr g h0 22), .int z23, .long z24, .long z25, .long z26]) := k_124
    have kp_129 := Kp.call kp_8 kc_123 (by decide)
    generalize H1 = H at hI hS ⊢
    refine W.widen (k := 0) (n := 0) (Nat.le_of_ble_eq_true rfl) (Nat.le_of_ble_eq_true rfl) ?_
    have w_121 : r_122.toInt = (-1 : Int32).toInt := w_121
    have g_130 : Int32.toInt ((-1)) = (-1) := by decide
    exact W.iret (v := r_122) hx hb hr (fun t ht hW => ⟨⟨r_122, (), rfl, trivial, ⟨f_120, k_ret ht hI, kp_129, (0 : Int32), (-1 : Int32), z10, z12, z13, z14, z15, z16, z17, z18, z23, z24, z25, z26, q, u, im, kt, k_124, (by first | omega | decide), (by first | omega | decide), (by first | omega | decide), k_125, hc1_ok, k_126, k_127, k_128, hU⟩⟩, hS.F ht⟩) hS.2.2 dX12_weigh_22
theorem tw_970 : q_g (.constantLong RX12 137 (20)) := ⟨(List.mem_append_right _ (List.mem_of_getElem? (i := 1222) (by decide +kernel))), good_of_word (by decide +kernel)⟩
theorem tw_971 : q_g (.code yX12_slice cX12_slice 4 (some .int)) := ⟨(List.mem_append_right _ (List.mem_of_getElem? (i := 1302) (by decide +kernel))), good_of_word (by decide +kernel)⟩
def ow_c_X12_slice : List Cond := [.fieldLink RX12 67 "DeadlineShareModel" "thrown" "I", .constantLong RX12 137 (20), .methodLink RX12 83 yX12_in, .static yX12_in, .initialized RX12, .methodLink RX12 142 yX12_isTask, .instanceMethod yX12_isTask, .selects RX12 yX12_isTask yX12_isTask, .fieldLink RX12 16 "DeadlineShareModel" "row" "[J", .methodLink RX12 87 yX12_at, .static yX12_at, .methodLink RX12 139 yX12_remember, .instanceMethod yX12_remember, .selects RX12 yX12_remember yX12_remember, .methodLink RX12 161 yX12_slices, .instanceMethod yX12_slices, .selects RX12 yX12_slices yX12_slices, .methodLink RX12 80 yX12_tell, .instanceMethod yX12_tell, .selects RX12 yX12_tell yX12_tell, .methodLink RX12 76 yX12_refuse, .instanceMethod yX12_refuse, .selects RX12 yX12_refuse yX12_refuse]
def wq_c_X12_slice : List Cond := .code yX12_slice cX12_slice 4 (some .int) :: (ow_c_X12_slice ++ (u_ws RX12 TX12 27 ++ (wq_c_X12_in ++ (wq_c_X12_isTask ++ (wq_c_X12_at ++ (wq_c_X12_remember ++ (wq_c_X12_slices ++ (wq_c_X12_tell ++ (wq_c_X12_refuse ++ ([] : List Cond))))))))))
theorem tb_c_X12_slice : ∀ w ∈ wq_c_X12_slice, q_g w := by
  unfold wq_c_X12_slice ow_c_X12_slice
  exact q_cons tw_971 (q_app (q_cons tw_927 (q_cons tw_970 (q_cons tw_730 (q_cons tw_729 (q_cons tw_728 (q_cons tw_951 (q_cons tw_950 (q_cons tw_949 (q_cons tw_731 (q_cons tw_734 (q_cons tw_733 (q_cons tw_963 (q_cons tw_962 (q_cons tw_961 (q_cons tw_831 (q_cons tw_830 (q_cons tw_829 (q_cons tw_960 (q_cons tw_959 (q_cons tw_958 (q_cons tw_966 (q_cons tw_965 (q_cons tw_964 q_nil))))))))))))))))))))))) (q_app tu_X12 (q_app tb_c_X12_in (q_app tb_c_X12_isTask (q_app tb_c_X12_at (q_app tb_c_X12_remember (q_app tb_c_X12_slices (q_app tb_c_X12_tell (q_app tb_c_X12_refuse q_nil)))))))))
set_option maxHeartbeats 4000000 in
set_option maxRecDepth 100000 in
theorem c_X12_slice (l : Launch) (dC : Nat → ClassId) (dI : Nat → Nat → Nat) (g : kG) (A : Nat → Prop) (hG : kWf g) (f : Nat → va_E) (h0 : Nat) (p1 : Int32) (p2 : Int32) (z0 : Int32) (z1 : Int32) (z10 : Int32) (z12 : Int32) (z13 : Int32) (z14 : Int32) (z15 : Int32) (z16 : Int64) (z17 : Int32) (z18 : Int32) (z23 : Int32) (z24 : Int64) (z25 : Int64) (z26 : Int64) (q : Nat → Int64) (u : Nat → Int64) (im : Nat → Int64) (kt : Nat → Int32) (i_h0 : ik g 12 h0) (hc0 : f h0 = .inr (12, [.int z0, .int z1, .ref (gr g h0 2), .ref (gr g h0 3), .ref (gr g h0 4), .ref (gr g h0 5), .ref (gr g h0 6), .ref (gr g h0 7), .ref (gr g h0 8), .ref (gr g h0 9), .int z10, .ref (gr g h0 11), .int z12, .int z13, .int z14, .int z15, .long z16, .int z17, .int z18, .ref (gr g h0 19), .ref (gr g h0 20), .ref (gr g h0 21), .ref (gr g h0 22), .int z23, .long z24, .long z25, .long z26])) (hc0_10 : 0 ≤ z10.toInt ∧ z10.toInt ≤ 10) (hc0_12 : 0 ≤ z12.toInt ∧ z12.toInt ≤ 200) (hc0_23 : 0 ≤ z23.toInt ∧ z23.toInt ≤ 8) (hc1 : f (gr g h0 4) = .inl (gc g 1, 906, .inr (.inl q))) (hc1_ok : RowOK q) (hc2 : f (gr g h0 5) = .inl (gc g 1, 9060, .inr (.inl u))) (hc3 : f (gr g h0 7) = .inl (gc g 1, 1812, .inr (.inl im))) (hc4 : f (gr g h0 8) = .inl (gc g 3, 2, .inl kt)) (hU : UIq z10 u im kt) : Met l yX12_slice wq_c_X12_slice ({ frames := 2, cells := 0, slots := 0, locals := 46 } : Room) (va_Pc [.ref h0, .int p1, .int p2] (fun U => kIn dC dI g A f U)) (va_Qi (fun (r : Int32) (_ : Unit) => True) (fun (_ : Unit) t => ∃ f1 : Nat → va_E, Iv dC dI g A f1 t.heap ∧ Kp g [12, 30, 32, 33, 37] f f1 ∧ ∃ (w0 : Int32) (w1 : Int32) (w10 : Int32) (w12 : Int32) (w13 : Int32) (w14 : Int32) (w15 : Int32) (w16 : Int64) (w17 : Int32) (w18 : Int32) (w23 : Int32) (w24 : Int64) (w25 : Int64) (w26 : Int64) (q1 : Nat → Int64) (u1 : Nat → Int64) (im1 : Nat → Int64) (ik1 : Nat → Int32), (f1 h0 = .inr (12, [.int w0, .int w1, .ref (gr g h0 2), .ref (gr g h0 3), .ref (gr g h0 4), .ref (gr g h0 5), .ref (gr g h0 6), .ref (gr g h0 7), .ref (gr g h0 8), .ref (gr g h0 9), .int w10, .ref (gr g h0 11), .int w12, .int w13, .int w14, .int w15, .long w16, .int w17, .int w18, .ref (gr g h0 19), .ref (gr g h0 20), .ref (gr g h0 21), .ref (gr g h0 22), .int w23, .long w24, .long w25, .long w26])) ∧ (0 ≤ w10.toInt ∧ w10.toInt ≤ 10) ∧ (0 ≤ w12.toInt ∧ w12.toInt ≤ 200) ∧ (0 ≤ w23.toInt ∧ w23.toInt ≤ 8) ∧ (f1 (gr g h0 4) = .inl (gc g 1, 906, .inr (.inl q1))) ∧ (RowOK q1) ∧ (f1 (gr g h0 5) = .inl (gc g 1, 9060, .inr (.inl u1))) ∧ (f1 (gr g h0 7) = .inl (gc g 1, 1812, .inr (.inl im1))) ∧ (f1 (gr g h0 8) = .inl (gc g 3, 2, .inl ik1)) ∧ (UIq w10 u1 im1 ik1)) A) 0 0 A := by
  refine Met.ofW (cc := cX12_slice) (maxL := 4) (ret := (some .int)) (by decide) rfl ?_
  intro p e s m args below meth c s₁ B hml hv
  obtain ⟨rfl, hI, hK, hE⟩ := hv
  have hx := B.exec
  have hb := B.bytes
  have hr := B.returns
  have hts := atoms_spec (ws := wq_c_X12_slice) B.pre
  have hown : s.vm.findClass RX12 = some m.cls := findClass_of_methodNamed B.named
  have hlocks := B.notSynchronized
  have hS : va_S A s.heap s.heap [] := va_S.rf
  have hk0 : Kp g [12, 30, 32, 33, 37] f f := Kp.rf
  have hl := lv_entry ([.ref h0, .int p1, .int p2]) (n := 4) (Nat.le_of_ble_eq_true rfl)
  rw [lg_entry_eq]
  generalize (lg_sl ([.ref h0, .int p1, .int p2]) ++ List.replicate (4 - (lg_sl ([.ref h0, .int p1, .int p2])).length) Slot.unset).toArray = ls at hl ⊢
  have hl : lv_has ls 4 [(0, .ref h0), (1, .int p1), (2, .int p2)] := hl
  have i_1 := kw_12_4 hG i_h0
  have d_2 := rk_hd hc1_ok
  have i_3 := kw_12_5 hG i_h0
  have i_4 := kw_12_7 hG i_h0
  have i_5 := kw_12_8 hG i_h0
  refine lv_aload_n hx hb dX12_slice_0 rfl (lv_at hl 0 rfl) ?_
  refine lv_iconst (v := 0) hx hb dX12_slice_1 (by decide) ?_
  refine k_put (ci := 12) (v := .int 0) (ty := .int) (C := RX12) (T := TX12) (N := 27) hx hb hts (fun _ h0_ => List.mem_cons_of_mem _ (List.mem_append_right _ (List.mem_append_left _ h0_))) tyX12 tyX12_ok nmX12 hown hK hI hS i_h0.1 hc0 rfl 0 (by decide) (hts (.fieldLink RX12 67 "DeadlineShareModel" "thrown" "I") (List.mem_cons_of_mem _ (List.mem_append_left _ (List.mem_of_getElem? (i := 0) rfl)))) (fun _ h9 => h9) rfl (by decide +kernel) rfl rfl (Nat.le_of_ble_eq_true rfl) rfl (cl_12 i_h0 (by omega) (by omega) (by omega)) dX12_slice_2 (fun f_6 H locs e_7 hI hS => ?_)
  have k_9 : f_6 h0 = .inr (12, [.int 0, .int z1, .ref (gr g h0 2), .ref (gr g h0 3), .ref (gr g h0 4), .ref (gr g h0 5), .ref (gr g h0 6), .ref (gr g h0 7), .ref (gr g h0 8), .ref (gr g h0 9), .int z10, .ref (gr g h0 11), .int z12, .int z13, .int z14, .int z15, .long z16, .int z17, .int z18, .ref (gr g h0 19), .ref (gr g h0 20), .ref (gr g h0 21), .ref (gr g h0 22), .int z23, .long z24, .long z25, .long z26]) := by rw [e_7]; exact va_up_self _ _ _
  have k_10 : f_6 (gr g h0 4) = .inl (gc g 1, 906, .inr (.inl q)) := by rw [e_7, va_up_ne _ _ (ik_ne i_1 i_h0 (by decide))]; exact hc1
  have k_11 : f_6 (gr g h0 5) = .inl (gc g 1, 9060, .inr (.inl u)) := by rw [e_7, va_up_ne _ _ (ik_ne i_3 i_h0 (by decide))]; exact hc2
  have k_12 : f_6 (gr g h0 7) = .inl (gc g 1, 1812, .inr (.inl im)) := by rw [e_7, va_up_ne _ _ (ik_ne i_4 i_h0 (by decide))]; exact hc3
  have k_13 : f_6 (gr g h0 8) = .inl (gc g 3, 2, .inl kt) := by rw [e_7, va_up_ne _ _ (ik_ne i_5 i_h0 (by decide))]; exact hc4
  have kp_8 := Kp.put hk0 i_h0 (by decide) e_7
  refine lv_iload_n hx hb dX12_slice_5 rfl (lv_at hl 2 rfl) ?_
  refine lv_i2l (v := p2.toInt64) hx hb dX12_slice_6 rfl ?_
  have t_14 := Int32.toInt_toInt64 p2
  have g_15 := Int32.toInt_lt p2
  have g_16 := Int32.le_toInt p2
  refine lv_lconst (v := 1) hx hb dX12_slice_7 (by decide) ?_
  refine lv_ldc2 hx hb hown (hts (.constantLong RX12 137 (20)) (List.mem_cons_of_mem _ (List.mem_append_left _ (List.mem_of_getElem? (i := 1) rfl)))) dX12_slice_8 ?_
  refine va_calli (va_runS (As := [.long p2.toInt64, .long 1, .long 20]) (rest := []) ⟨hx, hb, hml, hown, hts⟩ (c_X12_in l dC dI g A hG f_6 p2.toInt64 1 20) (va_cwS 3 hts (gi_S (fun w_ h0_ => ⟨List.mem_cons_of_mem _ (List.mem_append_right _ (List.mem_append_right _ (List.mem_append_left _ h0_))), (tb_c_X12_in w_ h0_).2⟩) (List.mem_cons_of_mem _ (List.mem_append_left _ (List.mem_of_getElem? (i := 2) rfl))) (List.mem_cons_of_mem _ (List.mem_append_left _ (List.mem_of_getElem? (i := 3) rfl))) (List.mem_cons_of_mem _ (List.mem_append_left _ (List.mem_of_getElem? (i := 4) rfl)))) rfl rfl rfl (by decide +kernel) ⟨Nat.le_of_ble_eq_true rfl, Nat.le_of_ble_eq_true rfl⟩) ⟨fun a U g mk q => ⟨q.1, q.2.calling rfl rfl⟩, fun U hU hW => ⟨rfl, kIn.of hI hK hE hS hU hW⟩⟩ rfl rfl hl.1 rfl (lv_room (Nat.le_of_ble_eq_true rfl)) dX12_slice_11 ⟨Nat.le_of_ble_eq_true rfl, Nat.le_of_ble_eq_true rfl⟩) hS (fun q _ h => h) (fun q h => h) (fun r_18 u9 t H1 locs ht hvm w_17 hB hz1 hk1 hS => ?_)
  have hI : Iv dC dI g A f_6 t.heap := hB
  rw [ht] at hI
  generalize H1 = H at hI hS ⊢
  refine W.widen (k := 0) (n := 0) (Nat.le_of_ble_eq_true rfl) (Nat.le_of_ble_eq_true rfl) ?_
  have w_17 : (r_18.toInt = 0 ∧ (p2.toInt64.toInt < (1 : Int64).toInt ∨ (20 : Int64).toInt < p2.toInt64.toInt)) ∨ (r_18.toInt = 1 ∧ (1 : Int64).toInt ≤ p2.toInt64.toInt ∧ p2.toInt64.toInt ≤ (20 : Int64).toInt) := w_17
  have g_19 : Int64.toInt (1) = 1 := by decide
  have g_20 : Int64.toInt (20) = 20 := by decide
  refine lv_if_ne (tgt := 23) hx hb dX12_slice_14 (by decide) (fun c_21 => ?_) (fun c_21 => ?_)
  · have c_21 := kn_eq rfl (by decide : Int32.toInt 0 = 0) c_21
    refine lv_aload_n hx hb dX12_slice_23 rfl (lv_at hl 0 rfl) ?_
    refine lv_iload_n hx hb dX12_slice_24 rfl (lv_at hl 1 rfl) ?_
    refine va_calli (va_runV (As := [.int p1]) (rest := []) ⟨hx, hb, hml, hown, hts⟩ (c_X12_isTask l dC dI g A hG f_6 h0 p1 q i_h0 k_10 hc1_ok) (cwV 1 hts (gi_V (fun w_ h0_ => ⟨List.mem_cons_of_mem _ (List.mem_append_right _ (List.mem_append_right _ (List.mem_append_right _ (List.mem_append_left _ h0_)))), (tb_c_X12_isTask w_ h0_).2⟩) (List.mem_cons_of_mem _ (List.mem_append_left _ (List.mem_of_getElem? (i := 5) rfl))) (List.mem_cons_of_mem _ (List.mem_append_left _ (List.mem_of_getElem? (i := 6) rfl))) (List.mem_cons_of_mem _ (List.mem_append_left _ (List.mem_of_getElem? (i := 7) rfl))) (List.mem_cons_of_mem _ (List.mem_append_left _ (List.mem_of_getElem? (i := 4) rfl)))) rfl rfl rfl (by decide +kernel) ⟨Nat.le_of_ble_eq_true rfl, Nat.le_of_ble_eq_true rfl⟩) ⟨fun a U g mk q => ⟨q.1, q.2.calling rfl rfl⟩, k_recv hK hI i_h0.1 k_9 (ci := 12) rfl, fun U hU hW => ⟨rfl, kIn.of hI hK hE hS hU hW⟩⟩ rfl rfl hl.1 rfl (lv_room (Nat.le_of_ble_eq_true rfl)) dX12_slice_25 ⟨Nat.le_of_ble_eq_true rfl, Nat.le_of_ble_eq_true rfl⟩) hS (fun q _ h => h) (fun q h => h) (fun r_23 u9 t H1 locs ht hvm w_22 hB hz1 hk1 hS => ?_)
    have hI : Iv dC dI g A f_6 t.heap := hB
    rw [ht] at hI
    generalize H1 = H at hI hS ⊢
    refine W.widen (k := 0) (n := 0) (Nat.le_of_ble_eq_true rfl) (Nat.le_of_ble_eq_true rfl) ?_
    have w_22 : (r_23.toInt = 0 ∨ r_23.toInt = 1) ∧ (r_23.toInt = 0 ∨ (0 ≤ p1.toInt ∧ p1.toInt < (q 0).toInt)) := w_22
    refine lv_if_ne (tgt := 38) hx hb dX12_slice_28 (by decide) (fun c_24 => ?_) (fun c_24 => ?_)
    · have c_24 := kn_eq rfl (by decide : Int32.toInt 0 = 0) c_24
      refine lv_aload_n hx hb dX12_slice_38 rfl (lv_at hl 0 rfl) ?_
      refine k_get (ci := 12) (v := .ref (gr g h0 4)) (C := RX12) (T := TX12) (N := 27) hx hb hts (fun _ h0_ => List.mem_cons_of_mem _ (List.mem_append_right _ (List.mem_append_left _ h0_))) hown hK hI i_h0.1 k_9 rfl 4 (by decide) (hts (.fieldLink RX12 16 "DeadlineShareModel" "row" "[J") (List.mem_cons_of_mem _ (List.mem_append_left _ (List.mem_of_getElem? (i := 8) rfl)))) (fun _ h9 => h9) rfl dX12_slice_39 ?_
      obtain ⟨m_27, em_27, tm_27⟩ := k_nat (x := p1) (by omega)
      refine lv_iload_n hx hb dX12_slice_42 rfl (lv_at hl 1 rfl) ?_
      refine k_topi (y := nI m_27) em_27 ?_
      refine va_calli (va_runS (As := [.int (nI m_27)]) (rest := [.ref (gr g h0 4)]) ⟨hx, hb, hml, hown, hts⟩ (c_X12_at l dC dI g A hG f_6 m_27) (va_cwS 1 hts (gi_S (fun w_ h0_ => ⟨List.mem_cons_of_mem _ (List.mem_append_right _ (List.mem_append_right _ (List.mem_append_right _ (List.mem_append_right _ (List.mem_append_left _ h0_))))), (tb_c_X12_at w_ h0_).2⟩) (List.mem_cons_of_mem _ (List.mem_append_left _ (List.mem_of_getElem? (i := 9) rfl))) (List.mem_cons_of_mem _ (List.mem_append_left _ (List.mem_of_getElem? (i := 10) rfl))) (List.mem_cons_of_mem _ (List.mem_append_left _ (List.mem_of_getElem? (i := 4) rfl)))) rfl rfl rfl (by decide +kernel) ⟨Nat.le_of_ble_eq_true rfl, Nat.le_of_ble_eq_true rfl⟩) ⟨fun a U g mk q => ⟨q.1, q.2.calling rfl rfl⟩, fun U hU hW => ⟨rfl, kIn.of hI hK hE hS hU hW⟩⟩ rfl rfl hl.1 rfl (lv_room (Nat.le_of_ble_eq_true rfl)) dX12_slice_43 ⟨Nat.le_of_ble_eq_true rfl, Nat.le_of_ble_eq_true rfl⟩) hS (fun q _ h => h) (fun q h => h) (fun r_29 u9 t H1 locs ht hvm w_28 hB hz1 hk1 hS => ?_)
      have hI : Iv dC dI g A f_6 t.heap := hB
      rw [ht] at hI
      generalize H1 = H at hI hS ⊢
      refine W.widen (k := 0) (n := 0) (Nat.le_of_ble_eq_true rfl) (Nat.le_of_ble_eq_true rfl) ?_
      have w_28 : r_29 = nI (6 + 43 * m_27) := w_28
      refine k_topi (y := nI (6 + 43 * m_27)) w_28 ?_
      refine lv_iconst (v := 1) hx hb dX12_slice_46 (by decide) ?_
      refine lv_iadd hx hb dX12_slice_47 ?_
      refine k_topi (y := nI (6 + 43 * m_27 + 1)) ((nI_add (6 + 43 * m_27) 1).trans (congrArg nI (by omega))) ?_
      refine k_lald hx hb hK hI i_1.1 1 k_10 rfl (vp_in_nI (by omega) (by omega)) dX12_slice_48 ?_
      refine k_topl (y := q (6 + 43 * m_27 + 1)) (congrArg q (nI_clamp (by omega))) ?_
      refine lv_l2i (v := (q (6 + 43 * m_27 + 1)).toInt32) hx hb dX12_slice_49 rfl ?_
      refine lv_topi (fun v_30 ev_30 => ?_)
      have tv_30 := k_l2i (q (6 + 43 * m_27 + 1))
      rw [← ev_30] at tv_30
      refine lv_istore_n (lv' := [(3, .int v_30), (0, .ref h0), (1, .int p1), (2, .int p2)]) hx hb dX12_slice_50 rfl hl (by decide) rfl (fun ls hl => ?_)
      refine lv_iload_n hx hb dX12_slice_51 rfl (lv_at hl 0 rfl) ?_
      refine lv_iload_n hx hb dX12_slice_52 rfl (lv_at hl 3 rfl) ?_
      refine lv_icmp_ne (tgt := 63) hx hb dX12_slice_53 (by decide) (fun c_31 => ?_) (fun c_31 => ?_)
      · have c_31 := kn_eq rfl rfl c_31
        refine lv_aload_n hx hb dX12_slice_63 rfl (lv_at hl 1 rfl) ?_
        refine lv_iconst (v := 4) hx hb dX12_slice_64 (by decide) ?_
        refine va_callv (va_runV (As := [.int 4]) (rest := []) ⟨hx, hb, hml, hown, hts⟩ (c_X12_remember l dC dI g A hG f_6 h0 4 0 z1 z10 z12 z13 z14 z15 z16 z17 z18 z23 z24 z25 z26 q u im kt i_h0 k_9 (by first | omega | (simp only [k_c0]; omega)) (by first | omega | (simp only [k_c0]; omega)) (by first | omega | (simp only [k_c0]; omega)) k_10 hc1_ok k_11 k_12 k_13 (by first | omega | decide | (simp only [show Int32.toInt 4 = 4 from by decide] <;> omega))) (cwV 1 hts (gi_V (fun w_ h0_ => ⟨List.mem_cons_of_mem _ (List.mem_append_right _ (List.mem_append_right _ (List.mem_append_right _ (List.mem_append_right _ (List.mem_append_right _ (List.mem_append_left _ h0_)))))), (tb_c_X12_remember w_ h0_).2⟩) (List.mem_cons_of_mem _ (List.mem_append_left _ (List.mem_of_getElem? (i := 11) rfl))) (List.mem_cons_of_mem _ (List.mem_append_left _ (List.mem_of_getElem? (i := 12) rfl))) (List.mem_cons_of_mem _ (List.mem_append_left _ (List.mem_of_getElem? (i := 13) rfl))) (List.mem_cons_of_mem _ (List.mem_append_left _ (List.mem_of_getElem? (i := 4) rfl)))) rfl rfl rfl (by decide +kernel) ⟨Nat.le_of_ble_eq_true rfl, Nat.le_of_ble_eq_true rfl⟩) ⟨fun a U g mk q => ⟨q.1, q.2.calling rfl rfl⟩, k_recv hK hI i_h0.1 k_9 (ci := 12) rfl, fun U hU hW => ⟨rfl, kIn.of hI hK hE hS hU hW⟩⟩ rfl rfl hl.1 rfl (lv_room (Nat.le_of_ble_eq_true rfl)) dX12_slice_65 ⟨Nat.le_of_ble_eq_true rfl, Nat.le_of_ble_eq_true rfl⟩) hS (fun q _ h => h) (fun q h => h) (fun u9 t H1 locs ht hvm _ hB hz1 hk1 hS => ?_)
        obtain ⟨f_32, hI, kc_34, w10_35, u1_36, k_37, z_38, k_39, z_40⟩ := hB
        rw [ht] at hI
        have k_41 : f_32 (gr g h0 4) = .inl (gc g 1, 906, .inr (.inl q)) := Kp.at kc_34 i_1 (by decide) k_10
        have k_42 : f_32 (gr g h0 7) = .inl (gc g 1, 1812, .inr (.inl im)) := Kp.at kc_34 i_4 (by decide) k_12
        have k_43 : f_32 (gr g h0 8) = .inl (gc g 3, 2, .inl kt) := Kp.at kc_34 i_5 (by decide) k_13
        have k_37 : f_32 h0 = .inr (12, [.int (0 : Int32), .int z1, .ref (gr g h0 2), .ref (gr g h0 3), .ref (gr g h0 4), .ref (gr g h0 5), .ref (gr g h0 6), .ref (gr g h0 7), .ref (gr g h0 8), .ref (gr g h0 9), .int w10_35, .ref (gr g h0 11), .int z12, .int z13, .int z14, .int z15, .long z16, .int z17, .int z18, .ref (gr g h0 19), .ref (gr g h0 20), .ref (gr g h0 21), .ref (gr g h0 22), .int z23, .long z24, .long z25, .long z26]) := k_37
        have z_38 : 0 ≤ w10_35.toInt ∧ w10_35.toInt ≤ 10 := z_38
        have z_40 : UIq w10_35 u1_36 im kt := z_40
        have kp_44 := Kp.call kp_8 kc_34 (by decide)
        generalize H1 = H at hI hS ⊢
        refine W.widen (k := 0) (n := 0) (Nat.le_of_ble_eq_true rfl) (Nat.le_of_ble_eq_true rfl) ?_
        refine lv_aload_n hx hb dX12_slice_68 rfl (lv_at hl 1 rfl) ?_
        refine lv_iload_n hx hb dX12_slice_69 rfl (lv_at hl 2 rfl) ?_
        refine k_topi (y := nI m_27) em_27 ?_
        refine lv_iload_n hx hb dX12_slice_70 rfl (lv_at hl 3 rfl) ?_
        refine lv_i2l (v := p2.toInt64) hx hb dX12_slice_71 rfl ?_
        have t_45 := Int32.toInt_toInt64 p2
        have g_46 := Int32.toInt_lt p2
        have g_47 := Int32.le_toInt p2
        refine va_callv (va_runV (As := [.int (nI m_27), .long p2.toInt64]) (rest := []) ⟨hx, hb, hml, hown, hts⟩ (c_X12_slices l dC dI g A hG f_32 h0 m_27 p2.toInt64 q i_h0 k_41 hc1_ok (by first | omega | decide | (simp only [k_c0, k_c1, k_cm1] <;> omega))) (cwV 2 hts (gi_V (fun w_ h0_ => ⟨List.mem_cons_of_mem _ (List.mem_append_right _ (List.mem_append_right _ (List.mem_append_right _ (List.mem_append_right _ (List.mem_append_right _ (List.mem_append_right _ (List.mem_append_left _ h0_))))))), (tb_c_X12_slices w_ h0_).2⟩) (List.mem_cons_of_mem _ (List.mem_append_left _ (List.mem_of_getElem? (i := 14) rfl))) (List.mem_cons_of_mem _ (List.mem_append_left _ (List.mem_of_getElem? (i := 15) rfl))) (List.mem_cons_of_mem _ (List.mem_append_left _ (List.mem_of_getElem? (i := 16) rfl))) (List.mem_cons_of_mem _ (List.mem_append_left _ (List.mem_of_getElem? (i := 4) rfl)))) rfl rfl rfl (by decide +kernel) ⟨Nat.le_of_ble_eq_true rfl, Nat.le_of_ble_eq_true rfl⟩) ⟨fun a U g mk q => ⟨q.1, q.2.calling rfl rfl⟩, k_recv hK hI i_h0.1 k_37 (ci := 12) rfl, fun U hU hW => ⟨rfl, kIn.of hI hK hE hS hU hW⟩⟩ rfl rfl hl.1 rfl (lv_room (Nat.le_of_ble_eq_true rfl)) dX12_slice_72 ⟨Nat.le_of_ble_eq_true rfl, Nat.le_of_ble_eq_true rfl⟩) hS (fun q _ h => h) (fun q h => h) (fun u9 t H1 locs ht hvm _ hB hz1 hk1 hS => ?_)
        obtain ⟨f_48, hI, kc_50, q1_51, k_52, z_53, z_54, z_55, z_56⟩ := hB
        rw [ht] at hI
        have k_57 : f_48 (gr g h0 7) = .inl (gc g 1, 1812, .inr (.inl im)) := Kp.at kc_50 i_4 (by decide) k_42
        have k_58 : f_48 (gr g h0 8) = .inl (gc g 3, 2, .inl kt) := Kp.at kc_50 i_5 (by decide) k_43
        have k_59 : f_48 h0 = .inr (12, [.int (0 : Int32), .int z1, .ref (gr g h0 2), .ref (gr g h0 3), .ref (gr g h0 4), .ref (gr g h0 5), .ref (gr g h0 6), .ref (gr g h0 7), .ref (gr g h0 8), .ref (gr g h0 9), .int w10_35, .ref (gr g h0 11), .int z12, .int z13, .int z14, .int z15, .long z16, .int z17, .int z18, .ref (gr g h0 19), .ref (gr g h0 20), .ref (gr g h0 21), .ref (gr g h0 22), .int z23, .long z24, .long z25, .long z26]) := Kp.at kc_50 i_h0 (by decide) k_37
        have k_60 : f_48 (gr g h0 5) = .inl (gc g 1, 9060, .inr (.inl u1_36)) := Kp.at kc_50 i_3 (by decide) k_39
        have z_53 : RowOK q1_51 := z_53
        have d_61 := rk_hd z_53
        have z_54 : (q1_51 0).toInt = (q 0).toInt := z_54
        have z_55 : (q1_51 1).toInt = (q 1).toInt := z_55
        have z_56 : ∀ j : Nat, 11 ≤ j → j < 43 → q1_51 (6 + 43 * m_27 + j) = q (6 + 43 * m_27 + j) := z_56
        have kp_62 := Kp.call kp_44 kc_50 (by decide)
        generalize H1 = H at hI hS ⊢
        refine W.widen (k := 0) (n := 0) (Nat.le_of_ble_eq_true rfl) (Nat.le_of_ble_eq_true rfl) ?_
        refine lv_aload_n hx hb dX12_slice_75 rfl (lv_at hl 1 rfl) ?_
        refine lv_iload_n hx hb dX12_slice_76 rfl (lv_at hl 0 rfl) ?_
        refine va_calli (va_runV (As := [.int v_30]) (rest := []) ⟨hx, hb, hml, hown, hts⟩ (c_X12_tell l dC dI g A hG f_48 h0 v_30 (0 : Int32) z1 w10_35 z12 z13 z14 z15 z16 z17 z18 z23 z24 z25 z26 i_h0 k_59 (by first | omega | (simp only [k_c0]; omega)) (by first | omega | (simp only [k_c0]; omega)) (by first | omega | (simp only [k_c0]; omega))) (cwV 1 hts (gi_V (fun w_ h0_ => ⟨List.mem_cons_of_mem _ (List.mem_append_right _ (List.mem_append_right _ (List.mem_append_right _ (List.mem_append_right _ (List.mem_append_right _ (List.mem_append_right _ (List.mem_append_right _ (List.mem_append_left _ h0_)))))))), (tb_c_X12_tell w_ h0_).2⟩) (List.mem_cons_of_mem _ (List.mem_append_left _ (List.mem_of_getElem? (i := 17) rfl))) (List.mem_cons_of_mem _ (List.mem_append_left _ (List.mem_of_getElem? (i := 18) rfl))) (List.mem_cons_of_mem _ (List.mem_append_left _ (List.mem_of_getElem? (i := 19) rfl))) (List.mem_cons_of_mem _ (List.mem_append_left _ (List.mem_of_getElem? (i := 4) rfl)))) rfl rfl rfl (by decide +kernel) ⟨Nat.le_of_ble_eq_true rfl, Nat.le_of_ble_eq_true rfl⟩) ⟨fun a U g mk q => ⟨q.1, q.2.calling rfl rfl⟩, k_recv hK hI i_h0.1 k_59 (ci := 12) rfl, fun U hU hW => ⟨rfl, kIn.of hI hK hE hS hU hW⟩⟩ rfl rfl hl.1 rfl (lv_room (Nat.le_of_ble_eq_true rfl)) dX12_slice_77 ⟨Nat.le_of_ble_eq_true rfl, Nat.le_of_ble_eq_true rfl⟩) hS (fun q _ h => h) (fun q h => h) (fun r_65 u9 t H1 locs ht hvm w_64 hB hz1 hk1 hS => ?_)
        obtain ⟨f_63, hI, kc_66, k_67⟩ := hB
        rw [ht] at hI
        have k_68 : f_63 (gr g h0 7) = .inl (gc g 1, 1812, .inr (.inl im)) := Kp.at kc_66 i_4 (by decide) k_57
        have k_69 : f_63 (gr g h0 8) = .inl (gc g 3, 2, .inl kt) := Kp.at kc_66 i_5 (by decide) k_58
        have k_70 : f_63 (gr g h0 5) = .inl (gc g 1, 9060, .inr (.inl u1_36)) := Kp.at kc_66 i_3 (by decide) k_60
        have k_71 : f_63 (gr g h0 4) = .inl (gc g 1, 906, .inr (.inl q1_51)) := Kp.at kc_66 i_1 (by decide) k_52
        have k_67 : f_63 h0 = .inr (12, [.int (0 : Int32), .int 0, .ref (gr g h0 2), .ref (gr g h0 3), .ref (gr g h0 4), .ref (gr g h0 5), .ref (gr g h0 6), .ref (gr g h0 7), .ref (gr g h0 8), .ref (gr g h0 9), .int w10_35, .ref (gr g h0 11), .int z12, .int z13, .int z14, .int z15, .long z16, .int z17, .int z18, .ref (gr g h0 19), .ref (gr g h0 20), .ref (gr g h0 21), .ref (gr g h0 22), .int z23, .long z24, .long z25, .long z26]) := k_67
        have kp_72 := Kp.call kp_62 kc_66 (by decide)
        generalize H1 = H at hI hS ⊢
        refine W.widen (k := 0) (n := 0) (Nat.le_of_ble_eq_true rfl) (Nat.le_of_ble_eq_true rfl) ?_
        have w_64 : r_65.toInt = v_30.toInt := w_64
        exact W.iret (v := r_65) hx hb hr (fun t ht hW => ⟨⟨r_65, (), rfl, trivial, ⟨f_63, k_ret ht hI, kp_72, (0 : Int32), 0, w10_35, z12, z13, z14, z15, z16, z17, z18, z23, z24, z25, z26, q1_51, u1_36, im, kt, k_67, (by first | omega | decide), (by first | omega | decide), (by first | omega | decide), k_71, z_53, k_70, k_68, k_69, z_40⟩⟩, hS.F ht⟩) hS.2.2 dX12_slice_80
      · have c_31 := kc_eq rfl rfl c_31
        refine lv_aload_n hx hb dX12_slice_56 rfl (lv_at hl 1 rfl) ?_
        refine lv_bipush (v := (-4)) hx hb dX12_slice_57 (by decide) ?_
        refine va_calli (va_runV (As := [.int (-4)]) (rest := []) ⟨hx, hb, hml, hown, hts⟩ (c_X12_refuse l dC dI g A hG f_6 h0 (-4) 0 z1 z10 z12 z13 z14 z15 z16 z17 z18 z23 z24 z25 z26 i_h0 k_9 (by first | omega | (simp only [k_c0]; omega)) (by first | omega | (simp only [k_c0]; omega)) (by first | omega | (simp only [k_c0]; omega)) (by first | omega | decide | (simp only [show Int32.toInt (-4) = (-4) from by decide] <;> omega))) (cwV 1 hts (gi_V (fun w_ h0_ => ⟨List.mem_cons_of_mem _ (List.mem_append_right _ (List.mem_append_right _ (List.mem_append_right _ (List.mem_append_right _ (List.mem_append_right _ (List.mem_append_right _ (List.mem_append_right _ (List.mem_append_right _ (List.mem_append_left _ h0_))))))))), (tb_c_X12_refuse w_ h0_).2⟩) (List.mem_cons_of_mem _ (List.mem_append_left _ (List.mem_of_getElem? (i := 20) rfl))) (List.mem_cons_of_mem _ (List.mem_append_left _ (List.mem_of_getElem? (i := 21) rfl))) (List.mem_cons_of_mem _ (List.mem_append_left _ (List.mem_of_getElem? (i := 22) rfl))) (List.mem_cons_of_mem _ (List.mem_append_left _ (List.mem_of_getElem? (i := 4) rfl)))) rfl rfl rfl (by decide +kernel) ⟨Nat.le_of_ble_eq_true rfl, Nat.le_of_ble_eq_true rfl⟩) ⟨fun a U g mk q => ⟨q.1, q.2.calling rfl rfl⟩, k_recv hK hI i_h0.1 k_9 (ci := 12) rfl, fun U hU hW => ⟨rfl, kIn.of hI hK hE hS hU hW⟩⟩ rfl rfl hl.1 rfl (lv_room (Nat.le_of_ble_eq_true rfl)) dX12_slice_59 ⟨Nat.le_of_ble_eq_true rfl, Nat.le_of_ble_eq_true rfl⟩) hS (fun q _ h => h) (fun q h => h) (fun r_75 u9 t H1 locs ht hvm w_74 hB hz1 hk1 hS => ?_)
        obtain ⟨f_73, hI, kc_76, k_77⟩ := hB
        rw [ht] at hI
        have k_78 : f_73 (gr g h0 4) = .inl (gc g 1, 906, .inr (.inl q)) := Kp.at kc_76 i_1 (by decide) k_10
        have k_79 : f_73 (gr g h0 5) = .inl (gc g 1, 9060, .inr (.inl u)) := Kp.at kc_76 i_3 (by decide) k_11
        have k_80 : f_73 (gr g h0 7) = .inl (gc g 1, 1812, .inr (.inl im)) := Kp.at kc_76 i_4 (by decide) k_12
        have k_81 : f_73 (gr g h0 8) = .inl (gc g 3, 2, .inl kt) := Kp.at kc_76 i_5 (by decide) k_13
        have k_77 : f_73 h0 = .inr (12, [.int (0 : Int32), .int (-4 : Int32), .ref (gr g h0 2), .ref (gr g h0 3), .ref (gr g h0 4), .ref (gr g h0 5), .ref (gr g h0 6), .ref (gr g h0 7), .ref (gr g h0 8), .ref (gr g h0 9), .int z10, .ref (gr g h0 11), .int z12, .int z13, .int z14, .int z15, .long z16, .int z17, .int z18, .ref (gr g h0 19), .ref (gr g h0 20), .ref (gr g h0 21), .ref (gr g h0 22), .int z23, .long z24, .long z25, .long z26]) := k_77
        have kp_82 := Kp.call kp_8 kc_76 (by decide)
        generalize H1 = H at hI hS ⊢
        refine W.widen (k := 0) (n := 0) (Nat.le_of_ble_eq_true rfl) (Nat.le_of_ble_eq_true rfl) ?_
        have w_74 : r_75.toInt = (-4 : Int32).toInt := w_74
        have g_83 : Int32.toInt ((-4)) = (-4) := by decide
        exact W.iret (v := r_75) hx hb hr (fun t ht hW => ⟨⟨r_75, (), rfl, trivial, ⟨f_73, k_ret ht hI, kp_82, (0 : Int32), (-4 : Int32), z10, z12, z13, z14, z15, z16, z17, z18, z23, z24, z25, z26, q, u, im, kt, k_77, (by first | omega | decide), (by first | omega | decide), (by first | omega | decide), k_78, hc1_ok, k_79, k_80, k_81, hU⟩⟩, hS.F ht⟩) hS.2.2 dX12_slice_62
    · have c_24 := kc_eq rfl (by decide : Int32.toInt 0 = 0) c_24
      refine lv_aload_n hx hb dX12_slice_31 rfl (lv_at hl 0 rfl) ?_
      refine lv_bipush (v := (-2)) hx hb dX12_slice_32 (by decide) ?_
      refine va_calli (va_runV (As := [.int (-2)]) (rest := []) ⟨hx, hb, hml, hown, hts⟩ (c_X12_refuse l dC dI g A hG f_6 h0 (-2) 0 z1 z10 z12 z13 z14 z15 z16 z17 z18 z23 z24 z25 z26 i_h0 k_9 (by first | omega | (simp only [k_c0]; omega)) (by first | omega | (simp only [k_c0]; omega)) (by first | omega | (simp only [k_c0]; omega)) (by first | omega | decide | (simp only [show Int32.toInt (-2) = (-2) from by decide] <;> omega))) (cwV 1 hts (gi_V (fun w_ h0_ => ⟨List.mem_cons_of_mem _ (List.mem_append_right _ (List.mem_append_right _ (List.mem_append_right _ (List.mem_append_right _ (List.mem_append_right _ (List.mem_append_right _ (List.mem_append_right _ (List.mem_append_right _ (List.mem_append_left _ h0_))))))))), (tb_c_X12_refuse w_ h0_).2⟩) (List.mem_cons_of_mem _ (List.mem_append_left _ (List.mem_of_getElem? (i := 20) rfl))) (List.mem_cons_of_mem _ (List.mem_append_left _ (List.mem_of_getElem? (i := 21) rfl))) (List.mem_cons_of_mem _ (List.mem_append_left _ (List.mem_of_getElem? (i := 22) rfl))) (List.mem_cons_of_mem _ (List.mem_append_left _ (List.mem_of_getElem? (i := 4) rfl)))) rfl rfl rfl (by decide +kernel) ⟨Nat.le_of_ble_eq_true rfl, Nat.le_of_ble_eq_true rfl⟩) ⟨fun a U g mk q => ⟨q.1, q.2.calling rfl rfl⟩, k_recv hK hI i_h0.1 k_9 (ci := 12) rfl, fun U hU hW => ⟨rfl, kIn.of hI hK hE hS hU hW⟩⟩ rfl rfl hl.1 rfl (lv_room (Nat.le_of_ble_eq_true rfl)) dX12_slice_34 ⟨Nat.le_of_ble_eq_true rfl, Nat.le_of_ble_eq_true rfl⟩) hS (fun q _ h => h) (fun q h => h) (fun r_86 u9 t H1 locs ht hvm w_85 hB hz1 hk1 hS => ?_)
      obtain ⟨f_84, hI, kc_87, k_88⟩ := hB
      rw [ht] at hI
      have k_89 : f_84 (gr g h0 4) = .inl (gc g 1, 906, .inr (.inl q)) := Kp.at kc_87 i_1 (by decide) k_10
      have k_90 : f_84 (gr g h0 5) = .inl (gc g 1, 9060, .inr (.inl u)) := Kp.at kc_87 i_3 (by decide) k_11
      have k_91 : f_84 (gr g h0 7) = .inl (gc g 1, 1812, .inr (.inl im)) := Kp.at kc_87 i_4 (by decide) k_12
      have k_92 : f_84 (gr g h0 8) = .inl (gc g 3, 2, .inl kt) := Kp.at kc_87 i_5 (by decide) k_13
      have k_88 : f_84 h0 = .inr (12, [.int (0 : Int32), .int (-2 : Int32), .ref (gr g h0 2), .ref (gr g h0 3), .ref (gr g h0 4), .ref (gr g h0 5), .ref (gr g h0 6), .ref (gr g h0 7), .ref (gr g h0 8), .ref (gr g h0 9), .int z10, .ref (gr g h0 11), .int z12, .int z13, .int z14, .int z15, .long z16, .int z17, .int z18, .ref (gr g h0 19), .ref (gr g h0 20), .ref (gr g h0 21), .ref (gr g h0 22), .int z23, .long z24, .long z25, .long z26]) := k_88
      have kp_93 := Kp.call kp_8 kc_87 (by decide)
      generalize H1 = H at hI hS ⊢
      refine W.widen (k := 0) (n := 0) (Nat.le_of_ble_eq_true rfl) (Nat.le_of_ble_eq_true rfl) ?_
      have w_85 : r_86.toInt = (-2 : Int32).toInt := w_85
      have g_94 : Int32.toInt ((-2)) = (-2) := by decide
      exact W.iret (v := r_86) hx hb hr (fun t ht hW => ⟨⟨r_86, (), rfl, trivial, ⟨f_84, k_ret ht hI, kp_93, (0 : Int32), (-2 : Int32), z10, z12, z13, z14, z15, z16, z17, z18, z23, z24, z25, z26, q, u, im, kt, k_88, (by first | omega | decide), (by first | omega | decide), (by first | omega | decide), k_89, hc1_ok, k_90, k_91, k_92, hU⟩⟩, hS.F ht⟩) hS.2.2 dX12_slice_37
  · have c_21 := kc_eq rfl (by decide : Int32.toInt 0 = 0) c_21
    refine lv_aload_n hx hb dX12_slice_17 rfl (lv_at hl 0 rfl) ?_
    refine lv_iconst (v := (-1)) hx hb dX12_slice_18 (by decide) ?_
    refine va_calli (va_runV (As := [.int (-1)]) (rest := []) ⟨hx, hb, hml, hown, hts⟩ (c_X12_refuse l dC dI g A hG f_6 h0 (-1) 0 z1 z10 z12 z13 z14 z15 z16 z17 z18 z23 z24 z25 z26 i_h0 k_9 (by first | omega | (simp only [k_c0]; omega)) (by first | omega | (simp only [k_c0]; omega)) (by first | omega | (simp only [k_c0]; omega)) (by first | omega | decide | (simp only [show Int32.toInt (-1) = (-1) from by decide] <;> omega))) (cwV 1 hts (gi_V (fun w_ h0_ => ⟨List.mem_cons_of_mem _ (List.mem_append_right _ (List.mem_append_right _ (List.mem_append_right _ (List.mem_append_right _ (List.mem_append_right _ (List.mem_append_right _ (List.mem_append_right _ (List.mem_append_right _ (List.mem_append_left _ h0_))))))))), (tb_c_X12_refuse w_ h0_).2⟩) (List.mem_cons_of_mem _ (List.mem_append_left _ (List.mem_of_getElem? (i := 20) rfl))) (List.mem_cons_of_mem _ (List.mem_append_left _ (List.mem_of_getElem? (i := 21) rfl))) (List.mem_cons_of_mem _ (List.mem_append_left _ (List.mem_of_getElem? (i := 22) rfl))) (List.mem_cons_of_mem _ (List.mem_append_left _ (List.mem_of_getElem? (i := 4) rfl)))) rfl rfl rfl (by decide +kernel) ⟨Nat.le_of_ble_eq_true rfl, Nat.le_of_ble_eq_true rfl⟩) ⟨fun a U g mk q => ⟨q.1, q.2.calling rfl rfl⟩, k_recv hK hI i_h0.1 k_9 (ci := 12) rfl, fun U hU hW => ⟨rfl, kIn.of hI hK hE hS hU hW⟩⟩ rfl rfl hl.1 rfl (lv_room (Nat.le_of_ble_eq_true rfl)) dX12_slice_19 ⟨Nat.le_of_ble_eq_true rfl, Nat.le_of_ble_eq_true rfl⟩) hS (fun q _ h => h) (fun q h => h) (fun r_97 u9 t H1 locs ht hvm w_96 hB hz1 hk1 hS => ?_)
    obtain ⟨f_95, hI, kc_98, k_99⟩ := hB
    rw [ht] at hI
    have k_100 : f_95 (gr g h0 4) = .inl (gc g 1, 906, .inr (.inl q)) := Kp.at kc_98 i_1 (by decide) k_10
    have k_101 : f_95 (gr g h0 5) = .inl (gc g 1, 9060, .inr (.inl u)) := Kp.at kc_98 i_3 (by decide) k_11
    have k_102 : f_95 (gr g h0 7) = .inl (gc g 1, 1812, .inr (.inl im)) := Kp.at kc_98 i_4 (by decide) k_12
    have k_103 : f_95 (gr g h0 8) = .inl (gc g 3, 2, .inl kt) := Kp.at kc_98 i_5 (by decide) k_13
    have k_99 : f_95 h0 = .inr (12, [.int (0 : Int32), .int (-1 : Int32), .ref (gr g h0 2), .ref (gr g h0 3), .ref (gr g h0 4), .ref (gr g h0 5), .ref (gr g h0 6), .ref (gr g h0 7), .ref (gr g h0 8), .ref (gr g h0 9), .int z10, .ref (gr g h0 11), .int z12, .int z13, .int z14, .int z15, .long z16, .int z17, .int z18, .ref (gr g h0 19), .ref (gr g h0 20), .ref (gr g h0 21), .ref (gr g h0 22), .int z23, .long z24, .long z25, .long z26]) := k_99
    have kp_104 := Kp.call kp_8 kc_98 (by decide)
    generalize H1 = H at hI hS ⊢
    refine W.widen (k := 0) (n := 0) (Nat.le_of_ble_eq_true rfl) (Nat.le_of_ble_eq_true rfl) ?_
    have w_96 : r_97.toInt = (-1 : Int32).toInt := w_96
    have g_105 : Int32.toInt ((-1)) = (-1) := by decide
    exact W.iret (v := r_97) hx hb hr (fun t ht hW => ⟨⟨r_97, (), rfl, trivial, ⟨f_95, k_ret ht hI, kp_104, (0 : Int32), (-1 : Int32), z10, z12, z13, z14, z15, z16, z17, z18, z23, z24, z25, z26, q, u, im, kt, k_99, (by first | omega | decide), (by first | omega | decide), (by first | omega | decide), k_100, hc1_ok, k_101, k_102, k_103, hU⟩⟩, hS.F ht⟩) hS.2.2 dX12_slice_22
