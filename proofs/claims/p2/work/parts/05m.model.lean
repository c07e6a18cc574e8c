theorem tw_980 : q_g (.selects RX12 yX12_shareAt yX12_shareAt) := ⟨(List.mem_append_left _ (List.mem_of_getElem? (i := 61) (by decide +kernel))), good_of_word (by decide +kernel)⟩
theorem tw_981 : q_g (.instanceMethod yX12_shareAt) := ⟨(List.mem_append_right _ (List.mem_of_getElem? (i := 1493) (by decide +kernel))), good_of_word (by decide +kernel)⟩
theorem tw_982 : q_g (.methodLink RX12 306 yX12_shareAt) := ⟨(List.mem_append_right _ (List.mem_of_getElem? (i := 1491) (by decide +kernel))), good_of_word (by decide +kernel)⟩
theorem tw_983 : q_g (.code yX12_share cX12_share 8 (some .long)) := ⟨(List.mem_append_right _ (List.mem_of_getElem? (i := 1490) (by decide +kernel))), good_of_word (by decide +kernel)⟩
def ow_c_X12_share : List Cond := [.fieldLink RX12 67 "DeadlineShareModel" "thrown" "I", .methodLink RX12 142 yX12_isTask, .instanceMethod yX12_isTask, .selects RX12 yX12_isTask yX12_isTask, .initialized RX12, .constantLong RX12 291 (-9223372036854775808), .methodLink RX12 300 yX12_areKept, .instanceMethod yX12_areKept, .selects RX12 yX12_areKept yX12_areKept, .methodLink RX12 296 yX12_logAt, .instanceMethod yX12_logAt, .selects RX12 yX12_logAt yX12_logAt, .methodLink RX12 306 yX12_shareAt, .instanceMethod yX12_shareAt, .selects RX12 yX12_shareAt yX12_shareAt]
def wq_c_X12_share : List Cond := .code yX12_share cX12_share 8 (some .long) :: (ow_c_X12_share ++ (u_ws RX12 TX12 27 ++ (wq_c_X12_isTask ++ (wq_c_X12_areKept ++ (wq_c_X12_logAt ++ (wq_c_X12_shareAt ++ ([] : List Cond)))))))
theorem tb_c_X12_share : ∀ w ∈ wq_c_X12_share, q_g w := by
  unfold wq_c_X12_share ow_c_X12_share
  exact q_cons tw_983 (q_app (q_cons tw_927 (q_cons tw_951 (q_cons tw_950 (q_cons tw_949 (q_cons tw_728 (q_cons tw_953 (q_cons tw_978 (q_cons tw_977 (q_cons tw_976 (q_cons tw_913 (q_cons tw_912 (q_cons tw_911 (q_cons tw_982 (q_cons tw_981 (q_cons tw_980 q_nil))))))))))))))) (q_app tu_X12 (q_app tb_c_X12_isTask (q_app tb_c_X12_areKept (q_app tb_c_X12_logAt (q_app tb_c_X12_shareAt q_nil))))))
set_option maxHeartbeats 4000000 in
set_option maxRecDepth 100000 in
theorem c_X12_share (l : Launch) (dC : Nat → ClassId) (dI : Nat → Nat → Nat) (g : kG) (A : Nat → Prop) (hG : kWf g) (f : Nat → va_E) (h0 : Nat) (p1 : Int32) (p2 : Int32) (p3 : Int32) (z0 : Int32) (z1 : Int32) (z10 : Int32) (z12 : Int32) (z13 : Int32) (z14 : Int32) (z15 : Int32) (z16 : Int64) (z17 : Int32) (z18 : Int32) (z23 : Int32) (z24 : Int64) (z25 : Int64) (z26 : Int64) (q : Nat → Int64) (u : Nat → Int64) (im : Nat → Int64) (kt : Nat → Int32) (i_h0 : ik g 12 h0) (hc0 : f h0 = .inr (12, [.int z0, .int z1, .ref (gr g h0 2), .ref (gr g h0 3), .ref (gr g h0 4), .ref (gr g h0 5), .ref (gr g h0 6), .ref (gr g h0 7), .ref (gr g h0 8), .ref (gr g h0 9), .int z10, .ref (gr g h0 11), .int z12, .int z13, .int z14, .int z15, .long z16, .int z17, .int z18, .ref (gr g h0 19), .ref (gr g h0 20), .ref (gr g h0 21), .ref (gr g h0 22), .int z23, .long z24, .long z25, .long z26])) (hc0_10 : 0 ≤ z10.toInt ∧ z10.toInt ≤ 10) (hc0_12 : 0 ≤ z12.toInt ∧ z12.toInt ≤ 200) (hc0_23 : 0 ≤ z23.toInt ∧ z23.toInt ≤ 8) (hc1 : f (gr g h0 4) = .inl (gc g 1, 906, .inr (.inl q))) (hc1_ok : RowOK q) (hc2 : f (gr g h0 5) = .inl (gc g 1, 9060, .inr (.inl u))) (hc3 : f (gr g h0 7) = .inl (gc g 1, 1812, .inr (.inl im))) (hc4 : f (gr g h0 8) = .inl (gc g 3, 2, .inl kt)) (hU : UIq z10 u im kt) : Met l yX12_share wq_c_X12_share ({ frames := 3, cells := 0, slots := 0, locals := 71 } : Room) (va_Pc [.ref h0, .int p1, .int p2, .int p3] (fun U => kIn dC dI g A f U)) (va_Ql (fun (r : Int64) (_ : Unit) => True) (fun (_ : Unit) t => ∃ f1 : Nat → va_E, Iv dC dI g A f1 t.heap ∧ Kp g [12] f f1 ∧ ∃ (w0 : Int32) (w1 : Int32) (w10 : Int32) (w12 : Int32) (w13 : Int32) (w14 : Int32) (w15 : Int32) (w16 : Int64) (w17 : Int32) (w18 : Int32) (w23 : Int32) (w24 : Int64) (w25 : Int64) (w26 : Int64) (q1 : Nat → Int64) (u1 : Nat → Int64) (im1 : Nat → Int64) (ik1 : Nat → Int32), (f1 h0 = .inr (12, [.int w0, .int w1, .ref (gr g h0 2), .ref (gr g h0 3), .ref (gr g h0 4), .ref (gr g h0 5), .ref (gr g h0 6), .ref (gr g h0 7), .ref (gr g h0 8), .ref (gr g h0 9), .int w10, .ref (gr g h0 11), .int w12, .int w13, .int w14, .int w15, .long w16, .int w17, .int w18, .ref (gr g h0 19), .ref (gr g h0 20), .ref (gr g h0 21), .ref (gr g h0 22), .int w23, .long w24, .long w25, .long w26])) ∧ (0 ≤ w10.toInt ∧ w10.toInt ≤ 10) ∧ (0 ≤ w12.toInt ∧ w12.toInt ≤ 200) ∧ (0 ≤ w23.toInt ∧ w23.toInt ≤ 8) ∧ (f1 (gr g h0 4) = .inl (gc g 1, 906, .inr (.inl q1))) ∧ (RowOK q1) ∧ (f1 (gr g h0 5) = .inl (gc g 1, 9060, .inr (.inl u1))) ∧ (f1 (gr g h0 7) = .inl (gc g 1, 1812, .inr (.inl im1))) ∧ (f1 (gr g h0 8) = .inl (gc g 3, 2, .inl ik1)) ∧ (UIq w10 u1 im1 ik1)) A) 0 0 A := by
  refine Met.ofW (cc := cX12_share) (maxL := 8) (ret := (some .long)) (by decide) rfl ?_
  intro p e s m args below meth c s₁ B hml hv
  obtain ⟨rfl, hI, hK, hE⟩ := hv
  have hx := B.exec
  have hb := B.bytes
  have hr := B.returns
  have hts := atoms_spec (ws := wq_c_X12_share) B.pre
  have hown : s.vm.findClass RX12 = some m.cls := findClass_of_methodNamed B.named
  have hlocks := B.notSynchronized
  have hS : va_S A s.heap s.heap [] := va_S.rf
  have hk0 : Kp g [12] f f := Kp.rf
  have hl := lv_entry ([.ref h0, .int p1, .int p2, .int p3]) (n := 8) (Nat.le_of_ble_eq_true rfl)
  rw [lg_entry_eq]
  generalize (lg_sl ([.ref h0, .int p1, .int p2, .int p3]) ++ List.replicate (8 - (lg_sl ([.ref h0, .int p1, .int p2, .int p3])).length) Slot.unset).toArray = ls at hl ⊢
  have hl : lv_has ls 8 [(0, .ref h0), (1, .int p1), (2, .int p2), (3, .int p3)] := hl
  have i_1 := kw_12_4 hG i_h0
  have d_2 := rk_hd hc1_ok
  have i_3 := kw_12_5 hG i_h0
  have i_4 := kw_12_7 hG i_h0
  have i_5 := kw_12_8 hG i_h0
  refine lv_aload_n hx hb dX12_share_0 rfl (lv_at hl 0 rfl) ?_
  refine lv_iconst (v := 0) hx hb dX12_share_1 (by decide) ?_
  refine k_put (ci := 12) (v := .int 0) (ty := .int) (C := RX12) (T := TX12) (N := 27) hx hb hts (fun _ h0_ => List.mem_cons_of_mem _ (List.mem_append_right _ (List.mem_append_left _ h0_))) tyX12 tyX12_ok nmX12 hown hK hI hS i_h0.1 hc0 rfl 0 (by decide) (hts (.fieldLink RX12 67 "DeadlineShareModel" "thrown" "I") (List.mem_cons_of_mem _ (List.mem_append_left _ (List.mem_of_getElem? (i := 0) rfl)))) (fun _ h9 => h9) rfl (by decide +kernel) rfl rfl (Nat.le_of_ble_eq_true rfl) rfl (cl_12 i_h0 (by omega) (by omega) (by omega)) dX12_share_2 (fun f_6 H locs e_7 hI hS => ?_)
  have k_9 : f_6 h0 = .inr (12, [.int 0, .int z1, .ref (gr g h0 2), .ref (gr g h0 3), .ref (gr g h0 4), .ref (gr g h0 5), .ref (gr g h0 6), .ref (gr g h0 7), .ref (gr g h0 8), .ref (gr g h0 9), .int z10, .ref (gr g h0 11), .int z12, .int z13, .int z14, .int z15, .long z16, .int z17, .int z18, .ref (gr g h0 19), .ref (gr g h0 20), .ref (gr g h0 21), .ref (gr g h0 22), .int z23, .long z24, .long z25, .long z26]) := by rw [e_7]; exact va_up_self _ _ _
  have k_10 : f_6 (gr g h0 4) = .inl (gc g 1, 906, .inr (.inl q)) := by rw [e_7, va_up_ne _ _ (ik_ne i_1 i_h0 (by decide))]; exact hc1
  have k_11 : f_6 (gr g h0 5) = .inl (gc g 1, 9060, .inr (.inl u)) := by rw [e_7, va_up_ne _ _ (ik_ne i_3 i_h0 (by decide))]; exact hc2
  have k_12 : f_6 (gr g h0 7) = .inl (gc g 1, 1812, .inr (.inl im)) := by rw [e_7, va_up_ne _ _ (ik_ne i_4 i_h0 (by decide))]; exact hc3
  have k_13 : f_6 (gr g h0 8) = .inl (gc g 3, 2, .inl kt) := by rw [e_7, va_up_ne _ _ (ik_ne i_5 i_h0 (by decide))]; exact hc4
  have kp_8 := Kp.put hk0 i_h0 (by decide) e_7
  refine lv_aload_n hx hb dX12_share_5 rfl (lv_at hl 0 rfl) ?_
  refine lv_iload_n hx hb dX12_share_6 rfl (lv_at hl 1 rfl) ?_
  refine va_calli (va_runV (As := [.int p1]) (rest := []) ⟨hx, hb, hml, hown, hts⟩ (c_X12_isTask l dC dI g A hG f_6 h0 p1 q i_h0 k_10 hc1_ok) (cwV 1 hts (gi_V (fun w_ h0_ => ⟨List.mem_cons_of_mem _ (List.mem_append_right _ (List.mem_append_right _ (List.mem_append_left _ h0_))), (tb_c_X12_isTask w_ h0_).2⟩) (List.mem_cons_of_mem _ (List.mem_append_left _ (List.mem_of_getElem? (i := 1) rfl))) (List.mem_cons_of_mem _ (List.mem_append_left _ (List.mem_of_getElem? (i := 2) rfl))) (List.mem_cons_of_mem _ (List.mem_append_left _ (List.mem_of_getElem? (i := 3) rfl))) (List.mem_cons_of_mem _ (List.mem_append_left _ (List.mem_of_getElem? (i := 4) rfl)))) rfl rfl rfl (by decide +kernel) ⟨Nat.le_of_ble_eq_true rfl, Nat.le_of_ble_eq_true rfl⟩) ⟨fun a U g mk q => ⟨q.1, q.2.calling rfl rfl⟩, k_recv hK hI i_h0.1 k_9 (ci := 12) rfl, fun U hU hW => ⟨rfl, kIn.of hI hK hE hS hU hW⟩⟩ rfl rfl hl.1 rfl (lv_room (Nat.le_of_ble_eq_true rfl)) dX12_share_7 ⟨Nat.le_of_ble_eq_true rfl, Nat.le_of_ble_eq_true rfl⟩) hS (fun q _ h => h) (fun q h => h) (fun r_15 u9 t H1 locs ht hvm w_14 hB hz1 hk1 hS => ?_)
  have hI : Iv dC dI g A f_6 t.heap := hB
  rw [ht] at hI
  generalize H1 = H at hI hS ⊢
  refine W.widen (k := 0) (n := 0) (Nat.le_of_ble_eq_true rfl) (Nat.le_of_ble_eq_true rfl) ?_
  have w_14 : (r_15.toInt = 0 ∨ r_15.toInt = 1) ∧ (r_15.toInt = 0 ∨ (0 ≤ p1.toInt ∧ p1.toInt < (q 0).toInt)) := w_14
  refine lv_if_eq (tgt := 22) hx hb dX12_share_10 (by decide) (fun c_16 => ?_) (fun c_16 => ?_)
  · have c_16 := kc_eq rfl (by decide : Int32.toInt 0 = 0) c_16
    refine lv_ldc2 hx hb hown (hts (.constantLong RX12 291 (-9223372036854775808)) (List.mem_cons_of_mem _ (List.mem_append_left _ (List.mem_of_getElem? (i := 5) rfl)))) dX12_share_22 ?_
    exact W.lret (v := (-9223372036854775808)) hx hb hr (fun t ht hW => ⟨⟨(-9223372036854775808), (), rfl, trivial, ⟨f_6, k_ret ht hI, kp_8, 0, z1, z10, z12, z13, z14, z15, z16, z17, z18, z23, z24, z25, z26, q, u, im, kt, k_9, (by first | omega | decide), (by first | omega | decide), (by first | omega | decide), k_10, hc1_ok, k_11, k_12, k_13, hU⟩⟩, hS.F ht⟩) hS.2.2 dX12_share_25
  · have c_16 := kn_eq rfl (by decide : Int32.toInt 0 = 0) c_16
    refine lv_aload_n hx hb dX12_share_13 rfl (lv_at hl 0 rfl) ?_
    refine lv_iload_n hx hb dX12_share_14 rfl (lv_at hl 2 rfl) ?_
    refine lv_iload_n hx hb dX12_share_15 rfl (lv_at hl 3 rfl) ?_
    refine va_calli (va_runV (As := [.int p2, .int p3]) (rest := []) ⟨hx, hb, hml, hown, hts⟩ (c_X12_areKept l dC dI g A hG f_6 h0 p2 p3 q i_h0 k_10 hc1_ok) (cwV 2 hts (gi_V (fun w_ h0_ => ⟨List.mem_cons_of_mem _ (List.mem_append_right _ (List.mem_append_right _ (List.mem_append_right _ (List.mem_append_left _ h0_)))), (tb_c_X12_areKept w_ h0_).2⟩) (List.mem_cons_of_mem _ (List.mem_append_left _ (List.mem_of_getElem? (i := 6) rfl))) (List.mem_cons_of_mem _ (List.mem_append_left _ (List.mem_of_getElem? (i := 7) rfl))) (List.mem_cons_of_mem _ (List.mem_append_left _ (List.mem_of_getElem? (i := 8) rfl))) (List.mem_cons_of_mem _ (List.mem_append_left _ (List.mem_of_getElem? (i := 4) rfl)))) rfl rfl rfl (by decide +kernel) ⟨Nat.le_of_ble_eq_true rfl, Nat.le_of_ble_eq_true rfl⟩) ⟨fun a U g mk q => ⟨q.1, q.2.calling rfl rfl⟩, k_recv hK hI i_h0.1 k_9 (ci := 12) rfl, fun U hU hW => ⟨rfl, kIn.of hI hK hE hS hU hW⟩⟩ rfl rfl hl.1 rfl (lv_room (Nat.le_of_ble_eq_true rfl)) dX12_share_16 ⟨Nat.le_of_ble_eq_true rfl, Nat.le_of_ble_eq_true rfl⟩) hS (fun q _ h => h) (fun q h => h) (fun r_18 u9 t H1 locs ht hvm w_17 hB hz1 hk1 hS => ?_)
    have hI : Iv dC dI g A f_6 t.heap := hB
    rw [ht] at hI
    generalize H1 = H at hI hS ⊢
    refine W.widen (k := 0) (n := 0) (Nat.le_of_ble_eq_true rfl) (Nat.le_of_ble_eq_true rfl) ?_
    have w_17 : r_18.toInt = 0 ∨ p2.toInt = p3.toInt ∨ (p2.toInt < p3.toInt ∧ (q 1).toInt - (q 5).toInt ≤ p2.toInt ∧ p3.toInt ≤ (q 1).toInt) := w_17
    refine lv_if_ne (tgt := 26) hx hb dX12_share_19 (by decide) (fun c_19 => ?_) (fun c_19 => ?_)
    · have c_19 := kn_eq rfl (by decide : Int32.toInt 0 = 0) c_19
      refine lv_lconst (v := 0) hx hb dX12_share_26 (by decide) ?_
      refine lv_lstore (lv' := [(4, .long 0), (0, .ref h0), (1, .int p1), (2, .int p2), (3, .int p3)]) hx hb dX12_share_27 hl (by decide) rfl (fun ls hl => ?_)
      refine lv_iload_n hx hb dX12_share_29 rfl (lv_at hl 3 rfl) ?_
      refine lv_i2l (v := p2.toInt64) hx hb dX12_share_30 rfl ?_
      have t_20 := Int32.toInt_toInt64 p2
      have g_21 := Int32.toInt_lt p2
      have g_22 := Int32.le_toInt p2
      refine lv_lstore (lv' := [(6, .long p2.toInt64), (4, .long 0), (0, .ref h0), (1, .int p1), (2, .int p2), (3, .int p3)]) hx hb dX12_share_31 hl (by decide) rfl (fun ls hl => ?_)
      have K_33 : ∀ (nn : Nat) (y_23 : Int64) (y_24 : Int64) (H : Heap) (locs : List Loc) (ls : Array Slot), (p3.toInt - y_23.toInt).toNat < nn → Iv dC dI g A f_6 H → va_S A s.heap H locs → (p2.toInt ≤ y_23.toInt) → lv_has ls 8 [(6, .long y_23), (4, .long y_24), (0, .ref h0), (1, .int p1), (2, .int p2), (3, .int p3)] → W p l e (headSpec wq_c_X12_share ({ frames := 3, cells := 0, slots := 0, locals := 71 } : Room)).room s m ([.ref h0, .int p1, .int p2, .int p3].toArray) below meth c H locs 0 0 (MQ below (va_Ql (fun (r : Int64) (_ : Unit) => True) (fun (_ : Unit) t => ∃ f1 : Nat → va_E, Iv dC dI g A f1 t.heap ∧ Kp g [12] f f1 ∧ ∃ (w0 : Int32) (w1 : Int32) (w10 : Int32) (w12 : Int32) (w13 : Int32) (w14 : Int32) (w15 : Int32) (w16 : Int64) (w17 : Int32) (w18 : Int32) (w23 : Int32) (w24 : Int64) (w25 : Int64) (w26 : Int64) (q1 : Nat → Int64) (u1 : Nat → Int64) (im1 : Nat → Int64) (ik1 : Nat → Int32), (f1 h0 = .inr (12, [.int w0, .int w1, .ref (gr g h0 2), .ref (gr g h0 3), .ref (gr g h0 4), .ref (gr g h0 5), .ref (gr g h0 6), .ref (gr g h0 7), .ref (gr g h0 8), .ref (gr g h0 9), .int w10, .ref (gr g h0 11), .int w12, .int w13, .int w14, .int w15, .long w16, .int w17, .int w18, .ref (gr g h0 19), .ref (gr g h0 20), .ref (gr g h0 21), .ref (gr g h0 22), .int w23, .long w24, .long w25, .long w26])) ∧ (0 ≤ w10.toInt ∧ w10.toInt ≤ 10) ∧ (0 ≤ w12.toInt ∧ w12.toInt ≤ 200) ∧ (0 ≤ w23.toInt ∧ w23.toInt ≤ 8) ∧ (f1 (gr g h0 4) = .inl (gc g 1, 906, .inr (.inl q1))) ∧ (RowOK q1) ∧ (f1 (gr g h0 5) = .inl (gc g 1, 9060, .inr (.inl u1))) ∧ (f1 (gr g h0 7) = .inl (gc g 1, 1812, .inr (.inl im1))) ∧ (f1 (gr g h0 8) = .inl (gc g 3, 2, .inl ik1)) ∧ (UIq w10 u1 im1 ik1)) A) ([.ref h0, .int p1, .int p2, .int p3].toArray) s 0 0 A) (F0 m 33 ls []) := by
        intro nn
        induction nn with
        | zero => intro y_23 y_24 H locs ls m_26; exact absurd m_26 (Nat.not_lt_zero _)
        | succ nn ih =>
          intro y_23 y_24 H locs ls m_26 hI hS t_25 hl
          have g_27 := Int32.toInt_lt p3
          have g_28 := Int32.le_toInt p3
          have g_29 := Int64.toInt_lt y_23
          refine lv_lload hx hb dX12_share_33 (lv_at hl 0 rfl) ?_
          refine lv_iload_n hx hb dX12_share_35 rfl (lv_at hl 5 rfl) ?_
          refine lv_i2l (v := p3.toInt64) hx hb dX12_share_36 rfl ?_
          have t_30 := Int32.toInt_toInt64 p3
          have g_31 := Int32.toInt_lt p3
          have g_32 := Int32.le_toInt p3
          refine W.lcmp hx hb dX12_share_37 ?_
          refine lv_if_ge (tgt := 66) hx hb dX12_share_38 (by decide) (fun c_33 => ?_) (fun c_33 => ?_)
          · have c_33 := lc_le rfl rfl ((lg_cmp_ge _ _).mp c_33)
            refine lv_lload hx hb dX12_share_66 (lv_at hl 1 rfl) ?_
            exact W.lret (v := y_24) hx hb hr (fun t ht hW => ⟨⟨y_24, (), rfl, trivial, ⟨f_6, k_ret ht hI, kp_8, 0, z1, z10, z12, z13, z14, z15, z16, z17, z18, z23, z24, z25, z26, q, u, im, kt, k_9, (by first | omega | decide), (by first | omega | decide), (by first | omega | decide), k_10, hc1_ok, k_11, k_12, k_13, hU⟩⟩, hS.F ht⟩) hS.2.2 dX12_share_68
          · have c_33 := ln_le rfl rfl (fun h9 => c_33 ((lg_cmp_ge _ _).mpr h9))
            refine lv_lload hx hb dX12_share_41 (lv_at hl 1 rfl) ?_
            refine lv_aload_n hx hb dX12_share_43 rfl (lv_at hl 2 rfl) ?_
            refine lv_iload_n hx hb dX12_share_44 rfl (lv_at hl 3 rfl) ?_
            refine lv_aload_n hx hb dX12_share_45 rfl (lv_at hl 2 rfl) ?_
            refine lv_lload hx hb dX12_share_46 (lv_at hl 0 rfl) ?_
            refine va_calli (va_runV (As := [.long y_23]) (rest := [.int p1, .ref h0, .long y_24]) ⟨hx, hb, hml, hown, hts⟩ (c_X12_logAt l dC dI g A hG f_6 h0 y_23 q i_h0 k_10 hc1_ok) (cwV 1 hts (gi_V (fun w_ h0_ => ⟨List.mem_cons_of_mem _ (List.mem_append_right _ (List.mem_append_right _ (List.mem_append_right _ (List.mem_append_right _ (List.mem_append_left _ h0_))))), (tb_c_X12_logAt w_ h0_).2⟩) (List.mem_cons_of_mem _ (List.mem_append_left _ (List.mem_of_getElem? (i := 9) rfl))) (List.mem_cons_of_mem _ (List.mem_append_left _ (List.mem_of_getElem? (i := 10) rfl))) (List.mem_cons_of_mem _ (List.mem_append_left _ (List.mem_of_getElem? (i := 11) rfl))) (List.mem_cons_of_mem _ (List.mem_append_left _ (List.mem_of_getElem? (i := 4) rfl)))) rfl rfl rfl (by decide +kernel) ⟨Nat.le_of_ble_eq_true rfl, Nat.le_of_ble_eq_true rfl⟩) ⟨fun a U g mk q => ⟨q.1, q.2.calling rfl rfl⟩, k_recv hK hI i_h0.1 k_9 (ci := 12) rfl, fun U hU hW => ⟨rfl, kIn.of hI hK hE hS hU hW⟩⟩ rfl rfl hl.1 rfl (lv_room (Nat.le_of_ble_eq_true rfl)) dX12_share_48 ⟨Nat.le_of_ble_eq_true rfl, Nat.le_of_ble_eq_true rfl⟩) hS (fun q _ h => h) (fun q h => h) (fun r_35 u9 t H1 locs ht hvm w_34 hB hz1 hk1 hS => ?_)
            have hI : Iv dC dI g A f_6 t.heap := hB
            rw [ht] at hI
            generalize H1 = H at hI hS ⊢
            refine W.widen (k := 0) (n := 0) (Nat.le_of_ble_eq_true rfl) (Nat.le_of_ble_eq_true rfl) ?_
            have w_34 : LAp q y_23.toInt r_35 := w_34
            obtain ⟨m_36, em_36, tm_36⟩ := la_get w_34 (by omega) (by omega)
            refine k_topi (y := nI (522 + 3 * m_36)) em_36 ?_
            refine va_calll (va_runV (As := [.int p1, .int (nI (522 + 3 * m_36))]) (rest := [.long y_24]) ⟨hx, hb, hml, hown, hts⟩ (c_X12_shareAt l dC dI g A hG f_6 h0 p1 (522 + 3 * m_36) q i_h0 k_10 hc1_ok ⟨m_36, rfl, tm_36⟩) (cwV 2 hts (gi_V (fun w_ h0_ => ⟨List.mem_cons_of_mem _ (List.mem_append_right _ (List.mem_append_right _ (List.mem_append_right _ (List.mem_append_right _ (List.mem_append_right _ (List.mem_append_left _ h0_)))))), (tb_c_X12_shareAt w_ h0_).2⟩) (List.mem_cons_of_mem _ (List.mem_append_left _ (List.mem_of_getElem? (i := 12) rfl))) (List.mem_cons_of_mem _ (List.mem_append_left _ (List.mem_of_getElem? (i := 13) rfl))) (List.mem_cons_of_mem _ (List.mem_append_left _ (List.mem_of_getElem? (i := 14) rfl))) (List.mem_cons_of_mem _ (List.mem_append_left _ (List.mem_of_getElem? (i := 4) rfl)))) rfl rfl rfl (by decide +kernel) ⟨Nat.le_of_ble_eq_true rfl, Nat.le_of_ble_eq_true rfl⟩) ⟨fun a U g mk q => ⟨q.1, q.2.calling rfl rfl⟩, k_recv hK hI i_h0.1 k_9 (ci := 12) rfl, fun U hU hW => ⟨rfl, kIn.of hI hK hE hS hU hW⟩⟩ rfl rfl hl.1 rfl (lv_room (Nat.le_of_ble_eq_true rfl)) dX12_share_51 ⟨Nat.le_of_ble_eq_true rfl, Nat.le_of_ble_eq_true rfl⟩) hS (fun q _ h => h) (fun q h => h) (fun r_38 u9 t H1 locs ht hvm w_37 hB hz1 hk1 hS => ?_)
            have hI : Iv dC dI g A f_6 t.heap := hB
            rw [ht] at hI
            generalize H1 = H at hI hS ⊢
            refine W.widen (k := 0) (n := 0) (Nat.le_of_ble_eq_true rfl) (Nat.le_of_ble_eq_true rfl) ?_
            refine lv_ladd hx hb dX12_share_54 ?_
            refine lv_topl (fun v_39 ev_39 => ?_)
            have tv_39 := l_ad y_24 r_38
            rw [← ev_39] at tv_39
            refine lv_lstore (lv' := [(4, .long v_39), (6, .long y_23), (0, .ref h0), (1, .int p1), (2, .int p2), (3, .int p3)]) hx hb dX12_share_55 hl (by decide) rfl (fun ls hl => ?_)
            refine lv_lload hx hb dX12_share_57 (lv_at hl 1 rfl) ?_
            refine lv_lconst (v := 1) hx hb dX12_share_59 (by decide) ?_
            refine lv_ladd hx hb dX12_share_60 ?_
            refine lv_topl (fun v_40 ev_40 => ?_)
            have tv_40 := l_ad y_23 1
            rw [← ev_40, show Int64.toInt 1 = 1 from by decide] at tv_40
            refine lv_lstore (lv' := [(6, .long v_40), (4, .long v_39), (0, .ref h0), (1, .int p1), (2, .int p2), (3, .int p3)]) hx hb dX12_share_61 hl (by decide) rfl (fun ls hl => ?_)
            refine lv_goto (tgt := 33) hx hb dX12_share_63 (by decide) ?_
            exact ih v_40 v_39 _ _ _ (by omega) hI hS (by first | omega | decide | exact Or.inl (by decide)) (lv_sub hl [0, 1, 2, 3, 4, 5] rfl)
      exact K_33 _ p2.toInt64 0 _ _ _ (Nat.lt_succ_self _) hI hS (by first | omega | decide | exact Or.inl (by decide) | (simp only [show Int64.toInt 0 = 0 from by decide] <;> omega)) (lv_sub hl [0, 1, 2, 3, 4, 5] rfl)
    · have c_19 := kc_eq rfl (by decide : Int32.toInt 0 = 0) c_19
      refine lv_ldc2 hx hb hown (hts (.constantLong RX12 291 (-9223372036854775808)) (List.mem_cons_of_mem _ (List.mem_append_left _ (List.mem_of_getElem? (i := 5) rfl)))) dX12_share_22 ?_
      exact W.lret (v := (-9223372036854775808)) hx hb hr (fun t ht hW => ⟨⟨(-9223372036854775808), (), rfl, trivial, ⟨f_6, k_ret ht hI, kp_8, 0, z1, z10, z12, z13, z14, z15, z16, z17, z18, z23, z24, z25, z26, q, u, im, kt, k_9, (by first | omega | decide), (by first | omega | decide), (by first | omega | decide), k_10, hc1_ok, k_11, k_12, k_13, hU⟩⟩, hS.F ht⟩) hS.2.2 dX12_share_25
theorem tw_984 : q_g (.code yX12_worst cX12_worst 10 (some .long)) := ⟨(List.mem_append_right _ (List.mem_of_getElem? (i := 1499) (by decide +kernel))), good_of_word (by decide +kernel)⟩
def ow_c_X12_worst : List Cond := [.fieldLink RX12 67 "DeadlineShareModel" "thrown" "I", .methodLink RX12 142 yX12_isTask, .instanceMethod yX12_isTask, .selects RX12 yX12_isTask yX12_isTask, .initialized RX12, .constantLong RX12 291 (-9223372036854775808), .methodLink RX12 83 yX12_in, .static yX12_in, .fieldLink RX12 16 "DeadlineShareModel" "row" "[J", .methodLink RX12 306 yX12_shareAt, .instanceMethod yX12_shareAt, .selects RX12 yX12_shareAt yX12_shareAt, .constantLong RX12 108 (5354228880)]
def wq_c_X12_worst : List Cond := .code yX12_worst cX12_worst 10 (some .long) :: (ow_c_X12_worst ++ (u_ws RX12 TX12 27 ++ (wq_c_X12_isTask ++ (wq_c_X12_in ++ (wq_c_X12_shareAt ++ ([] : List Cond))))))
theorem tb_c_X12_worst : ∀ w ∈ wq_c_X12_worst, q_g w := by
  unfold wq_c_X12_worst ow_c_X12_worst
  exact q_cons tw_984 (q_app (q_cons tw_927 (q_cons tw_951 (q_cons tw_950 (q_cons tw_949 (q_cons tw_728 (q_cons tw_953 (q_cons tw_730 (q_cons tw_729 (q_cons tw_731 (q_cons tw_982 (q_cons tw_981 (q_cons tw_980 (q_cons tw_757 q_nil))))))))))))) (q_app tu_X12 (q_app tb_c_X12_isTask (q_app tb_c_X12_in (q_app tb_c_X12_shareAt q_nil)))))
set_option maxHeartbeats 4000000 in
set_option maxRecDepth 100000 in
theorem c_X12_worst (l : Launch) (dC : Nat → ClassId) (dI : Nat → Nat → Nat) (g : kG) (A : Nat → Prop) (hG : kWf g) (f : Nat → va_E) (h0 : Nat) (p1 : Int32) (p2 : Int32) (z0 : Int32) (z1 : Int32) (z10 : Int32) (z12 : Int32) (z13 : Int32) (z14 : Int32) (z15 : Int32) (z16 : Int64) (z17 : Int32) (z18 : Int32) (z23 : Int32) (z24 : Int64) (z25 : Int64) (z26 : Int64) (q : Nat → Int64) (u : Nat → Int64) (im : Nat → Int64) (kt : Nat → Int32) (i_h0 : ik g 12 h0) (hc0 : f h0 = .inr (12, [.int z0, .int z1, .ref (gr g h0 2), .ref (gr g h0 3), .ref (gr g h0 4), .ref (gr g h0 5), .ref (gr g h0 6), .ref (gr g h0 7), .ref (gr g h0 8), .ref (gr g h0 9), .int z10, .ref (gr g h0 11), .int z12, .int z13, .int z14, .int z15, .long z16, .int z17, .int z18, .ref (gr g h0 19), .ref (gr g h0 20), .ref (gr g h0 21), .ref (gr g h0 22), .int z23, .long z24, .long z25, .long z26])) (hc0_10 : 0 ≤ z10.toInt ∧ z10.toInt ≤ 10) (hc0_12 : 0 ≤ z12.toInt ∧ z12.toInt ≤ 200) (hc0_23 : 0 ≤ z23.toInt ∧ z23.toInt ≤ 8) (hc1 : f (gr g h0 4) = .inl (gc g 1, 906, .inr (.inl q))) (hc1_ok : RowOK q) (hc2 : f (gr g h0 5) = .inl (gc g 1, 9060, .inr (.inl u))) (hc3 : f (gr g h0 7) = .inl (gc g 1, 1812, .inr (.inl im))) (hc4 : f (gr g h0 8) = .inl (gc g 3, 2, .inl kt)) (hU : UIq z10 u im kt) : Met l yX12_worst wq_c_X12_worst ({ frames := 2, cells := 0, slots := 0, locals := 46 } : Room) (va_Pc [.ref h0, .int p1, .int p2] (fun U => kIn dC dI g A f U)) (va_Ql (fun (r : Int64) (_ : Unit) => True) (fun (_ : Unit) t => ∃ f1 : Nat → va_E, Iv dC dI g A f1 t.heap ∧ Kp g [12] f f1 ∧ ∃ (w0 : Int32) (w1 : Int32) (w10 : Int32) (w12 : Int32) (w13 : Int32) (w14 : Int32) (w15 : Int32) (w16 : Int64) (w17 : Int32) (w18 : Int32) (w23 : Int32) (w24 : Int64) (w25 : Int64) (w26 : Int64) (q1 : Nat → Int64) (u1 : Nat → Int64) (im1 : Nat → Int64) (ik1 : Nat → Int32), (f1 h0 = .inr (12, [.int w0, .int w1, .ref (gr g h0 2), .ref (gr g h0 3), .ref (gr g h0 4), .ref (gr g h0 5), .ref (gr g h0 6), .ref (gr g h0 7), .ref (gr g h0 8), .ref (gr g h0 9), .int w10, .ref (gr g h0 11), .int w12, .int w13, .int w14, .int w15, .long w16, .int w17, .int w18, .ref (gr g h0 19), .ref (gr g h0 20), .ref (gr g h0 21), .ref (gr g h0 22), .int w23, .long w24, .long w25, .long w26])) ∧ (0 ≤ w10.toInt ∧ w10.toInt ≤ 10) ∧ (0 ≤ w12.toInt ∧ w12.toInt ≤ 200) ∧ (0 ≤ w23.toInt ∧ w23.toInt ≤ 8) ∧ (f1 (gr g h0 4) = .inl (gc g 1, 906, .inr (.inl q1))) ∧ (RowOK q1) ∧ (f1 (gr g h0 5) = .inl (gc g 1, 9060, .inr (.inl u1))) ∧ (f1 (gr g h0 7) = .inl (gc g 1, 1812, .inr (.inl im1))) ∧ (f1 (gr g h0 8) = .inl (gc g 3, 2, .inl ik1)) ∧ (UIq w10 u1 im1 ik1)) A) 0 0 A := by
  refine Met.ofW (cc := cX12_worst) (maxL := 10) (ret := (some .long)) (by decide) rfl ?_
  intro p e s m args below meth c s₁ B hml hv
  obtain ⟨rfl, hI, hK, hE⟩ := hv
  have hx := B.exec
  have hb := B.bytes
  have hr := B.returns
  have hts := atoms_spec (ws := wq_c_X12_worst) B.pre
  have hown : s.vm.findClass RX12 = some m.cls := findClass_of_methodNamed B.named
  have hlocks := B.notSynchronized
  have hS : va_S A s.heap s.heap [] := va_S.rf
  have hk0 : Kp g [12] f f := Kp.rf
  have hl := lv_entry ([.ref h0, .int p1, .int p2]) (n := 10) (Nat.le_of_ble_eq_true rfl)
  rw [lg_entry_eq]
  generalize (lg_sl ([.ref h0, .int p1, .int p2]) ++ List.replicate (10 - (lg_sl ([.ref h0, .int p1, .int p2])).length) Slot.unset).toArray = ls at hl ⊢
  have hl : lv_has ls 10 [(0, .ref h0), (1, .int p1), (2, .int p2)] := hl
  have i_1 := kw_12_4 hG i_h0
  have d_2 := rk_hd hc1_ok
  have i_3 := kw_12_5 hG i_h0
  have i_4 := kw_12_7 hG i_h0
  have i_5 := kw_12_8 hG i_h0
  refine lv_aload_n hx hb dX12_worst_0 rfl (lv_at hl 0 rfl) ?_
  refine lv_iconst (v := 0) hx hb dX12_worst_1 (by decide) ?_
  refine k_put (ci := 12) (v := .int 0) (ty := .int) (C := RX12) (T := TX12) (N := 27) hx hb hts (fun _ h0_ => List.mem_cons_of_mem _ (List.mem_append_right _ (List.mem_append_left _ h0_))) tyX12 tyX12_ok nmX12 hown hK hI hS i_h0.1 hc0 rfl 0 (by decide) (hts (.fieldLink RX12 67 "DeadlineShareModel" "thrown" "I") (List.mem_cons_of_mem _ (List.mem_append_left _ (List.mem_of_getElem? (i := 0) rfl)))) (fun _ h9 => h9) rfl (by decide +kernel) rfl rfl (Nat.le_of_ble_eq_true rfl) rfl (cl_12 i_h0 (by omega) (by omega) (by omega)) dX12_worst_2 (fun f_6 H locs e_7 hI hS => ?_)
  have k_9 : f_6 h0 = .inr (12, [.int 0, .int z1, .ref (gr g h0 2), .ref (gr g h0 3), .ref (gr g h0 4), .ref (gr g h0 5), .ref (gr g h0 6), .ref (gr g h0 7), .ref (gr g h0 8), .ref (gr g h0 9), .int z10, .ref (gr g h0 11), .int z12, .int z13, .int z14, .int z15, .long z16, .int z17, .int z18, .ref (gr g h0 19), .ref (gr g h0 20), .ref (gr g h0 21), .ref (gr g h0 22), .int z23, .long z24, .long z25, .long z26]) := by rw [e_7]; exact va_up_self _ _ _
  have k_10 : f_6 (gr g h0 4) = .inl (gc g 1, 906, .inr (.inl q)) := by rw [e_7, va_up_ne _ _ (ik_ne i_1 i_h0 (by decide))]; exact hc1
  have k_11 : f_6 (gr g h0 5) = .inl (gc g 1, 9060, .inr (.inl u)) := by rw [e_7, va_up_ne _ _ (ik_ne i_3 i_h0 (by decide))]; exact hc2
  have k_12 : f_6 (gr g h0 7) = .inl (gc g 1, 1812, .inr (.inl im)) := by rw [e_7, va_up_ne _ _ (ik_ne i_4 i_h0 (by decide))]; exact hc3
  have k_13 : f_6 (gr g h0 8) = .inl (gc g 3, 2, .inl kt) := by rw [e_7, va_up_ne _ _ (ik_ne i_5 i_h0 (by decide))]; exact hc4
  have kp_8 := Kp.put hk0 i_h0 (by decide) e_7
  refine lv_aload_n hx hb dX12_worst_5 rfl (lv_at hl 0 rfl) ?_
  refine lv_iload_n hx hb dX12_worst_6 rfl (lv_at hl 1 rfl) ?_
  refine va_calli (va_runV (As := [.int p1]) (rest := []) ⟨hx, hb, hml, hown, hts⟩ (c_X12_isTask l dC dI g A hG f_6 h0 p1 q i_h0 k_10 hc1_ok) (cwV 1 hts (gi_V (fun w_ h0_ => ⟨List.mem_cons_of_mem _ (List.mem_append_right _ (List.mem_append_right _ (List.mem_append_left _ h0_))), (tb_c_X12_isTask w_ h0_).2⟩) (List.mem_cons_of_mem _ (List.mem_append_left _ (List.mem_of_getElem? (i := 1) rfl))) (List.mem_cons_of_mem _ (List.mem_append_left _ (List.mem_of_getElem? (i := 2) rfl))) (List.mem_cons_of_mem _ (List.mem_append_left _ (List.mem_of_getElem? (i := 3) rfl))) (List.mem_cons_of_mem _ (List.mem_append_left _ (List.mem_of_getElem? (i := 4) rfl)))) rfl rfl rfl (by decide +kernel) ⟨Nat.le_of_ble_eq_true rfl, Nat.le_of_ble_eq_true rfl⟩) ⟨fun a U g mk q => ⟨q.1, q.2.calling rfl rfl⟩, k_recv hK hI i_h0.1 k_9 (ci := 12) rfl, fun U hU hW => ⟨rfl, kIn.of hI hK hE hS hU hW⟩⟩ rfl rfl hl.1 rfl (lv_room (Nat.le_of_ble_eq_true rfl)) dX12_worst_7 ⟨Nat.le_of_ble_eq_true rfl, Nat.le_of_ble_eq_true rfl⟩) hS (fun q _ h => h) (fun q h => h) (fun r_15 u9 t H1 locs ht hvm w_14 hB hz1 hk1 hS => ?_)
  have hI : Iv dC dI g A f_6 t.heap := hB
  rw [ht] at hI
  generalize H1 = H at hI hS ⊢
  refine W.widen (k := 0) (n := 0) (Nat.le_of_ble_eq_true rfl) (Nat.le_of_ble_eq_true rfl) ?_
  have w_14 : (r_15.toInt = 0 ∨ r_15.toInt = 1) ∧ (r_15.toInt = 0 ∨ (0 ≤ p1.toInt ∧ p1.toInt < (q 0).toInt)) := w_14
  refine lv_if_eq (tgt := 23) hx hb dX12_worst_10 (by decide) (fun c_16 => ?_) (fun c_16 => ?_)
  · have c_16 := kc_eq rfl (by decide : Int32.toInt 0 = 0) c_16
    refine lv_ldc2 hx hb hown (hts (.constantLong RX12 291 (-9223372036854775808)) (List.mem_cons_of_mem _ (List.mem_append_left _ (List.mem_of_getElem? (i := 5) rfl)))) dX12_worst_23 ?_
    exact W.lret (v := (-9223372036854775808)) hx hb hr (fun t ht hW => ⟨⟨(-9223372036854775808), (), rfl, trivial, ⟨f_6, k_ret ht hI, kp_8, 0, z1, z10, z12, z13, z14, z15, z16, z17, z18, z23, z24, z25, z26, q, u, im, kt, k_9, (by first | omega | decide), (by first | omega | decide), (by first | omega | decide), k_10, hc1_ok, k_11, k_12, k_13, hU⟩⟩, hS.F ht⟩) hS.2.2 dX12_worst_26
  · have c_16 := kn_eq rfl (by decide : Int32.toInt 0 = 0) c_16
    refine lv_iload_n hx hb dX12_worst_13 rfl (lv_at hl 2 rfl) ?_
    refine lv_i2l (v := p2.toInt64) hx hb dX12_worst_14 rfl ?_
    have t_17 := Int32.toInt_toInt64 p2
    have g_18 := Int32.toInt_lt p2
    have g_19 := Int32.le_toInt p2
    refine lv_lconst (v := 0) hx hb dX12_worst_15 (by decide) ?_
    refine lv_lconst (v := 1) hx hb dX12_worst_16 (by decide) ?_
    refine va_calli (va_runS (As := [.long p2.toInt64, .long 0, .long 1]) (rest := []) ⟨hx, hb, hml, hown, hts⟩ (c_X12_in l dC dI g A hG f_6 p2.toInt64 0 1) (va_cwS 3 hts (gi_S (fun w_ h0_ => ⟨List.mem_cons_of_mem _ (List.mem_append_right _ (List.mem_append_right _ (List.mem_append_right _ (List.mem_append_left _ h0_)))), (tb_c_X12_in w_ h0_).2⟩) (List.mem_cons_of_mem _ (List.mem_append_left _ (List.mem_of_getElem? (i := 6) rfl))) (List.mem_cons_of_mem _ (List.mem_append_left _ (List.mem_of_getElem? (i := 7) rfl))) (List.mem_cons_of_mem _ (List.mem_append_left _ (List.mem_of_getElem? (i := 4) rfl)))) rfl rfl rfl (by decide +kernel) ⟨Nat.le_of_ble_eq_true rfl, Nat.le_of_ble_eq_true rfl⟩) ⟨fun a U g mk q => ⟨q.1, q.2.calling rfl rfl⟩, fun U hU hW => ⟨rfl, kIn.of hI hK hE hS hU hW⟩⟩ rfl rfl hl.1 rfl (lv_room (Nat.le_of_ble_eq_true rfl)) dX12_worst_17 ⟨Nat.le_of_ble_eq_true rfl, Nat.le_of_ble_eq_true rfl⟩) hS (fun q _ h => h) (fun q h => h) (fun r_21 u9 t H1 locs ht hvm w_20 hB hz1 hk1 hS => ?_)
    have hI : Iv dC dI g A f_6 t.heap := hB
    rw [ht] at hI
    generalize H1 = H at hI hS ⊢
    refine W.widen (k := 0) (n := 0) (Nat.le_of_ble_eq_true rfl) (Nat.le_of_ble_eq_true rfl) ?_
    have w_20 : (r_21.toInt = 0 ∧ (p2.toInt64.toInt < (0 : Int64).toInt ∨ (1 : Int64).toInt < p2.toInt64.toInt)) ∨ (r_21.toInt = 1 ∧ (0 : Int64).toInt ≤ p2.toInt64.toInt ∧ p2.toInt64.toInt ≤ (1 : Int64).toInt) := w_20
    have g_22 : Int64.toInt (0) = 0 := by decide
    have g_23 : Int64.toInt (1) = 1 := by decide
    refine lv_if_ne (tgt := 27) hx hb dX12_worst_20 (by decide) (fun c_24 => ?_) (fun c_24 => ?_)
    · have c_24 := kn_eq rfl (by decide : Int32.toInt 0 = 0) c_24
      refine lv_ldc2 hx hb hown (hts (.constantLong RX12 291 (-9223372036854775808)) (List.mem_cons_of_mem _ (List.mem_append_left _ (List.mem_of_getElem? (i := 5) rfl)))) dX12_worst_27 ?_
      refine lv_lstore_n (lv' := [(3, .long (-9223372036854775808)), (0, .ref h0), (1, .int p1), (2, .int p2)]) hx hb dX12_worst_30 rfl hl (by decide) rfl (fun ls hl => ?_)
      refine lv_iconst (v := 0) hx hb dX12_worst_31 (by decide) ?_
      refine lv_istore (lv' := [(5, .int 0), (3, .long (-9223372036854775808)), (0, .ref h0), (1, .int p1), (2, .int p2)]) hx hb dX12_worst_32 hl (by decide) rfl (fun ls hl => ?_)
      have K_34 : ∀ (nn : Nat) (y_25 : Nat) (y_26 : Int64) (H : Heap) (locs : List Loc) (ls : Array Slot), 128 - y_25 < nn → Iv dC dI g A f_6 H → va_S A s.heap H locs → (y_25 ≤ 128) → lv_has ls 10 [(5, .int (nI y_25)), (3, .long y_26), (0, .ref h0), (1, .int p1), (2, .int p2)] → W p l e (headSpec wq_c_X12_worst ({ frames := 2, cells := 0, slots := 0, locals := 46 } : Room)).room s m ([.ref h0, .int p1, .int p2].toArray) below meth c H locs 0 0 (MQ below (va_Ql (fun (r : Int64) (_ : Unit) => True) (fun (_ : Unit) t => ∃ f1 : Nat → va_E, Iv dC dI g A f1 t.heap ∧ Kp g [12] f f1 ∧ ∃ (w0 : Int32) (w1 : Int32) (w10 : Int32) (w12 : Int32) (w13 : Int32) (w14 : Int32) (w15 : Int32) (w16 : Int64) (w17 : Int32) (w18 : Int32) (w23 : Int32) (w24 : Int64) (w25 : Int64) (w26 : Int64) (q1 : Nat → Int64) (u1 : Nat → Int64) (im1 : Nat → Int64) (ik1 : Nat → Int32), (f1 h0 = .inr (12, [.int w0, .int w1, .ref (gr g h0 2), .ref (gr g h0 3), .ref (gr g h0 4), .ref (gr g h0 5), .ref (gr g h0 6), .ref (gr g h0 7), .ref (gr g h0 8), .ref (gr g h0 9), .int w10, .ref (gr g h0 11), .int w12, .int w13, .int w14, .int w15, .long w16, .int w17, .int w18, .ref (gr g h0 19), .ref (gr g h0 20), .ref (gr g h0 21), .ref (gr g h0 22), .int w23, .long w24, .long w25, .long w26])) ∧ (0 ≤ w10.toInt ∧ w10.toInt ≤ 10) ∧ (0 ≤ w12.toInt ∧ w12.toInt ≤ 200) ∧ (0 ≤ w23.toInt ∧ w23.toInt ≤ 8) ∧ (f1 (gr g h0 4) = .inl (gc g 1, 906, .inr (.inl q1))) ∧ (RowOK q1) ∧ (f1 (gr g h0 5) = .inl (gc g 1, 9060, .inr (.inl u1))) ∧ (f1 (gr g h0 7) = .inl (gc g 1, 1812, .inr (.inl im1))) ∧ (f1 (gr g h0 8) = .inl (gc g 3, 2, .inl ik1)) ∧ (UIq w10 u1 im1 ik1)) A) ([.ref h0, .int p1, .int p2].toArray) s 0 0 A) (F0 m 34 ls []) := by
        intro nn
        induction nn with
        | zero => intro y_25 y_26 H locs ls m_28; exact absurd m_28 (Nat.not_lt_zero _)
        | succ nn ih =>
          intro y_25 y_26 H locs ls m_28 hI hS t_27 hl
          refine lv_iload hx hb dX12_worst_34 (lv_at hl 0 rfl) ?_
          refine lv_i2l (v := lN (y_25)) hx hb dX12_worst_36 (nI_l (by omega)) ?_
          refine lv_aload_n hx hb dX12_worst_37 rfl (lv_at hl 2 rfl) ?_
          refine k_get (ci := 12) (v := .ref (gr g h0 4)) (C := RX12) (T := TX12) (N := 27) hx hb hts (fun _ h0_ => List.mem_cons_of_mem _ (List.mem_append_right _ (List.mem_append_left _ h0_))) hown hK hI i_h0.1 k_9 rfl 4 (by decide) (hts (.fieldLink RX12 16 "DeadlineShareModel" "row" "[J") (List.mem_cons_of_mem _ (List.mem_append_left _ (List.mem_of_getElem? (i := 8) rfl)))) (fun _ h9 => h9) rfl dX12_worst_38 ?_
          refine lv_iconst (v := 5) hx hb dX12_worst_41 (by decide) ?_
          refine k_lald hx hb hK hI i_1.1 1 k_10 rfl (by unfold vp_in; decide) dX12_worst_42 ?_
          refine k_topl (y := q 5) (congrArg q (show Int32.toNatClampNeg 5 = 5 by decide)) ?_
          refine W.lcmp hx hb dX12_worst_43 ?_
          refine lv_if_ge (tgt := 176) hx hb dX12_worst_44 (by decide) (fun c_31 => ?_) (fun c_31 => ?_)
          · have c_31 := lc_le rfl (lN_toInt (n := y_25) (by omega)) ((lg_cmp_ge _ _).mp c_31)
            refine lv_lload_n hx hb dX12_worst_176 rfl (lv_at hl 1 rfl) ?_
            exact W.lret (v := y_26) hx hb hr (fun t ht hW => ⟨⟨y_26, (), rfl, trivial, ⟨f_6, k_ret ht hI, kp_8, 0, z1, z10, z12, z13, z14, z15, z16, z17, z18, z23, z24, z25, z26, q, u, im, kt, k_9, (by first | omega | decide), (by first | omega | decide), (by first | omega | decide), k_10, hc1_ok, k_11, k_12, k_13, hU⟩⟩, hS.F ht⟩) hS.2.2 dX12_worst_177
          · have c_31 := ln_le rfl (lN_toInt (n := y_25) (by omega)) (fun h9 => c_31 ((lg_cmp_ge _ _).mpr h9))
            refine lv_lconst (v := 0) hx hb dX12_worst_47 (by decide) ?_
            refine lv_lstore (lv' := [(6, .long 0), (5, .int (nI y_25)), (3, .long y_26), (0, .ref h0), (1, .int p1), (2, .int p2)]) hx hb dX12_worst_48 hl (by decide) rfl (fun ls hl => ?_)
            refine lv_iload hx hb dX12_worst_50 (lv_at hl 1 rfl) ?_
            refine lv_istore (lv' := [(8, .int (nI y_25)), (6, .long 0), (5, .int (nI y_25)), (3, .long y_26), (0, .ref h0), (1, .int p1), (2, .int p2)]) hx hb dX12_worst_52 hl (by decide) rfl (fun ls hl => ?_)
            have K_54 : ∀ (nn : Nat) (y_32 : Nat) (y_33 : Int64) (y_34 : Int64) (H : Heap) (locs : List Loc) (ls : Array Slot), 128 - y_32 < nn → Iv dC dI g A f_6 H → va_S A s.heap H locs → (y_32 ≤ 128) → lv_has ls 10 [(8, .int (nI y_32)), (6, .long y_33), (5, .int (nI y_25)), (3, .long y_34), (0, .ref h0), (1, .int p1), (2, .int p2)] → W p l e (headSpec wq_c_X12_worst ({ frames := 2, cells := 0, slots := 0, locals := 46 } : Room)).room s m ([.ref h0, .int p1, .int p2].toArray) below meth c H locs 0 0 (MQ below (va_Ql (fun (r : Int64) (_ : Unit) => True) (fun (_ : Unit) t => ∃ f1 : Nat → va_E, Iv dC dI g A f1 t.heap ∧ Kp g [12] f f1 ∧ ∃ (w0 : Int32) (w1 : Int32) (w10 : Int32) (w12 : Int32) (w13 : Int32) (w14 : Int32) (w15 : Int32) (w16 : Int64) (w17 : Int32) (w18 : Int32) (w23 : Int32) (w24 : Int64) (w25 : Int64) (w26 : Int64) (q1 : Nat → Int64) (u1 : Nat → Int64) (im1 : Nat → Int64) (ik1 : Nat → Int32), (f1 h0 = .inr (12, [.int w0, .int w1, .ref (gr g h0 2), .ref (gr g h0 3), .ref (gr g h0 4), .ref (gr g h0 5), .ref (gr g h0 6), .ref (gr g h0 7), .ref (gr g h0 8), .ref (gr g h0 9), .int w10, .ref (gr g h0 11), .int w12, .int w13, .int w14, .int w15, .long w16, .int w17, .int w18, .ref (gr g h0 19), .ref (gr g h0 20), .ref (gr g h0 21), .ref (gr g h0 22), .int w23, .long w24, .long w25, .long w26])) ∧ (0 ≤ w10.toInt ∧ w10.toInt ≤ 10) ∧ (0 ≤ w12.toInt ∧ w12.toInt ≤ 200) ∧ (0 ≤ w23.toInt ∧ w23.toInt ≤ 8) ∧ (f1 (gr g h0 4) = .inl (gc g 1, 906, .inr (.inl q1))) ∧ (RowOK q1) ∧ (f1 (gr g h0 5) = .inl (gc g 1, 9060, .inr (.inl u1))) ∧ (f1 (gr g h0 7) = .inl (gc g 1, 1812, .inr (.inl im1))) ∧ (f1 (gr g h0 8) = .inl (gc g 3, 2, .inl ik1)) ∧ (UIq w10 u1 im1 ik1)) A) ([.ref h0, .int p1, .int p2].toArray) s 0 0 A) (F0 m 54 ls []) := by
              intro nn_54
              induction nn_54 with
              | zero => intro y_32 y_33 y_34 H locs ls m_36; exact absurd m_36 (Nat.not_lt_zero _)
              | succ nn_54 ih_54 =>
                intro y_32 y_33 y_34 H locs ls m_36 hI hS t_35 hl
                refine lv_iload hx hb dX12_worst_54 (lv_at hl 0 rfl) ?_
                refine lv_i2l (v := lN (y_32)) hx hb dX12_worst_56 (nI_l (by omega)) ?_
                refine lv_aload_n hx hb dX12_worst_57 rfl (lv_at hl 4 rfl) ?_
                refine k_get (ci := 12) (v := .ref (gr g h0 4)) (C := RX12) (T := TX12) (N := 27) hx hb hts (fun _ h0_ => List.mem_cons_of_mem _ (List.mem_append_right _ (List.mem_append_left _ h0_))) hown hK hI i_h0.1 k_9 rfl 4 (by decide) (hts (.fieldLink RX12 16 "DeadlineShareModel" "row" "[J") (List.mem_cons_of_mem _ (List.mem_append_left _ (List.mem_of_getElem? (i := 8) rfl)))) (fun _ h9 => h9) rfl dX12_worst_58 ?_
                refine lv_iconst (v := 5) hx hb dX12_worst_61 (by decide) ?_
                refine k_lald hx hb hK hI i_1.1 1 k_10 rfl (by unfold vp_in; decide) dX12_worst_62 ?_
                refine k_topl (y := q 5) (congrArg q (show Int32.toNatClampNeg 5 = 5 by decide)) ?_
                refine W.lcmp hx hb dX12_worst_63 ?_
                have J_170 : ∀ (H : Heap) (locs : List Loc) (ls : Array Slot), Iv dC dI g A f_6 H → va_S A s.heap H locs → lv_has ls 10 [(8, .int (nI y_32)), (6, .long y_33), (5, .int (nI y_25)), (3, .long y_34), (0, .ref h0), (1, .int p1), (2, .int p2)] → W p l e (headSpec wq_c_X12_worst ({ frames := 2, cells := 0, slots := 0, locals := 46 } : Room)).room s m ([.ref h0, .int p1, .int p2].toArray) below meth c H locs 0 0 (MQ below (va_Ql (fun (r : Int64) (_ : Unit) => True) (fun (_ : Unit) t => ∃ f1 : Nat → va_E, Iv dC dI g A f1 t.heap ∧ Kp g [12] f f1 ∧ ∃ (w0 : Int32) (w1 : Int32) (w10 : Int32) (w12 : Int32) (w13 : Int32) (w14 : Int32) (w15 : Int32) (w16 : Int64) (w17 : Int32) (w18 : Int32) (w23 : Int32) (w24 : Int64) (w25 : Int64) (w26 : Int64) (q1 : Nat → Int64) (u1 : Nat → Int64) (im1 : Nat → Int64) (ik1 : Nat → Int32), (f1 h0 = .inr (12, [.int w0, .int w1, .ref (gr g h0 2), .ref (gr g h0 3), .ref (gr g h0 4), .ref (gr g h0 5), .ref (gr g h0 6), .ref (gr g h0 7), .ref (gr g h0 8), .ref (gr g h0 9), .int w10, .ref (gr g h0 11), .int w12, .int w13, .int w14, .int w15, .long w16, .int w17, .int w18, .ref (gr g h0 19), .ref (gr g h0 20), .ref (gr g h0 21), .ref (gr g h0 22), .int w23, .long w24, .long w25, .long w26])) ∧ (0 ≤ w10.toInt ∧ w10.toInt ≤ 10) ∧ (0 ≤ w12.toInt ∧ w12.toInt ≤ 200) ∧ (0 ≤ w23.toInt ∧ w23.toInt ≤ 8) ∧ (f1 (gr g h0 4) = .inl (gc g 1, 906, .inr (.inl q1))) ∧ (RowOK q1) ∧ (f1 (gr g h0 5) = .inl (gc g 1, 9060, .inr (.inl u1))) ∧ (f1 (gr g h0 7) = .inl (gc g 1, 1812, .inr (.inl im1))) ∧ (f1 (gr g h0 8) = .inl (gc g 3, 2, .inl ik1)) ∧ (UIq w10 u1 im1 ik1)) A) ([.ref h0, .int p1, .int p2].toArray) s 0 0 A) (F0 m 170 ls []) := by
                  intro H locs ls hI hS  hl
                  refine lv_iinc (v := nI (y_25 + 1)) (lv' := [(5, .int (nI (y_25 + 1))), (8, .int (nI y_32)), (6, .long y_33), (3, .long y_34), (0, .ref h0), (1, .int p1), (2, .int p2)]) hx hb dX12_worst_170 hl (k := 2) rfl (nI_1 _) (by decide) rfl (fun ls hl => ?_)
                  refine lv_goto (tgt := 34) hx hb dX12_worst_173 (by decide) ?_
                  exact ih (y_25 + 1) y_34 _ _ _ (by omega) hI hS (by first | omega | decide | exact Or.inl (by decide)) (lv_sub hl [0, 3, 4, 5, 6] rfl)
                refine lv_if_ge (tgt := 170) hx hb dX12_worst_64 (by decide) (fun c_39 => ?_) (fun c_39 => ?_)
                · have c_39 := lc_le rfl (lN_toInt (n := y_32) (by omega)) ((lg_cmp_ge _ _).mp c_39)
                  exact J_170  _ _ _ hI hS  (lv_sub hl [0, 1, 2, 3, 4, 5, 6] rfl)
                · have c_39 := ln_le rfl (lN_toInt (n := y_32) (by omega)) (fun h9 => c_39 ((lg_cmp_ge _ _).mpr h9))
                  refine lv_aload_n hx hb dX12_worst_67 rfl (lv_at hl 4 rfl) ?_
                  refine lv_iload_n hx hb dX12_worst_68 rfl (lv_at hl 5 rfl) ?_
                  refine lv_sipush (v := 522) hx hb dX12_worst_69 (by decide) ?_
                  refine lv_iconst (v := 3) hx hb dX12_worst_72 (by decide) ?_
                  refine lv_iload hx hb dX12_worst_73 (lv_at hl 0 rfl) ?_
                  refine lv_imul hx hb dX12_worst_75 ?_
                  refine k_topi (y := nI (3 * y_32)) ((pk_mul 3 y_32).trans (congrArg nI (by omega))) ?_
                  refine lv_iadd hx hb dX12_worst_76 ?_
                  refine k_topi (y := nI (522 + 3 * y_32)) ((nI_add 522 (3 * y_32)).trans (congrArg nI (by omega))) ?_
                  refine va_calll (va_runV (As := [.int p1, .int (nI (522 + 3 * y_32))]) (rest := []) ⟨hx, hb, hml, hown, hts⟩ (c_X12_shareAt l dC dI g A hG f_6 h0 p1 (522 + 3 * y_32) q i_h0 k_10 hc1_ok ⟨y_32, rfl, by omega⟩) (cwV 2 hts (gi_V (fun w_ h0_ => ⟨List.mem_cons_of_mem _ (List.mem_append_right _ (List.mem_append_right _ (List.mem_append_right _ (List.mem_append_right _ (List.mem_append_left _ h0_))))), (tb_c_X12_shareAt w_ h0_).2⟩) (List.mem_cons_of_mem _ (List.mem_append_left _ (List.mem_of_getElem? (i := 9) rfl))) (List.mem_cons_of_mem _ (List.mem_append_left _ (List.mem_of_getElem? (i := 10) rfl))) (List.mem_cons_of_mem _ (List.mem_append_left _ (List.mem_of_getElem? (i := 11) rfl))) (List.mem_cons_of_mem _ (List.mem_append_left _ (List.mem_of_getElem? (i := 4) rfl)))) rfl rfl rfl (by decide +kernel) ⟨Nat.le_of_ble_eq_true rfl, Nat.le_of_ble_eq_true rfl⟩) ⟨fun a U g mk q => ⟨q.1, q.2.calling rfl rfl⟩, k_recv hK hI i_h0.1 k_9 (ci := 12) rfl, fun U hU hW => ⟨rfl, kIn.of hI hK hE hS hU hW⟩⟩ rfl rfl hl.1 rfl (lv_room (Nat.le_of_ble_eq_true rfl)) dX12_worst_77 ⟨Nat.le_of_ble_eq_true rfl, Nat.le_of_ble_eq_true rfl⟩) hS (fun q _ h => h) (fun q h => h) (fun r_41 u9 t H1 locs ht hvm w_40 hB hz1 hk1 hS => ?_)
                  have hI : Iv dC dI g A f_6 t.heap := hB
                  rw [ht] at hI
                  generalize H1 = H at hI hS ⊢
                  refine W.widen (k := 0) (n := 0) (Nat.le_of_ble_eq_true rfl) (Nat.le_of_ble_eq_true rfl) ?_
                  refine lv_lconst (v := 0) hx hb dX12_worst_80 (by decide) ?_
                  refine W.lcmp hx hb dX12_worst_81 ?_
                  refine lv_if_le (tgt := 170) hx hb dX12_worst_82 (by decide) (fun c_42 => ?_) (fun c_42 => ?_)
                  · have c_42 := lc_le rfl (by decide : Int64.toInt 0 = 0) ((lg_cmp_le _ _).mp c_42)
                    exact J_170  _ _ _ hI hS  (lv_sub hl [0, 1, 2, 3, 4, 5, 6] rfl)
                  · have c_42 := ln_le rfl (by decide : Int64.toInt 0 = 0) (fun h9 => c_42 ((lg_cmp_le _ _).mpr h9))
                    refine lv_sipush (v := 522) hx hb dX12_worst_85 (by decide) ?_
                    refine lv_iconst (v := 3) hx hb dX12_worst_88 (by decide) ?_
                    refine lv_iload hx hb dX12_worst_89 (lv_at hl 0 rfl) ?_
                    refine lv_imul hx hb dX12_worst_91 ?_
                    refine k_topi (y := nI (3 * y_32)) ((pk_mul 3 y_32).trans (congrArg nI (by omega))) ?_
                    refine lv_iadd hx hb dX12_worst_92 ?_
                    refine k_topi (y := nI (522 + 3 * y_32)) ((nI_add 522 (3 * y_32)).trans (congrArg nI (by omega))) ?_
                    refine lv_istore (lv' := [(9, .int (nI (522 + 3 * y_32))), (8, .int (nI y_32)), (6, .long y_33), (5, .int (nI y_25)), (3, .long y_34), (0, .ref h0), (1, .int p1), (2, .int p2)]) hx hb dX12_worst_93 hl (by decide) rfl (fun ls hl => ?_)
                    refine lv_lload hx hb dX12_worst_95 (lv_at hl 2 rfl) ?_
                    refine lv_aload_n hx hb dX12_worst_97 rfl (lv_at hl 5 rfl) ?_
                    refine k_get (ci := 12) (v := .ref (gr g h0 4)) (C := RX12) (T := TX12) (N := 27) hx hb hts (fun _ h0_ => List.mem_cons_of_mem _ (List.mem_append_right _ (List.mem_append_left _ h0_))) hown hK hI i_h0.1 k_9 rfl 4 (by decide) (hts (.fieldLink RX12 16 "DeadlineShareModel" "row" "[J") (List.mem_cons_of_mem _ (List.mem_append_left _ (List.mem_of_getElem? (i := 8) rfl)))) (fun _ h9 => h9) rfl dX12_worst_98 ?_
                    refine lv_iload hx hb dX12_worst_101 (lv_at hl 0 rfl) ?_
                    refine k_lald hx hb hK hI i_1.1 1 k_10 rfl (vp_in_nI (by omega) (by omega)) dX12_worst_103 ?_
                    refine k_topl (y := q (522 + 3 * y_32)) (congrArg q (nI_clamp (by omega))) ?_
                    refine lv_iload_n hx hb dX12_worst_104 rfl (lv_at hl 6 rfl) ?_
                    refine lv_i2l (v := p1.toInt64) hx hb dX12_worst_105 rfl ?_
                    have t_45 := Int32.toInt_toInt64 p1
                    have g_46 := Int32.toInt_lt p1
                    have g_47 := Int32.le_toInt p1
                    refine W.lcmp hx hb dX12_worst_106 ?_
                    have J_117 : ∀ (y_48 : Int64) (H : Heap) (locs : List Loc) (ls : Array Slot), Iv dC dI g A f_6 H → va_S A s.heap H locs → lv_has ls 10 [(9, .int (nI (522 + 3 * y_32))), (8, .int (nI y_32)), (6, .long y_33), (5, .int (nI y_25)), (3, .long y_34), (0, .ref h0), (1, .int p1), (2, .int p2)] → W p l e (headSpec wq_c_X12_worst ({ frames := 2, cells := 0, slots := 0, locals := 46 } : Room)).room s m ([.ref h0, .int p1, .int p2].toArray) below meth c H locs 0 0 (MQ below (va_Ql (fun (r : Int64) (_ : Unit) => True) (fun (_ : Unit) t => ∃ f1 : Nat → va_E, Iv dC dI g A f1 t.heap ∧ Kp g [12] f f1 ∧ ∃ (w0 : Int32) (w1 : Int32) (w10 : Int32) (w12 : Int32) (w13 : Int32) (w14 : Int32) (w15 : Int32) (w16 : Int64) (w17 : Int32) (w18 : Int32) (w23 : Int32) (w24 : Int64) (w25 : Int64) (w26 : Int64) (q1 : Nat → Int64) (u1 : Nat → Int64) (im1 : Nat → Int64) (ik1 : Nat → Int32), (f1 h0 = .inr (12, [.int w0, .int w1, .ref (gr g h0 2), .ref (gr g h0 3), .ref (gr g h0 4), .ref (gr g h0 5), .ref (gr g h0 6), .ref (gr g h0 7), .ref (gr g h0 8), .ref (gr g h0 9), .int w10, .ref (gr g h0 11), .int w12, .int w13, .int w14, .int w15, .long w16, .int w17, .int w18, .ref (gr g h0 19), .ref (gr g h0 20), .ref (gr g h0 21), .ref (gr g h0 22), .int w23, .long w24, .long w25, .long w26])) ∧ (0 ≤ w10.toInt ∧ w10.toInt ≤ 10) ∧ (0 ≤ w12.toInt ∧ w12.toInt ≤ 200) ∧ (0 ≤ w23.toInt ∧ w23.toInt ≤ 8) ∧ (f1 (gr g h0 4) = .inl (gc g 1, 906, .inr (.inl q1))) ∧ (RowOK q1) ∧ (f1 (gr g h0 5) = .inl (gc g 1, 9060, .inr (.inl u1))) ∧ (f1 (gr g h0 7) = .inl (gc g 1, 1812, .inr (.inl im1))) ∧ (f1 (gr g h0 8) = .inl (gc g 3, 2, .inl ik1)) ∧ (UIq w10 u1 im1 ik1)) A) ([.ref h0, .int p1, .int p2].toArray) s 0 0 A) (F0 m 117 ls [.long y_48, .long y_33]) := by
                      intro y_48 H locs ls hI hS  hl
                      refine lv_aload_n hx hb dX12_worst_117 rfl (lv_at hl 5 rfl) ?_
                      refine lv_iload_n hx hb dX12_worst_118 rfl (lv_at hl 6 rfl) ?_
                      refine lv_iload hx hb dX12_worst_119 (lv_at hl 0 rfl) ?_
                      refine va_calll (va_runV (As := [.int p1, .int (nI (522 + 3 * y_32))]) (rest := [.long y_48, .long y_33]) ⟨hx, hb, hml, hown, hts⟩ (c_X12_shareAt l dC dI g A hG f_6 h0 p1 (522 + 3 * y_32) q i_h0 k_10 hc1_ok ⟨y_32, rfl, by omega⟩) (cwV 2 hts (gi_V (fun w_ h0_ => ⟨List.mem_cons_of_mem _ (List.mem_append_right _ (List.mem_append_right _ (List.mem_append_right _ (List.mem_append_right _ (List.mem_append_left _ h0_))))), (tb_c_X12_shareAt w_ h0_).2⟩) (List.mem_cons_of_mem _ (List.mem_append_left _ (List.mem_of_getElem? (i := 9) rfl))) (List.mem_cons_of_mem _ (List.mem_append_left _ (List.mem_of_getElem? (i := 10) rfl))) (List.mem_cons_of_mem _ (List.mem_append_left _ (List.mem_of_getElem? (i := 11) rfl))) (List.mem_cons_of_mem _ (List.mem_append_left _ (List.mem_of_getElem? (i := 4) rfl)))) rfl rfl rfl (by decide +kernel) ⟨Nat.le_of_ble_eq_true rfl, Nat.le_of_ble_eq_true rfl⟩) ⟨fun a U g mk q => ⟨q.1, q.2.calling rfl rfl⟩, k_recv hK hI i_h0.1 k_9 (ci := 12) rfl, fun U hU hW => ⟨rfl, kIn.of hI hK hE hS hU hW⟩⟩ rfl rfl hl.1 rfl (lv_room (Nat.le_of_ble_eq_true rfl)) dX12_worst_121 ⟨Nat.le_of_ble_eq_true rfl, Nat.le_of_ble_eq_true rfl⟩) hS (fun q _ h => h) (fun q h => h) (fun r_50 u9 t H1 locs ht hvm w_49 hB hz1 hk1 hS => ?_)
                      have hI : Iv dC dI g A f_6 t.heap := hB
                      rw [ht] at hI
                      generalize H1 = H at hI hS ⊢
                      refine W.widen (k := 0) (n := 0) (Nat.le_of_ble_eq_true rfl) (Nat.le_of_ble_eq_true rfl) ?_
                      refine lv_lsub hx hb dX12_worst_124 ?_
                      refine lv_topl (fun v_51 ev_51 => ?_)
                      have tv_51 := l_sb y_48 r_50
                      rw [← ev_51] at tv_51
                      refine lv_ladd hx hb dX12_worst_125 ?_
                      refine lv_topl (fun v_52 ev_52 => ?_)
                      have tv_52 := l_ad y_33 v_51
                      rw [← ev_52] at tv_52
                      refine lv_lstore (lv' := [(6, .long v_52), (9, .int (nI (522 + 3 * y_32))), (8, .int (nI y_32)), (5, .int (nI y_25)), (3, .long y_34), (0, .ref h0), (1, .int p1), (2, .int p2)]) hx hb dX12_worst_126 hl (by decide) rfl (fun ls hl => ?_)
                      refine lv_lload_n hx hb dX12_worst_128 rfl (lv_at hl 4 rfl) ?_
                      refine lv_ldc2 hx hb hown (hts (.constantLong RX12 291 (-9223372036854775808)) (List.mem_cons_of_mem _ (List.mem_append_left _ (List.mem_of_getElem? (i := 5) rfl)))) dX12_worst_129 ?_
                      refine W.lcmp hx hb dX12_worst_132 ?_
                      have J_163 : ∀ (y_53 : Int64) (H : Heap) (locs : List Loc) (ls : Array Slot), Iv dC dI g A f_6 H → va_S A s.heap H locs → lv_has ls 10 [(6, .long v_52), (9, .int (nI (522 + 3 * y_32))), (8, .int (nI y_32)), (5, .int (nI y_25)), (3, .long y_34), (0, .ref h0), (1, .int p1), (2, .int p2)] → W p l e (headSpec wq_c_X12_worst ({ frames := 2, cells := 0, slots := 0, locals := 46 } : Room)).room s m ([.ref h0, .int p1, .int p2].toArray) below meth c H locs 0 0 (MQ below (va_Ql (fun (r : Int64) (_ : Unit) => True) (fun (_ : Unit) t => ∃ f1 : Nat → va_E, Iv dC dI g A f1 t.heap ∧ Kp g [12] f f1 ∧ ∃ (w0 : Int32) (w1 : Int32) (w10 : Int32) (w12 : Int32) (w13 : Int32) (w14 : Int32) (w15 : Int32) (w16 : Int64) (w17 : Int32) (w18 : Int32) (w23 : Int32) (w24 : Int64) (w25 : Int64) (w26 : Int64) (q1 : Nat → Int64) (u1 : Nat → Int64) (im1 : Nat → Int64) (ik1 : Nat → Int32), (f1 h0 = .inr (12, [.int w0, .int w1, .ref (gr g h0 2), .ref (gr g h0 3), .ref (gr g h0 4), .ref (gr g h0 5), .ref (gr g h0 6), .ref (gr g h0 7), .ref (gr g h0 8), .ref (gr g h0 9), .int w10, .ref (gr g h0 11), .int w12, .int w13, .int w14, .int w15, .long w16, .int w17, .int w18, .ref (gr g h0 19), .ref (gr g h0 20), .ref (gr g h0 21), .ref (gr g h0 22), .int w23, .long w24, .long w25, .long w26])) ∧ (0 ≤ w10.toInt ∧ w10.toInt ≤ 10) ∧ (0 ≤ w12.toInt ∧ w12.toInt ≤ 200) ∧ (0 ≤ w23.toInt ∧ w23.toInt ≤ 8) ∧ (f1 (gr g h0 4) = .inl (gc g 1, 906, .inr (.inl q1))) ∧ (RowOK q1) ∧ (f1 (gr g h0 5) = .inl (gc g 1, 9060, .inr (.inl u1))) ∧ (f1 (gr g h0 7) = .inl (gc g 1, 1812, .inr (.inl im1))) ∧ (f1 (gr g h0 8) = .inl (gc g 3, 2, .inl ik1)) ∧ (UIq w10 u1 im1 ik1)) A) ([.ref h0, .int p1, .int p2].toArray) s 0 0 A) (F0 m 163 ls [.long y_53]) := by
                        intro y_53 H locs ls hI hS  hl
                        refine lv_lstore_n (lv' := [(3, .long y_53), (6, .long v_52), (9, .int (nI (522 + 3 * y_32))), (8, .int (nI y_32)), (5, .int (nI y_25)), (0, .ref h0), (1, .int p1), (2, .int p2)]) hx hb dX12_worst_163 rfl hl (by decide) rfl (fun ls hl => ?_)
                        refine lv_iinc (v := nI (y_32 + 1)) (lv' := [(8, .int (nI (y_32 + 1))), (3, .long y_53), (6, .long v_52), (9, .int (nI (522 + 3 * y_32))), (5, .int (nI y_25)), (0, .ref h0), (1, .int p1), (2, .int p2)]) hx hb dX12_worst_164 hl (k := 3) rfl (nI_1 _) (by decide) rfl (fun ls hl => ?_)
                        refine lv_goto (tgt := 54) hx hb dX12_worst_167 (by decide) ?_
                        exact ih_54 (y_32 + 1) v_52 y_53 _ _ _ (by omega) hI hS (by first | omega | decide | exact Or.inl (by decide)) (lv_sub hl [0, 2, 4, 1, 5, 6, 7] rfl)
                      have J_157 : ∀ (H : Heap) (locs : List Loc) (ls : Array Slot), Iv dC dI g A f_6 H → va_S A s.heap H locs → lv_has ls 10 [(6, .long v_52), (9, .int (nI (522 + 3 * y_32))), (8, .int (nI y_32)), (5, .int (nI y_25)), (3, .long y_34), (0, .ref h0), (1, .int p1), (2, .int p2)] → W p l e (headSpec wq_c_X12_worst ({ frames := 2, cells := 0, slots := 0, locals := 46 } : Room)).room s m ([.ref h0, .int p1, .int p2].toArray) below meth c H locs 0 0 (MQ below (va_Ql (fun (r : Int64) (_ : Unit) => True) (fun (_ : Unit) t => ∃ f1 : Nat → va_E, Iv dC dI g A f1 t.heap ∧ Kp g [12] f f1 ∧ ∃ (w0 : Int32) (w1 : Int32) (w10 : Int32) (w12 : Int32) (w13 : Int32) (w14 : Int32) (w15 : Int32) (w16 : Int64) (w17 : Int32) (w18 : Int32) (w23 : Int32) (w24 : Int64) (w25 : Int64) (w26 : Int64) (q1 : Nat → Int64) (u1 : Nat → Int64) (im1 : Nat → Int64) (ik1 : Nat → Int32), (f1 h0 = .inr (12, [.int w0, .int w1, .ref (gr g h0 2), .ref (gr g h0 3), .ref (gr g h0 4), .ref (gr g h0 5), .ref (gr g h0 6), .ref (gr g h0 7), .ref (gr g h0 8), .ref (gr g h0 9), .int w10, .ref (gr g h0 11), .int w12, .int w13, .int w14, .int w15, .long w16, .int w17, .int w18, .ref (gr g h0 19), .ref (gr g h0 20), .ref (gr g h0 21), .ref (gr g h0 22), .int w23, .long w24, .long w25, .long w26])) ∧ (0 ≤ w10.toInt ∧ w10.toInt ≤ 10) ∧ (0 ≤ w12.toInt ∧ w12.toInt ≤ 200) ∧ (0 ≤ w23.toInt ∧ w23.toInt ≤ 8) ∧ (f1 (gr g h0 4) = .inl (gc g 1, 906, .inr (.inl q1))) ∧ (RowOK q1) ∧ (f1 (gr g h0 5) = .inl (gc g 1, 9060, .inr (.inl u1))) ∧ (f1 (gr g h0 7) = .inl (gc g 1, 1812, .inr (.inl im1))) ∧ (f1 (gr g h0 8) = .inl (gc g 3, 2, .inl ik1)) ∧ (UIq w10 u1 im1 ik1)) A) ([.ref h0, .int p1, .int p2].toArray) s 0 0 A) (F0 m 157 ls []) := by
                        intro H locs ls hI hS  hl
                        refine lv_lload hx hb dX12_worst_157 (lv_at hl 0 rfl) ?_
                        refine lv_goto (tgt := 163) hx hb dX12_worst_159 (by decide) ?_
                        exact J_163 v_52 _ _ _ hI hS  (lv_sub hl [0, 1, 2, 3, 4, 5, 6, 7] rfl)
                      refine lv_if_eq (tgt := 157) hx hb dX12_worst_133 (by decide) (fun c_54 => ?_) (fun c_54 => ?_)
                      · have c_54 := lc_eq rfl (by decide : Int64.toInt (-9223372036854775808) = (-9223372036854775808)) ((lg_cmp_eq _ _).mp c_54)
                        exact J_157  _ _ _ hI hS  (lv_sub hl [0, 1, 2, 3, 4, 5, 6, 7] rfl)
                      · have c_54 := ln_eq rfl (by decide : Int64.toInt (-9223372036854775808) = (-9223372036854775808)) (fun h9 => c_54 ((lg_cmp_eq _ _).mpr h9))
                        refine lv_iload_n hx hb dX12_worst_136 rfl (lv_at hl 7 rfl) ?_
                        have J_162 : ∀ (H : Heap) (locs : List Loc) (ls : Array Slot), Iv dC dI g A f_6 H → va_S A s.heap H locs → lv_has ls 10 [(6, .long v_52), (9, .int (nI (522 + 3 * y_32))), (8, .int (nI y_32)), (5, .int (nI y_25)), (3, .long y_34), (0, .ref h0), (1, .int p1), (2, .int p2)] → W p l e (headSpec wq_c_X12_worst ({ frames := 2, cells := 0, slots := 0, locals := 46 } : Room)).room s m ([.ref h0, .int p1, .int p2].toArray) below meth c H locs 0 0 (MQ below (va_Ql (fun (r : Int64) (_ : Unit) => True) (fun (_ : Unit) t => ∃ f1 : Nat → va_E, Iv dC dI g A f1 t.heap ∧ Kp g [12] f f1 ∧ ∃ (w0 : Int32) (w1 : Int32) (w10 : Int32) (w12 : Int32) (w13 : Int32) (w14 : Int32) (w15 : Int32) (w16 : Int64) (w17 : Int32) (w18 : Int32) (w23 : Int32) (w24 : Int64) (w25 : Int64) (w26 : Int64) (q1 : Nat → Int64) (u1 : Nat → Int64) (im1 : Nat → Int64) (ik1 : Nat → Int32), (f1 h0 = .inr (12, [.int w0, .int w1, .ref (gr g h0 2), .ref (gr g h0 3), .ref (gr g h0 4), .ref (gr g h0 5), .ref (gr g h0 6), .ref (gr g h0 7), .ref (gr g h0 8), .ref (gr g h0 9), .int w10, .ref (gr g h0 11), .int w12, .int w13, .int w14, .int w15, .long w16, .int w17, .int w18, .ref (gr g h0 19), .ref (gr g h0 20), .ref (gr g h0 21), .ref (gr g h0 22), .int w23, .long w24, .long w25, .long w26])) ∧ (0 ≤ w10.toInt ∧ w10.toInt ≤ 10) ∧ (0 ≤ w12.toInt ∧ w12.toInt ≤ 200) ∧ (0 ≤ w23.toInt ∧ w23.toInt ≤ 8) ∧ (f1 (gr g h0 4) = .inl (gc g 1, 906, .inr (.inl q1))) ∧ (RowOK q1) ∧ (f1 (gr g h0 5) = .inl (gc g 1, 9060, .inr (.inl u1))) ∧ (f1 (gr g h0 7) = .inl (gc g 1, 1812, .inr (.inl im1))) ∧ (f1 (gr g h0 8) = .inl (gc g 3, 2, .inl ik1)) ∧ (UIq w10 u1 im1 ik1)) A) ([.ref h0, .int p1, .int p2].toArray) s 0 0 A) (F0 m 162 ls []) := by
                          intro H locs ls hI hS  hl
                          refine lv_lload_n hx hb dX12_worst_162 rfl (lv_at hl 4 rfl) ?_
                          exact J_163 y_34 _ _ _ hI hS  (lv_sub hl [0, 1, 2, 3, 4, 5, 6, 7] rfl)
                        refine lv_if_ne (tgt := 150) hx hb dX12_worst_137 (by decide) (fun c_55 => ?_) (fun c_55 => ?_)
                        · have c_55 := kn_eq rfl (by decide : Int32.toInt 0 = 0) c_55
                          refine lv_lload hx hb dX12_worst_150 (lv_at hl 0 rfl) ?_
                          refine lv_lload_n hx hb dX12_worst_152 rfl (lv_at hl 4 rfl) ?_
                          refine W.lcmp hx hb dX12_worst_153 ?_
                          refine lv_if_ge (tgt := 162) hx hb dX12_worst_154 (by decide) (fun c_56 => ?_) (fun c_56 => ?_)
                          · have c_56 := lc_le rfl rfl ((lg_cmp_ge _ _).mp c_56)
                            exact J_162  _ _ _ hI hS  (lv_sub hl [0, 1, 2, 3, 4, 5, 6, 7] rfl)
                          · have c_56 := ln_le rfl rfl (fun h9 => c_56 ((lg_cmp_ge _ _).mpr h9))
                            exact J_157  _ _ _ hI hS  (lv_sub hl [0, 1, 2, 3, 4, 5, 6, 7] rfl)
                        · have c_55 := kc_eq rfl (by decide : Int32.toInt 0 = 0) c_55
                          refine lv_lload hx hb dX12_worst_140 (lv_at hl 0 rfl) ?_
                          refine lv_lload_n hx hb dX12_worst_142 rfl (lv_at hl 4 rfl) ?_
                          refine W.lcmp hx hb dX12_worst_143 ?_
                          refine lv_if_le (tgt := 162) hx hb dX12_worst_144 (by decide) (fun c_57 => ?_) (fun c_57 => ?_)
                          · have c_57 := lc_le rfl rfl ((lg_cmp_le _ _).mp c_57)
                            exact J_162  _ _ _ hI hS  (lv_sub hl [0, 1, 2, 3, 4, 5, 6, 7] rfl)
                          · have c_57 := ln_le rfl rfl (fun h9 => c_57 ((lg_cmp_le _ _).mpr h9))
                            refine lv_goto (tgt := 157) hx hb dX12_worst_147 (by decide) ?_
                            exact J_157  _ _ _ hI hS  (lv_sub hl [0, 1, 2, 3, 4, 5, 6, 7] rfl)
                    refine lv_if_ne (tgt := 116) hx hb dX12_worst_107 (by decide) (fun c_58 => ?_) (fun c_58 => ?_)
                    · have c_58 := ln_eq rfl rfl (fun h9 => c_58 ((lg_cmp_eq _ _).mpr h9))
                      refine lv_lconst (v := 0) hx hb dX12_worst_116 (by decide) ?_
                      exact J_117 0 _ _ _ hI hS  (lv_sub hl [0, 1, 2, 3, 4, 5, 6, 7] rfl)
                    · have c_58 := lc_eq rfl rfl ((lg_cmp_eq _ _).mp c_58)
                      refine lv_ldc2 hx hb hown (hts (.constantLong RX12 108 (5354228880)) (List.mem_cons_of_mem _ (List.mem_append_left _ (List.mem_of_getElem? (i := 12) rfl)))) dX12_worst_110 ?_
                      refine lv_goto (tgt := 117) hx hb dX12_worst_113 (by decide) ?_
                      exact J_117 5354228880 _ _ _ hI hS  (lv_sub hl [0, 1, 2, 3, 4, 5, 6, 7] rfl)
            exact K_54 _ y_25 0 y_26 _ _ _ (Nat.lt_succ_self _) hI hS (by first | omega | decide | exact Or.inl (by decide) | (simp only [show Int64.toInt 0 = 0 from by decide] <;> omega)) (lv_sub hl [0, 1, 2, 3, 4, 5, 6] rfl)
      exact K_34 _ 0 (-9223372036854775808) _ _ _ (Nat.lt_succ_self _) hI hS (by first | omega | decide | exact Or.inl (by decide) | (simp only [show Int64.toInt (-9223372036854775808) = (-9223372036854775808) from by decide] <;> omega)) (lv_sub hl [0, 1, 2, 3, 4] rfl)
    · have c_24 := kc_eq rfl (by decide : Int32.toInt 0 = 0) c_24
      refine lv_ldc2 hx hb hown (hts (.constantLong RX12 291 (-9223372036854775808)) (List.mem_cons_of_mem _ (List.mem_append_left _ (List.mem_of_getElem? (i := 5) rfl)))) dX12_worst_23 ?_
      exact W.lret (v := (-9223372036854775808)) hx hb hr (fun t ht hW => ⟨⟨(-9223372036854775808), (), rfl, trivial, ⟨f_6, k_ret ht hI, kp_8, 0, z1, z10, z12, z13, z14, z15, z16, z17, z18, z23, z24, z25, z26, q, u, im, kt, k_9, (by first | omega | decide), (by first | omega | decide), (by first | omega | decide), k_10, hc1_ok, k_11, k_12, k_13, hU⟩⟩, hS.F ht⟩) hS.2.2 dX12_worst_26
theorem tw_985 : q_g (.constantLong RX12 286 (9999)) := ⟨(List.mem_append_right _ (List.mem_of_getElem? (i := 1396) (by decide +kernel))), good_of_word (by decide +kernel)⟩
theorem tw_986 : q_g (.constantLong RX12 172 (60)) := ⟨(List.mem_append_right _ (List.mem_of_getElem? (i := 1325) (by decide +kernel))), good_of_word (by decide +kernel)⟩
theorem tw_987 : q_g (.code yX12_ticks cX12_ticks 4 (some .int)) := ⟨(List.mem_append_right _ (List.mem_of_getElem? (i := 1395) (by decide +kernel))), good_of_word (by decide +kernel)⟩
def ow_c_X12_ticks : List Cond := [.fieldLink RX12 67 "DeadlineShareModel" "thrown" "I", .constantLong RX12 172 (60), .methodLink RX12 83 yX12_in, .static yX12_in, .initialized RX12, .fieldLink RX12 16 "DeadlineShareModel" "row" "[J", .constantLong RX12 286 (9999), .methodLink RX12 139 yX12_remember, .instanceMethod yX12_remember, .selects RX12 yX12_remember yX12_remember, .methodLink RX12 80 yX12_tell, .instanceMethod yX12_tell, .selects RX12 yX12_tell yX12_tell, .methodLink RX12 288 yX12_tick, .instanceMethod yX12_tick, .selects RX12 yX12_tick yX12_tick, .methodLink RX12 76 yX12_refuse, .instanceMethod yX12_refuse, .selects RX12 yX12_refuse yX12_refuse]
def wq_c_X12_ticks : List Cond := .code yX12_ticks cX12_ticks 4 (some .int) :: (ow_c_X12_ticks ++ (u_ws RX12 TX12 27 ++ (wq_c_X12_in ++ (wq_c_X12_remember ++ (wq_c_X12_tell ++ (wq_c_X12_tick ++ (wq_c_X12_refuse ++ ([] : List Cond))))))))
theorem tb_c_X12_ticks : ∀ w ∈ wq_c_X12_ticks, q_g w := by
  unfold wq_c_X12_ticks ow_c_X12_ticks
  exact q_cons tw_987 (q_app (q_cons tw_927 (q_cons tw_986 (q_cons tw_730 (q_cons tw_729 (q_cons tw_728 (q_cons tw_731 (q_cons tw_985 (q_cons tw_963 (q_cons tw_962 (q_cons tw_961 (q_cons tw_960 (q_cons tw_959 (q_cons tw_958 (q_cons tw_919 (q_cons tw_918 (q_cons tw_917 (q_cons tw_966 (q_cons tw_965 (q_cons tw_964 q_nil))))))))))))))))))) (q_app tu_X12 (q_app tb_c_X12_in (q_app tb_c_X12_remember (q_app tb_c_X12_tell (q_app tb_c_X12_tick (q_app tb_c_X12_refuse q_nil)))))))
set_option maxHeartbeats 4000000 in
set_option maxRecDepth 100000 in
theorem c_X12_ticks (l : Launch) (dC : Nat → ClassId) (dI : Nat → Nat → Nat) (g : kG) (A : Nat → Prop) (hG : kWf g) (f : Nat → va_E) (h0 : Nat) (p1 : Int32) (z0 : Int32) (z1 : Int32) (z10 : Int32) (z12 : Int32) (z13 : Int32) (z14 : Int32) (z15 : Int32) (z16 : Int64) (z17 : Int32) (z18 : Int32) (z23 : Int32) (z24 : Int64) (z25 : Int64) (z26 : Int64) (q : Nat → Int64) (u : Nat → Int64) (im : Nat → Int64) (kt : Nat → Int32) (i_h0 : ik g 12 h0) (hc0 : f h0 = .inr (12, [.int z0, .int z1, .ref (gr g h0 2), .ref (gr g h0 3), .ref (gr g h0 4), .ref (gr g h0 5), .ref (gr g h0 6), .ref (gr g h0 7), .ref (gr g h0 8), .ref (gr g h0 9), .int z10, .ref (gr g h0 11), .int z12, .int z13, .int z14, .int z15, .long z16, .int z17, .int z18, .ref (gr g h0 19), .ref (gr g h0 20), .ref (gr g h0 21), .ref (gr g h0 22), .int z23, .long z24, .long z25, .long z26])) (hc0_10 : 0 ≤ z10.toInt ∧ z10.toInt ≤ 10) (hc0_12 : 0 ≤ z12.toInt ∧ z12.toInt ≤ 200) (hc0_23 : 0 ≤ z23.toInt ∧ z23.toInt ≤ 8) (hc1 : f (gr g h0 4) = .inl (gc g 1, 906, .inr (.inl q))) (hc1_ok : RowOK q) (hc2 : f (gr g h0 5) = .inl (gc g 1, 9060, .inr (.inl u))) (hc3 : f (gr g h0 7) = .inl (gc g 1, 1812, .inr (.inl im))) (hc4 : f (gr g h0 8) = .inl (gc g 3, 2, .inl kt)) (hU : UIq z10 u im kt) : Met l yX12_ticks wq_c_X12_ticks ({ frames := 8, cells := 0, slots := 0, locals := 187 } : Room) (va_Pc [.ref h0, .int p1] (fun U => kIn dC dI g A f U)) (va_Qi (fun (r : Int32) (_ : Unit) => True) (fun (_ : Unit) t => ∃ f1 : Nat → va_E, Iv dC dI g A f1 t.heap ∧ Kp g [12, 30, 32, 33, 37] f f1 ∧ ∃ (w0 : Int32) (w1 : Int32) (w10 : Int32) (w12 : Int32) (w13 : Int32) (w14 : Int32) (w15 : Int32) (w16 : Int64) (w17 : Int32) (w18 : Int32) (w23 : Int32) (w24 : Int64) (w25 : Int64) (w26 : Int64) (q1 : Nat → Int64) (u1 : Nat → Int64) (im1 : Nat → Int64) (ik1 : Nat → Int32), (f1 h0 = .inr (12, [.int w0, .int w1, .ref (gr g h0 2), .ref (gr g h0 3), .ref (gr g h0 4), .ref (gr g h0 5), .ref (gr g h0 6), .ref (gr g h0 7), .ref (gr g h0 8), .ref (gr g h0 9), .int w10, .ref (gr g h0 11), .int w12, .int w13, .int w14, .int w15, .long w16, .int w17, .int w18, .ref (gr g h0 19), .ref (gr g h0 20), .ref (gr g h0 21), .ref (gr g h0 22), .int w23, .long w24, .long w25, .long w26])) ∧ (0 ≤ w10.toInt ∧ w10.toInt ≤ 10) ∧ (0 ≤ w12.toInt ∧ w12.toInt ≤ 200) ∧ (0 ≤ w23.toInt ∧ w23.toInt ≤ 8) ∧ (f1 (gr g h0 4) = .inl (gc g 1, 906, .inr (.inl q1))) ∧ (RowOK q1) ∧ (f1 (gr g h0 5) = .inl (gc g 1, 9060, .inr (.inl u1))) ∧ (f1 (gr g h0 7) = .inl (gc g 1, 1812, .inr (.inl im1))) ∧ (f1 (gr g h0 8) = .inl (gc g 3, 2, .inl ik1)) ∧ (UIq w10 u1 im1 ik1)) A) 0 0 A := by
  refine Met.ofW (cc := cX12_ticks) (maxL := 4) (ret := (some .int)) (by decide) rfl ?_
  intro p e s m args below meth c s₁ B hml hv
  obtain ⟨rfl, hI, hK, hE⟩ := hv
  have hx := B.exec
  have hb := B.bytes
  have hr := B.returns
  have hts := atoms_spec (ws := wq_c_X12_ticks) B.pre
  have hown : s.vm.findClass RX12 = some m.cls := findClass_of_methodNamed B.named
  have hlocks := B.notSynchronized
  have hS : va_S A s.heap s.heap [] := va_S.rf
  have hk0 : Kp g [12, 30, 32, 33, 37] f f := Kp.rf
  have hl := lv_entry ([.ref h0, .int p1]) (n := 4) (Nat.le_of_ble_eq_true rfl)
  rw [lg_entry_eq]
  generalize (lg_sl ([.ref h0, .int p1]) ++ List.replicate (4 - (lg_sl ([.ref h0, .int p1])).length) Slot.unset).toArray = ls at hl ⊢
  have hl : lv_has ls 4 [(0, .ref h0), (1, .int p1)] := hl
  have i_1 := kw_12_4 hG i_h0
  have d_2 := rk_hd hc1_ok
  have i_3 := kw_12_5 hG i_h0
  have i_4 := kw_12_7 hG i_h0
  have i_5 := kw_12_8 hG i_h0
  refine lv_aload_n hx hb dX12_ticks_0 rfl (lv_at hl 0 rfl) ?_
  refine lv_iconst (v := 0) hx hb dX12_ticks_1 (by decide) ?_
  refine k_put (ci := 12) (v := .int 0) (ty := .int) (C := RX12) (T := TX12) (N := 27) hx hb hts (fun _ h0_ => List.mem_cons_of_mem _ (List.mem_append_right _ (List.mem_append_left _ h0_))) tyX12 tyX12_ok nmX12 hown hK hI hS i_h0.1 hc0 rfl 0 (by decide) (hts (.fieldLink RX12 67 "DeadlineShareModel" "thrown" "I") (List.mem_cons_of_mem _ (List.mem_append_left _ (List.mem_of_getElem? (i := 0) rfl)))) (fun _ h9 => h9) rfl (by decide +kernel) rfl rfl (Nat.le_of_ble_eq_true rfl) rfl (cl_12 i_h0 (by omega) (by omega) (by omega)) dX12_ticks_2 (fun f_6 H locs e_7 hI hS => ?_)
  have k_9 : f_6 h0 = .inr (12, [.int 0, .int z1, .ref (gr g h0 2), .ref (gr g h0 3), .ref (gr g h0 4), .ref (gr g h0 5), .ref (gr g h0 6), .ref (gr g h0 7), .ref (gr g h0 8), .ref (gr g h0 9), .int z10, .ref (gr g h0 11), .int z12, .int z13, .int z14, .int z15, .long z16, .int z17, .int z18, .ref (gr g h0 19), .ref (gr g h0 20), .ref (gr g h0 21), .ref (gr g h0 22), .int z23, .long z24, .long z25, .long z26]) := by rw [e_7]; exact va_up_self _ _ _
  have k_10 : f_6 (gr g h0 4) = .inl (gc g 1, 906, .inr (.inl q)) := by rw [e_7, va_up_ne _ _ (ik_ne i_1 i_h0 (by decide))]; exact hc1
  have k_11 : f_6 (gr g h0 5) = .inl (gc g 1, 9060, .inr (.inl u)) := by rw [e_7, va_up_ne _ _ (ik_ne i_3 i_h0 (by decide))]; exact hc2
  have k_12 : f_6 (gr g h0 7) = .inl (gc g 1, 1812, .inr (.inl im)) := by rw [e_7, va_up_ne _ _ (ik_ne i_4 i_h0 (by decide))]; exact hc3
  have k_13 : f_6 (gr g h0 8) = .inl (gc g 3, 2, .inl kt) := by rw [e_7, va_up_ne _ _ (ik_ne i_5 i_h0 (by decide))]; exact hc4
  have kp_8 := Kp.put hk0 i_h0 (by decide) e_7
  refine lv_iload_n hx hb dX12_ticks_5 rfl (lv_at hl 1 rfl) ?_
  refine lv_i2l (v := p1.toInt64) hx hb dX12_ticks_6 rfl ?_
  have t_14 := Int32.toInt_toInt64 p1
  have g_15 := Int32.toInt_lt p1
  have g_16 := Int32.le_toInt p1
  refine lv_lconst (v := 1) hx hb dX12_ticks_7 (by decide) ?_
  refine lv_ldc2 hx hb hown (hts (.constantLong RX12 172 (60)) (List.mem_cons_of_mem _ (List.mem_append_left _ (List.mem_of_getElem? (i := 1) rfl)))) dX12_ticks_8 ?_
  refine va_calli (va_runS (As := [.long p1.toInt64, .long 1, .long 60]) (rest := []) ⟨hx, hb, hml, hown, hts⟩ (c_X12_in l dC dI g A hG f_6 p1.toInt64 1 60) (va_cwS 3 hts (gi_S (fun w_ h0_ => ⟨List.mem_cons_of_mem _ (List.mem_append_right _ (List.mem_append_right _ (List.mem_append_left _ h0_))), (tb_c_X12_in w_ h0_).2⟩) (List.mem_cons_of_mem _ (List.mem_append_left _ (List.mem_of_getElem? (i := 2) rfl))) (List.mem_cons_of_mem _ (List.mem_append_left _ (List.mem_of_getElem? (i := 3) rfl))) (List.mem_cons_of_mem _ (List.mem_append_left _ (List.mem_of_getElem? (i := 4) rfl)))) rfl rfl rfl (by decide +kernel) ⟨Nat.le_of_ble_eq_true rfl, Nat.le_of_ble_eq_true rfl⟩) ⟨fun a U g mk q => ⟨q.1, q.2.calling rfl rfl⟩, fun U hU hW => ⟨rfl, kIn.of hI hK hE hS hU hW⟩⟩ rfl rfl hl.1 rfl (lv_room (Nat.le_of_ble_eq_true rfl)) dX12_ticks_11 ⟨Nat.le_of_ble_eq_true rfl, Nat.le_of_ble_eq_true rfl⟩) hS (fun q _ h => h) (fun q h => h) (fun r_18 u9 t H1 locs ht hvm w_17 hB hz1 hk1 hS => ?_)
  have hI : Iv dC dI g A f_6 t.heap := hB
  rw [ht] at hI
  generalize H1 = H at hI hS ⊢
  refine W.widen (k := 0) (n := 0) (Nat.le_of_ble_eq_true rfl) (Nat.le_of_ble_eq_true rfl) ?_
  have w_17 : (r_18.toInt = 0 ∧ (p1.toInt64.toInt < (1 : Int64).toInt ∨ (60 : Int64).toInt < p1.toInt64.toInt)) ∨ (r_18.toInt = 1 ∧ (1 : Int64).toInt ≤ p1.toInt64.toInt ∧ p1.toInt64.toInt ≤ (60 : Int64).toInt) := w_17
  have g_19 : Int64.toInt (1) = 1 := by decide
  have g_20 : Int64.toInt (60) = 60 := by decide
  refine lv_if_ne (tgt := 23) hx hb dX12_ticks_14 (by decide) (fun c_21 => ?_) (fun c_21 => ?_)
  · have c_21 := kn_eq rfl (by decide : Int32.toInt 0 = 0) c_21
    refine lv_aload_n hx hb dX12_ticks_23 rfl (lv_at hl 0 rfl) ?_
    refine k_get (ci := 12) (v := .ref (gr g h0 4)) (C := RX12) (T := TX12) (N := 27) hx hb hts (fun _ h0_ => List.mem_cons_of_mem _ (List.mem_append_right _ (List.mem_append_left _ h0_))) hown hK hI i_h0.1 k_9 rfl 4 (by decide) (hts (.fieldLink RX12 16 "DeadlineShareModel" "row" "[J") (List.mem_cons_of_mem _ (List.mem_append_left _ (List.mem_of_getElem? (i := 5) rfl)))) (fun _ h9 => h9) rfl dX12_ticks_24 ?_
    refine lv_iconst (v := 1) hx hb dX12_ticks_27 (by decide) ?_
    refine k_lald hx hb hK hI i_1.1 1 k_10 rfl (by unfold vp_in; decide) dX12_ticks_28 ?_
    refine k_topl (y := q 1) (congrArg q (show Int32.toNatClampNeg 1 = 1 by decide)) ?_
    refine lv_iload_n hx hb dX12_ticks_29 rfl (lv_at hl 1 rfl) ?_
    refine lv_i2l (v := p1.toInt64) hx hb dX12_ticks_30 rfl ?_
    have t_24 := Int32.toInt_toInt64 p1
    have g_25 := Int32.toInt_lt p1
    have g_26 := Int32.le_toInt p1
    refine lv_ladd hx hb dX12_ticks_31 ?_
    refine lv_topl (fun v_27 ev_27 => ?_)
    have tv_27 := l_ad (q 1) p1.toInt64
    rw [← ev_27] at tv_27
    refine lv_ldc2 hx hb hown (hts (.constantLong RX12 286 (9999)) (List.mem_cons_of_mem _ (List.mem_append_left _ (List.mem_of_getElem? (i := 6) rfl)))) dX12_ticks_32 ?_
    refine W.lcmp hx hb dX12_ticks_35 ?_
    refine lv_if_le (tgt := 46) hx hb dX12_ticks_36 (by decide) (fun c_28 => ?_) (fun c_28 => ?_)
    · have c_28 := lc_le rfl (by decide : Int64.toInt 9999 = 9999) ((lg_cmp_le _ _).mp c_28)
      refine lv_aload_n hx hb dX12_ticks_46 rfl (lv_at hl 0 rfl) ?_
      refine lv_bipush (v := 6) hx hb dX12_ticks_47 (by decide) ?_
      refine va_callv (va_runV (As := [.int 6]) (rest := []) ⟨hx, hb, hml, hown, hts⟩ (c_X12_remember l dC dI g A hG f_6 h0 6 0 z1 z10 z12 z13 z14 z15 z16 z17 z18 z23 z24 z25 z26 q u im kt i_h0 k_9 (by first | omega | (simp only [k_c0]; omega)) (by first | omega | (simp only [k_c0]; omega)) (by first | omega | (simp only [k_c0]; omega)) k_10 hc1_ok k_11 k_12 k_13 (by first | omega | decide | (simp only [show Int32.toInt 6 = 6 from by decide] <;> omega))) (cwV 1 hts (gi_V (fun w_ h0_ => ⟨List.mem_cons_of_mem _ (List.mem_append_right _ (List.mem_append_right _ (List.mem_append_right _ (List.mem_append_left _ h0_)))), (tb_c_X12_remember w_ h0_).2⟩) (List.mem_cons_of_mem _ (List.mem_append_left _ (List.mem_of_getElem? (i := 7) rfl))) (List.mem_cons_of_mem _ (List.mem_append_left _ (List.mem_of_getElem? (i := 8) rfl))) (List.mem_cons_of_mem _ (List.mem_append_left _ (List.mem_of_getElem? (i := 9) rfl))) (List.mem_cons_of_mem _ (List.mem_append_left _ (List.mem_of_getElem? (i := 4) rfl)))) rfl rfl rfl (by decide +kernel) ⟨Nat.le_of_ble_eq_true rfl, Nat.le_of_ble_eq_true rfl⟩) ⟨fun a U g mk q => ⟨q.1, q.2.calling rfl rfl⟩, k_recv hK hI i_h0.1 k_9 (ci := 12) rfl, fun U hU hW => ⟨rfl, kIn.of hI hK hE hS hU hW⟩⟩ rfl rfl hl.1 rfl (lv_room (Nat.le_of_ble_eq_true rfl)) dX12_ticks_49 ⟨Nat.le_of_ble_eq_true rfl, Nat.le_of_ble_eq_true rfl⟩) hS (fun q _ h => h) (fun q h => h) (fun u9 t H1 locs ht hvm _ hB hz1 hk1 hS => ?_)
      obtain ⟨f_29, hI, kc_31, w10_32, u1_33, k_34, z_35, k_36, z_37⟩ := hB
      rw [ht] at hI
      have k_38 : f_29 (gr g h0 4) = .inl (gc g 1, 906, .inr (.inl q)) := Kp.at kc_31 i_1 (by decide) k_10
      have k_39 : f_29 (gr g h0 7) = .inl (gc g 1, 1812, .inr (.inl im)) := Kp.at kc_31 i_4 (by decide) k_12
      have k_40 : f_29 (gr g h0 8) = .inl (gc g 3, 2, .inl kt) := Kp.at kc_31 i_5 (by decide) k_13
      have k_34 : f_29 h0 = .inr (12, [.int (0 : Int32), .int z1, .ref (gr g h0 2), .ref (gr g h0 3), .ref (gr g h0 4), .ref (gr g h0 5), .ref (gr g h0 6), .ref (gr g h0 7), .ref (gr g h0 8), .ref (gr g h0 9), .int w10_32, .ref (gr g h0 11), .int z12, .int z13, .int z14, .int z15, .long z16, .int z17, .int z18, .ref (gr g h0 19), .ref (gr g h0 20), .ref (gr g h0 21), .ref (gr g h0 22), .int z23, .long z24, .long z25, .long z26]) := k_34
      have z_35 : 0 ≤ w10_32.toInt ∧ w10_32.toInt ≤ 10 := z_35
      have z_37 : UIq w10_32 u1_33 im kt := z_37
      have kp_41 := Kp.call kp_8 kc_31 (by decide)
      generalize H1 = H at hI hS ⊢
      refine W.widen (k := 0) (n := 0) (Nat.le_of_ble_eq_true rfl) (Nat.le_of_ble_eq_true rfl) ?_
      refine lv_iconst (v := 0) hx hb dX12_ticks_52 (by decide) ?_
      refine lv_istore_n (lv' := [(2, .int 0), (0, .ref h0), (1, .int p1)]) hx hb dX12_ticks_53 rfl hl (by decide) rfl (fun ls hl => ?_)
      refine lv_iconst (v := 0) hx hb dX12_ticks_54 (by decide) ?_
      refine lv_istore_n (lv' := [(3, .int 0), (2, .int 0), (0, .ref h0), (1, .int p1)]) hx hb dX12_ticks_55 rfl hl (by decide) rfl (fun ls hl => ?_)
      have K_56 : ∀ (nn : Nat) (y_42 : Int32) (y_43 : Int32) (q_45 : Nat → Int64) (y_48 : Int64) (f_44 : Nat → va_E) (H : Heap) (locs : List Loc) (ls : Array Slot), (p1.toInt - y_42.toInt).toNat < nn → Iv dC dI g A f_44 H → va_S A s.heap H locs → f_44 (gr g h0 4) = .inl (gc g 1, 906, .inr (.inl q_45)) → RowOK q_45 → f_44 h0 = .inr (12, [.int (0 : Int32), .int z1, .ref (gr g h0 2), .ref (gr g h0 3), .ref (gr g h0 4), .ref (gr g h0 5), .ref (gr g h0 6), .ref (gr g h0 7), .ref (gr g h0 8), .ref (gr g h0 9), .int w10_32, .ref (gr g h0 11), .int z12, .int z13, .int z14, .int z15, .long z16, .int z17, .int z18, .ref (gr g h0 19), .ref (gr g h0 20), .ref (gr g h0 21), .ref (gr g h0 22), .int z23, .long y_48, .long z25, .long z26]) → f_44 (gr g h0 7) = .inl (gc g 1, 1812, .inr (.inl im)) → f_44 (gr g h0 8) = .inl (gc g 3, 2, .inl kt) → f_44 (gr g h0 5) = .inl (gc g 1, 9060, .inr (.inl u1_33)) → Kp g [12, 30, 32, 33, 37] f f_44 → ((q_45 0).toInt = (q 0).toInt) → ((q_45 1).toInt = (q 1).toInt + y_42.toInt) → (0 ≤ y_42.toInt) → lv_has ls 4 [(3, .int y_42), (2, .int y_43), (0, .ref h0), (1, .int p1)] → W p l e (headSpec wq_c_X12_ticks ({ frames := 8, cells := 0, slots := 0, locals := 187 } : Room)).room s m ([.ref h0, .int p1].toArray) below meth c H locs 0 0 (MQ below (va_Qi (fun (r : Int32) (_ : Unit) => True) (fun (_ : Unit) t => ∃ f1 : Nat → va_E, Iv dC dI g A f1 t.heap ∧ Kp g [12, 30, 32, 33, 37] f f1 ∧ ∃ (w0 : Int32) (w1 : Int32) (w10 : Int32) (w12 : Int32) (w13 : Int32) (w14 : Int32) (w15 : Int32) (w16 : Int64) (w17 : Int32) (w18 : Int32) (w23 : Int32) (w24 : Int64) (w25 : Int64) (w26 : Int64) (q1 : Nat → Int64) (u1 : Nat → Int64) (im1 : Nat → Int64) (ik1 : Nat → Int32), (f1 h0 = .inr (12, [.int w0, .int w1, .ref (gr g h0 2), .ref (gr g h0 3), .ref (gr g h0 4), .ref (gr g h0 5), .ref (gr g h0 6), .ref (gr g h0 7), .ref (gr g h0 8), .ref (gr g h0 9), .int w10, .ref (gr g h0 11), .int w12, .int w13, .int w14, .int w15, .long w16, .int w17, .int w18, .ref (gr g h0 19), .ref (gr g h0 20), .ref (gr g h0 21), .ref (gr g h0 22), .int w23, .long w24, .long w25, .long w26])) ∧ (0 ≤ w10.toInt ∧ w10.toInt ≤ 10) ∧ (0 ≤ w12.toInt ∧ w12.toInt ≤ 200) ∧ (0 ≤ w23.toInt ∧ w23.toInt ≤ 8) ∧ (f1 (gr g h0 4) = .inl (gc g 1, 906, .inr (.inl q1))) ∧ (RowOK q1) ∧ (f1 (gr g h0 5) = .inl (gc g 1, 9060, .inr (.inl u1))) ∧ (f1 (gr g h0 7) = .inl (gc g 1, 1812, .inr (.inl im1))) ∧ (f1 (gr g h0 8) = .inl (gc g 3, 2, .inl ik1)) ∧ (UIq w10 u1 im1 ik1)) A) ([.ref h0, .int p1].toArray) s 0 0 A) (F0 m 56 ls []) := by
        intro nn
        induction nn with
        | zero => intro y_42 y_43 q_45 y_48 f_44 H locs ls m_57; exact absurd m_57 (Nat.not_lt_zero _)
        | succ nn ih =>
          intro y_42 y_43 q_45 y_48 f_44 H locs ls m_57 hI hS k_46 ok_47 k_49 k_50 k_51 k_52 kp_53 t_54 t_55 t_56 hl
          have g_58 := Int32.toInt_lt p1
          have g_59 := Int32.le_toInt p1
          have g_60 := Int32.toInt_lt y_42
          have g_61 := Int32.le_toInt y_42
          have d_62 := rk_hd ok_47
          refine lv_iload_n hx hb dX12_ticks_56 rfl (lv_at hl 0 rfl) ?_
          refine lv_iload_n hx hb dX12_ticks_57 rfl (lv_at hl 3 rfl) ?_
          refine lv_icmp_ge (tgt := 84) hx hb dX12_ticks_58 (by decide) (fun c_63 => ?_) (fun c_63 => ?_)
          · have c_63 := kc_le rfl rfl c_63
            refine lv_aload_n hx hb dX12_ticks_84 rfl (lv_at hl 2 rfl) ?_
            refine lv_iload_n hx hb dX12_ticks_85 rfl (lv_at hl 1 rfl) ?_
            refine va_calli (va_runV (As := [.int y_43]) (rest := []) ⟨hx, hb, hml, hown, hts⟩ (c_X12_tell l dC dI g A hG f_44 h0 y_43 (0 : Int32) z1 w10_32 z12 z13 z14 z15 z16 z17 z18 z23 y_48 z25 z26 i_h0 k_49 (by first | omega | (simp only [k_c0]; omega)) (by first | omega | (simp only [k_c0]; omega)) (by first | omega | (simp only [k_c0]; omega))) (cwV 1 hts (gi_V (fun w_ h0_ => ⟨List.mem_cons_of_mem _ (List.mem_append_right _ (List.mem_append_right _ (List.mem_append_right _ (List.mem_append_right _ (List.mem_append_left _ h0_))))), (tb_c_X12_tell w_ h0_).2⟩) (List.mem_cons_of_mem _ (List.mem_append_left _ (List.mem_of_getElem? (i := 10) rfl))) (List.mem_cons_of_mem _ (List.mem_append_left _ (List.mem_of_getElem? (i := 11) rfl))) (List.mem_cons_of_mem _ (List.mem_append_left _ (List.mem_of_getElem? (i := 12) rfl))) (List.mem_cons_of_mem _ (List.mem_append_left _ (List.mem_of_getElem? (i := 4) rfl)))) rfl rfl rfl (by decide +kernel) ⟨Nat.le_of_ble_eq_true rfl, Nat.le_of_ble_eq_true rfl⟩) ⟨fun a U g mk q => ⟨q.1, q.2.calling rfl rfl⟩, k_recv hK hI i_h0.1 k_49 (ci := 12) rfl, fun U hU hW => ⟨rfl, kIn.of hI hK hE hS hU hW⟩⟩ rfl rfl hl.1 rfl (lv_room (Nat.le_of_ble_eq_true rfl)) dX12_ticks_86 ⟨Nat.le_of_ble_eq_true rfl, Nat.le_of_ble_eq_true rfl⟩) hS (fun q _ h => h) (fun q h => h) (fun r_66 u9 t H1 locs ht hvm w_65 hB hz1 hk1 hS => ?_)
            obtain ⟨f_64, hI, kc_67, k_68⟩ := hB
            rw [ht] at hI
            have k_69 : f_64 (gr g h0 4) = .inl (gc g 1, 906, .inr (.inl q_45)) := Kp.at kc_67 i_1 (by decide) k_46
            have k_70 : f_64 (gr g h0 7) = .inl (gc g 1, 1812, .inr (.inl im)) := Kp.at kc_67 i_4 (by decide) k_50
            have k_71 : f_64 (gr g h0 8) = .inl (gc g 3, 2, .inl kt) := Kp.at kc_67 i_5 (by decide) k_51
            have k_72 : f_64 (gr g h0 5) = .inl (gc g 1, 9060, .inr (.inl u1_33)) := Kp.at kc_67 i_3 (by decide) k_52
            have k_68 : f_64 h0 = .inr (12, [.int (0 : Int32), .int 0, .ref (gr g h0 2), .ref (gr g h0 3), .ref (gr g h0 4), .ref (gr g h0 5), .ref (gr g h0 6), .ref (gr g h0 7), .ref (gr g h0 8), .ref (gr g h0 9), .int w10_32, .ref (gr g h0 11), .int z12, .int z13, .int z14, .int z15, .long z16, .int z17, .int z18, .ref (gr g h0 19), .ref (gr g h0 20), .ref (gr g h0 21), .ref (gr g h0 22), .int z23, .long y_48, .long z25, .long z26]) := k_68
            have kp_73 := Kp.call kp_53 kc_67 (by decide)
            generalize H1 = H at hI hS ⊢
            refine W.widen (k := 0) (n := 0) (Nat.le_of_ble_eq_true rfl) (Nat.le_of_ble_eq_true rfl) ?_
            have w_65 : r_66.toInt = y_43.toInt := w_65
            exact W.iret (v := r_66) hx hb hr (fun t ht hW => ⟨⟨r_66, (), rfl, trivial, ⟨f_64, k_ret ht hI, kp_73, (0 : Int32), 0, w10_32, z12, z13, z14, z15, z16, z17, z18, z23, y_48, z25, z26, q_45, u1_33, im, kt, k_68, (by first | omega | decide), (by first | omega | decide), (by first | omega | decide), k_69, ok_47, k_72, k_70, k_71, z_37⟩⟩, hS.F ht⟩) hS.2.2 dX12_ticks_89
          · have c_63 := kn_le rfl rfl c_63
            refine lv_iload_n hx hb dX12_ticks_61 rfl (lv_at hl 1 rfl) ?_
            refine lv_aload_n hx hb dX12_ticks_62 rfl (lv_at hl 2 rfl) ?_
            refine lv_iconst (v := 0) hx hb dX12_ticks_63 (by decide) ?_
            refine va_calli (va_runV (As := [.int 0]) (rest := [.int y_43]) ⟨hx, hb, hml, hown, hts⟩ (c_X12_tick l dC dI g A hG f_44 h0 0 (0 : Int32) z1 w10_32 z12 z13 z14 z15 z16 z17 z18 z23 y_48 z25 z26 q_45 i_h0 k_49 (by first | omega | (simp only [k_c0]; omega)) (by first | omega | (simp only [k_c0]; omega)) (by first | omega | (simp only [k_c0]; omega)) k_46 ok_47 (by first | omega | decide | (simp only [show Int32.toInt 0 = 0 from by decide] <;> omega))) (cwV 1 hts (gi_V (fun w_ h0_ => ⟨List.mem_cons_of_mem _ (List.mem_append_right _ (List.mem_append_right _ (List.mem_append_right _ (List.mem_append_right _ (List.mem_append_right _ (List.mem_append_left _ h0_)))))), (tb_c_X12_tick w_ h0_).2⟩) (List.mem_cons_of_mem _ (List.mem_append_left _ (List.mem_of_getElem? (i := 13) rfl))) (List.mem_cons_of_mem _ (List.mem_append_left _ (List.mem_of_getElem? (i := 14) rfl))) (List.mem_cons_of_mem _ (List.mem_append_left _ (List.mem_of_getElem? (i := 15) rfl))) (List.mem_cons_of_mem _ (List.mem_append_left _ (List.mem_of_getElem? (i := 4) rfl)))) rfl rfl rfl (by decide +kernel) ⟨Nat.le_of_ble_eq_true rfl, Nat.le_of_ble_eq_true rfl⟩) ⟨fun a U g mk q => ⟨q.1, q.2.calling rfl rfl⟩, k_recv hK hI i_h0.1 k_49 (ci := 12) rfl, fun U hU hW => ⟨rfl, kIn.of hI hK hE hS hU hW⟩⟩ rfl rfl hl.1 rfl (lv_room (Nat.le_of_ble_eq_true rfl)) dX12_ticks_64 ⟨Nat.le_of_ble_eq_true rfl, Nat.le_of_ble_eq_true rfl⟩) hS (fun q _ h => h) (fun q h => h) (fun r_76 u9 t H1 locs ht hvm w_75 hB hz1 hk1 hS => ?_)
            obtain ⟨f_74, hI, kc_77, w24_78, q1_79, k_80, k_81, z_82, z_83, z_84⟩ := hB
            rw [ht] at hI
            have k_85 : f_74 (gr g h0 7) = .inl (gc g 1, 1812, .inr (.inl im)) := Kp.at kc_77 i_4 (by decide) k_50
            have k_86 : f_74 (gr g h0 8) = .inl (gc g 3, 2, .inl kt) := Kp.at kc_77 i_5 (by decide) k_51
            have k_87 : f_74 (gr g h0 5) = .inl (gc g 1, 9060, .inr (.inl u1_33)) := Kp.at kc_77 i_3 (by decide) k_52
            have k_80 : f_74 h0 = .inr (12, [.int (0 : Int32), .int z1, .ref (gr g h0 2), .ref (gr g h0 3), .ref (gr g h0 4), .ref (gr g h0 5), .ref (gr g h0 6), .ref (gr g h0 7), .ref (gr g h0 8), .ref (gr g h0 9), .int w10_32, .ref (gr g h0 11), .int z12, .int z13, .int z14, .int z15, .long z16, .int z17, .int z18, .ref (gr g h0 19), .ref (gr g h0 20), .ref (gr g h0 21), .ref (gr g h0 22), .int z23, .long w24_78, .long z25, .long z26]) := k_80
            have z_82 : RowOK q1_79 := z_82
            have d_88 := rk_hd z_82
            have z_83 : (q1_79 0).toInt = (q_45 0).toInt := z_83
            have z_84 : (q1_79 1).toInt = (q_45 1).toInt + 1 := z_84
            have kp_89 := Kp.call kp_53 kc_77 (by decide)
            generalize H1 = H at hI hS ⊢
            refine W.widen (k := 0) (n := 0) (Nat.le_of_ble_eq_true rfl) (Nat.le_of_ble_eq_true rfl) ?_
            have w_75 : -1 ≤ r_76.toInt ∧ r_76.toInt < (q_45 0).toInt := w_75
            have g_90 : Int32.toInt (0) = 0 := by decide
            refine lv_iconst (v := (-1)) hx hb dX12_ticks_67 (by decide) ?_
            have J_76 : ∀ (y_91 : Int32) (H : Heap) (locs : List Loc) (ls : Array Slot), Iv dC dI g A f_74 H → va_S A s.heap H locs → lv_has ls 4 [(3, .int y_42), (2, .int y_43), (0, .ref h0), (1, .int p1)] → W p l e (headSpec wq_c_X12_ticks ({ frames := 8, cells := 0, slots := 0, locals := 187 } : Room)).room s m ([.ref h0, .int p1].toArray) below meth c H locs 0 0 (MQ below (va_Qi (fun (r : Int32) (_ : Unit) => True) (fun (_ : Unit) t => ∃ f1 : Nat → va_E, Iv dC dI g A f1 t.heap ∧ Kp g [12, 30, 32, 33, 37] f f1 ∧ ∃ (w0 : Int32) (w1 : Int32) (w10 : Int32) (w12 : Int32) (w13 : Int32) (w14 : Int32) (w15 : Int32) (w16 : Int64) (w17 : Int32) (w18 : Int32) (w23 : Int32) (w24 : Int64) (w25 : Int64) (w26 : Int64) (q1 : Nat → Int64) (u1 : Nat → Int64) (im1 : Nat → Int64) (ik1 : Nat → Int32), (f1 h0 = .inr (12, [.int w0, .int w1, .ref (gr g h0 2), .ref (gr g h0 3), .ref (gr g h0 4), .ref (gr g h0 5), .ref (gr g h0 6), .ref (gr g h0 7), .ref (gr g h0 8), .ref (gr g h0 9), .int w10, .ref (gr g h0 11), .int w12, .int w13, .int w14, .int w15, .long w16, .int w17, .int w18, .ref (gr g h0 19), .ref (gr g h0 20), .ref (gr g h0 21), .ref (gr g h0 22), .int w23, .long w24, .long w25, .long w26])) ∧ (0 ≤ w10.toInt ∧ w10.toInt ≤ 10) ∧ (0 ≤ w12.toInt ∧ w12.toInt ≤ 200) ∧ (0 ≤ w23.toInt ∧ w23.toInt ≤ 8) ∧ (f1 (gr g h0 4) = .inl (gc g 1, 906, .inr (.inl q1))) ∧ (RowOK q1) ∧ (f1 (gr g h0 5) = .inl (gc g 1, 9060, .inr (.inl u1))) ∧ (f1 (gr g h0 7) = .inl (gc g 1, 1812, .inr (.inl im1))) ∧ (f1 (gr g h0 8) = .inl (gc g 3, 2, .inl ik1)) ∧ (UIq w10 u1 im1 ik1)) A) ([.ref h0, .int p1].toArray) s 0 0 A) (F0 m 76 ls [.int y_91, .int y_43]) := by
              intro y_91 H locs ls hI hS  hl
              refine lv_iadd hx hb dX12_ticks_76 ?_
              refine lv_topi (fun v_92 ev_92 => ?_)
              have tv_92 := k_ad y_43 y_91
              rw [← ev_92] at tv_92
              refine lv_istore_n (lv' := [(2, .int v_92), (3, .int y_42), (0, .ref h0), (1, .int p1)]) hx hb dX12_ticks_77 rfl hl (by decide) rfl (fun ls hl => ?_)
              obtain ⟨v_93, ev_93⟩ : ∃ y : Int32, y = y_42 + Int32.ofInt 1 := ⟨_, rfl⟩
              refine lv_iinc (v := v_93) (lv' := [(3, .int v_93), (2, .int v_92), (0, .ref h0), (1, .int p1)]) hx hb dX12_ticks_78 hl (k := 1) rfl ev_93.symm (by decide) rfl (fun ls hl => ?_)
              have tv_93 := k_inc y_42
              rw [← ev_93] at tv_93
              refine lv_goto (tgt := 56) hx hb dX12_ticks_81 (by decide) ?_
              exact ih v_93 v_92 q1_79 w24_78 f_74 _ _ _ (by omega) hI hS k_81 z_82 k_80 k_85 k_86 k_87 kp_89 (by first | omega | decide | exact Or.inl (by decide)) (by first | omega | decide | exact Or.inl (by decide)) (by first | omega | decide | exact Or.inl (by decide)) (lv_sub hl [0, 1, 2, 3] rfl)
            refine lv_icmp_ne (tgt := 75) hx hb dX12_ticks_68 (by decide) (fun c_94 => ?_) (fun c_94 => ?_)
            · have c_94 := kn_eq rfl (by decide : Int32.toInt (-1) = (-1)) c_94
              refine lv_iconst (v := 1) hx hb dX12_ticks_75 (by decide) ?_
              exact J_76 1 _ _ _ hI hS  (lv_sub hl [0, 1, 2, 3] rfl)
            · have c_94 := kc_eq rfl (by decide : Int32.toInt (-1) = (-1)) c_94
              refine lv_iconst (v := 0) hx hb dX12_ticks_71 (by decide) ?_
              refine lv_goto (tgt := 76) hx hb dX12_ticks_72 (by decide) ?_
              exact J_76 0 _ _ _ hI hS  (lv_sub hl [0, 1, 2, 3] rfl)
      exact K_56 _ 0 0 q z24 f_29 _ _ _ (Nat.lt_succ_self _) hI hS k_38 hc1_ok k_34 k_39 k_40 k_36 kp_41 (by first | omega | decide | exact Or.inl (by decide) | (simp only [show Int32.toInt 0 = 0 from by decide, show Int32.toInt 0 = 0 from by decide] <;> omega)) (by first | omega | decide | exact Or.inl (by decide) | (simp only [show Int32.toInt 0 = 0 from by decide, show Int32.toInt 0 = 0 from by decide] <;> omega)) (by first | omega | decide | exact Or.inl (by decide) | (simp only [show Int32.toInt 0 = 0 from by decide, show Int32.toInt 0 = 0 from by decide] <;> omega)) (lv_sub hl [0, 1, 2, 3] rfl)
    · have c_28 := ln_le rfl (by decide : Int64.toInt 9999 = 9999) (fun h9 => c_28 ((lg_cmp_le _ _).mpr h9))
      refine lv_aload_n hx hb dX12_ticks_39 rfl (lv_at hl 0 rfl) ?_
      refine lv_bipush (v := (-4)) hx hb dX12_ticks_40 (by decide) ?_
      refine va_calli (va_runV (As := [.int (-4)]) (rest := []) ⟨hx, hb, hml, hown, hts⟩ (c_X12_refuse l dC dI g A hG f_6 h0 (-4) 0 z1 z10 z12 z13 z14 z15 z16 z17 z18 z23 z24 z25 z26 i_h0 k_9 (by first | omega | (simp only [k_c0]; omega)) (by first | omega | (simp only [k_c0]; omega)) (by first | omega | (simp only [k_c0]; omega)) (by first | omega | decide | (simp only [show Int32.toInt (-4) = (-4) from by decide] <;> omega))) (cwV 1 hts (gi_V (fun w_ h0_ => ⟨List.mem_cons_of_mem _ (List.mem_append_right _ (List.mem_append_right _ (List.mem_append_right _ (List.mem_append_right _ (List.mem_append_right _ (List.mem_append_right _ (List.mem_append_left _ h0_))))))), (tb_c_X12_refuse w_ h0_).2⟩) (List.mem_cons_of_mem _ (List.mem_append_left _ (List.mem_of_getElem? (i := 16) rfl))) (List.mem_cons_of_mem _ (List.mem_append_left _ (List.mem_of_getElem? (i := 17) rfl))) (List.mem_cons_of_mem _ (List.mem_append_left _ (List.mem_of_getElem? (i := 18) rfl))) (List.mem_cons_of_mem _ (List.mem_append_left _ (List.mem_of_getElem? (i := 4) rfl)))) rfl rfl rfl (by decide +kernel) ⟨Nat.le_of_ble_eq_true rfl, Nat.le_of_ble_eq_true rfl⟩) ⟨fun a U g mk q => ⟨q.1, q.2.calling rfl rfl⟩, k_recv hK hI i_h0.1 k_9 (ci := 12) rfl, fun U hU hW => ⟨rfl, kIn.of hI hK hE hS hU hW⟩⟩ rfl rfl hl.1 rfl (lv_room (Nat.le_of_ble_eq_true rfl)) dX12_ticks_42 ⟨Nat.le_of_ble_eq_true rfl, Nat.le_of_ble_eq_true rfl⟩) hS (fun q _ h => h) (fun q h => h) (fun r_97 u9 t H1 locs ht hvm w_96 hB hz1 hk1 hS => ?_)
      obtain ⟨f_95, hI, kc_98, k_99⟩ := hB
      rw [ht] at hI
      have k_100 : f_95 (gr g h0 4) = .inl (gc g 1, 906, .inr (.inl q)) := Kp.at kc_98 i_1 (by decide) k_10
      have k_101 : f_95 (gr g h0 5) = .inl (gc g 1, 9060, .inr (.inl u)) := Kp.at kc_98 i_3 (by decide) k_11
      have k_102 : f_95 (gr g h0 7) = .inl (gc g 1, 1812, .inr (.inl im)) := Kp.at kc_98 i_4 (by decide) k_12
      have k_103 : f_95 (gr g h0 8) = .inl (gc g 3, 2, .inl kt) := Kp.at kc_98 i_5 (by decide) k_13
      have k_99 : f_95 h0 = .inr (12, [.int (0 : Int32), .int (-4 : Int32), .ref (gr g h0 2), .ref (gr g h0 3), .ref (gr g h0 4), .ref (gr g h0 5), .ref (gr g h0 6), .ref (gr g h0 7), .ref (gr g h0 8), .ref (gr g h0 9), .int z10, .ref (gr g h0 11), .int z12, .int z13, .int z14, .int z15, .long z16, .int z17, .int z18, .ref (gr g h0 19), .ref (gr g h0 20), .ref (gr g h0 21), .ref (gr g h0 22), .int z23, .long z24, .long z25, .long z26]) := k_99
      have kp_104 := Kp.call kp_8 kc_98 (by decide)
      generalize H1 = H at hI hS ⊢
      refine W.widen (k := 0) (n := 0) (Nat.le_of_ble_eq_true rfl) (Nat.le_of_ble_eq_true rfl) ?_
      have w_96 : r_97.toInt = (-4 : Int32).toInt := w_96
      have g_105 : Int32.toInt ((-4)) = (-4) := by decide
      exact W.iret (v := r_97) hx hb hr (fun t ht hW => ⟨⟨r_97, (), rfl, trivial, ⟨f_95, k_ret ht hI, kp_104, (0 : Int32), (-4 : Int32), z10, z12, z13, z14, z15, z16, z17, z18, z23, z24, z25, z26, q, u, im, kt, k_99, (by first | omega | decide), (by first | omega | decide), (by first | omega | decide), k_100, hc1_ok, k_101, k_102, k_103, hU⟩⟩, hS.F ht⟩) hS.2.2 dX12_ticks_45
  · have c_21 := kc_eq rfl (by decide : Int32.toInt 0 = 0) c_21
    refine lv_aload_n hx hb dX12_ticks_17 rfl (lv_at hl 0 rfl) ?_
    refine lv_iconst (v := (-1)) hx hb dX12_ticks_18 (by decide) ?_
    refine va_calli (va_runV (As := [.int (-1)]) (rest := []) ⟨hx, hb, hml, hown, hts⟩ (c_X12_refuse l dC dI g A hG f_6 h0 (-1) 0 z1 z10 z12 z13 z14 z15 z16 z17 z18 z23 z24 z25 z26 i_h0 k_9 (by first | omega | (simp only [k_c0]; omega)) (by first | omega | (simp only [k_c0]; omega)) (by first | omega | (simp only [k_c0]; omega)) (by first | omega | decide | (simp only [show Int32.toInt (-1) = (-1) from by decide] <;> omega))) (cwV 1 hts (gi_V (fun w_ h0_ => ⟨List.mem_cons_of_mem _ (List.mem_append_right _ (List.mem_append_right _ (List.mem_append_right _ (List.mem_append_right _ (List.mem_append_right _ (List.mem_append_right _ (List.mem_append_left _ h0_))))))), (tb_c_X12_refuse w_ h0_).2⟩) (List.mem_cons_of_mem _ (List.mem_append_left _ (List.mem_of_getElem? (i := 16) rfl))) (List.mem_cons_of_mem _ (List.mem_append_left _ (List.mem_of_getElem? (i := 17) rfl))) (List.mem_cons_of_mem _ (List.mem_append_left _ (List.mem_of_getElem? (i := 18) rfl))) (List.mem_cons_of_mem _ (List.mem_append_left _ (List.mem_of_getElem? (i := 4) rfl)))) rfl rfl rfl (by decide +kernel) ⟨Nat.le_of_ble_eq_true rfl, Nat.le_of_ble_eq_true rfl⟩) ⟨fun a U g mk q => ⟨q.1, q.2.calling rfl rfl⟩, k_recv hK hI i_h0.1 k_9 (ci := 12) rfl, fun U hU hW => ⟨rfl, kIn.of hI hK hE hS hU hW⟩⟩ rfl rfl hl.1 rfl (lv_room (Nat.le_of_ble_eq_true rfl)) dX12_ticks_19 ⟨Nat.le_of_ble_eq_true rfl, Nat.le_of_ble_eq_true rfl⟩) hS (fun q _ h => h) (fun q h => h) (fun r_108 u9 t H1 locs ht hvm w_107 hB hz1 hk1 hS => ?_)
    obtain ⟨f_106, hI, kc_109, k_110⟩ := hB
    rw [ht] at hI
    have k_111 : f_106 (gr g h0 4) = .inl (gc g 1, 906, .inr (.inl q)) := Kp.at kc_109 i_1 (by decide) k_10
    have k_112 : f_106 (gr g h0 5) = .inl (gc g 1, 9060, .inr (.inl u)) := Kp.at kc_109 i_3 (by decide) k_11
    have k_113 : f_106 (gr g h0 7) = .inl (gc g 1, 1812, .inr (.inl im)) := Kp.at kc_109 i_4 (by decide) k_12
    have k_114 : f_106 (gr g h0 8) = .inl (gc g 3, 2, .inl kt) := Kp.at kc_109 i_5 (by decide) k_13
    have k_110 : f_106 h0 = .inr (12, [.int (0 : Int32), .int (-1 : Int32), .ref (gr g h0 2), .ref (gr g h0 3), .ref (gr g h0 4), .ref (gr g h0 5), .ref (gr g h0 6), .ref (gr g h0 7), .ref (gr g h0 8), .ref (gr g h0 9), .int z10, .ref (gr g h0 11), .int z12, .int z13, .int z14, .int z15, .long z16, .int z17, .int z18, .ref (gr g h0 19), .ref (gr g h0 20), .ref (gr g h0 21), .ref (gr g h0 22), .int z23, .long z24, .long z25, .long z26]) := k_110
    have kp_115 := Kp.call kp_8 kc_109 (by decide)
    generalize H1 = H at hI hS ⊢
    refine W.widen (k := 0) (n := 0) (Nat.le_of_ble_eq_true rfl) (Nat.le_of_ble_eq_true rfl) ?_
    have w_107 : r_108.toInt = (-1 : Int32).toInt := w_107
    have g_116 : Int32.toInt ((-1)) = (-1) := by decide
    exact W.iret (v := r_108) hx hb hr (fun t ht hW => ⟨⟨r_108, (), rfl, trivial, ⟨f_106, k_ret ht hI, kp_115, (0 : Int32), (-1 : Int32), z10, z12, z13, z14, z15, z16, z17, z18, z23, z24, z25, z26, q, u, im, kt, k_110, (by first | omega | decide), (by first | omega | decide), (by first | omega | decide), k_111, hc1_ok, k_112, k_113, k_114, hU⟩⟩, hS.F ht⟩) hS.2.2 dX12_ticks_22
theorem tw_988 : q_g (.code yX12_ahead cX12_ahead 4 (some .int)) := ⟨(List.mem_append_right _ (List.mem_of_getElem? (i := 1503) (by decide +kernel))), good_of_word (by decide +kernel)⟩
def ow_c_X12_ahead : List Cond := [.fieldLink RX12 67 "DeadlineShareModel" "thrown" "I", .constantLong RX12 172 (60), .methodLink RX12 83 yX12_in, .static yX12_in, .initialized RX12, .fieldLink RX12 16 "DeadlineShareModel" "row" "[J", .constantLong RX12 286 (9999), .methodLink RX12 310 yX12_begin, .instanceMethod yX12_begin, .selects RX12 yX12_begin yX12_begin, .methodLink RX12 313 yX12_over, .instanceMethod yX12_over, .selects RX12 yX12_over yX12_over, .methodLink RX12 288 yX12_tick, .instanceMethod yX12_tick, .selects RX12 yX12_tick yX12_tick]
def wq_c_X12_ahead : List Cond := .code yX12_ahead cX12_ahead 4 (some .int) :: (ow_c_X12_ahead ++ (u_ws RX12 TX12 27 ++ (wq_c_X12_in ++ (wq_c_X12_begin ++ (wq_c_X12_over ++ (wq_c_X12_tick ++ ([] : List Cond)))))))
theorem tb_c_X12_ahead : ∀ w ∈ wq_c_X12_ahead, q_g w := by
  unfold wq_c_X12_ahead ow_c_X12_ahead
  exact q_cons tw_988 (q_app (q_cons tw_927 (q_cons tw_986 (q_cons tw_730 (q_cons tw_729 (q_cons tw_728 (q_cons tw_731 (q_cons tw_985 (q_cons tw_925 (q_cons tw_924 (q_cons tw_923 (q_cons tw_922 (q_cons tw_921 (q_cons tw_920 (q_cons tw_919 (q_cons tw_918 (q_cons tw_917 q_nil)))))))))))))))) (q_app tu_X12 (q_app tb_c_X12_in (q_app tb_c_X12_begin (q_app tb_c_X12_over (q_app tb_c_X12_tick q_nil))))))
set_option maxHeartbeats 4000000 in
set_option maxRecDepth 100000 in
theorem c_X12_ahead (l : Launch) (dC : Nat → ClassId) (dI : Nat → Nat → Nat) (g : kG) (A : Nat → Prop) (hG : kWf g) (f : Nat → va_E) (h0 : Nat) (p1 : Int32) (z0 : Int32) (z1 : Int32) (z10 : Int32) (z12 : Int32) (z13 : Int32) (z14 : Int32) (z15 : Int32) (z16 : Int64) (z17 : Int32) (z18 : Int32) (z23 : Int32) (z24 : Int64) (z25 : Int64) (z26 : Int64) (q : Nat → Int64) (u : Nat → Int64) (im : Nat → Int64) (kt : Nat → Int32) (pp : Nat → Int64) (i_h0 : ik g 12 h0) (hc0 : f h0 = .inr (12, [.int z0, .int z1, .ref (gr g h0 2), .ref (gr g h0 3), .ref (gr g h0 4), .ref (gr g h0 5), .ref (gr g h0 6), .ref (gr g h0 7), .ref (gr g h0 8), .ref (gr g h0 9), .int z10, .ref (gr g h0 11), .int z12, .int z13, .int z14, .int z15, .long z16, .int z17, .int z18, .ref (gr g h0 19), .ref (gr g h0 20), .ref (gr g h0 21), .ref (gr g h0 22), .int z23, .long z24, .long z25, .long z26])) (hc0_10 : 0 ≤ z10.toInt ∧ z10.toInt ≤ 10) (hc0_12 : 0 ≤ z12.toInt ∧ z12.toInt ≤ 200) (hc0_23 : 0 ≤ z23.toInt ∧ z23.toInt ≤ 8) (hc1 : f (gr g h0 4) = .inl (gc g 1, 906, .inr (.inl q))) (hc1_ok : RowOK q) (hc2 : f (gr g h0 5) = .inl (gc g 1, 9060, .inr (.inl u))) (hc3 : f (gr g h0 7) = .inl (gc g 1, 1812, .inr (.inl im))) (hc4 : f (gr g h0 8) = .inl (gc g 3, 2, .inl kt)) (hc5 : f (gr g h0 6) = .inl (gc g 1, 906, .inr (.inl pp))) (hU : UIq z10 u im kt) : Met l yX12_ahead wq_c_X12_ahead ({ frames := 8, cells := 0, slots := 0, locals := 187 } : Room) (va_Pc [.ref h0, .int p1] (fun U => kIn dC dI g A f U)) (va_Qi (fun (r : Int32) (_ : Unit) => True) (fun (_ : Unit) t => ∃ f1 : Nat → va_E, Iv dC dI g A f1 t.heap ∧ Kp g [12, 32, 34] f f1 ∧ ∃ (w0 : Int32) (w1 : Int32) (w10 : Int32) (w12 : Int32) (w13 : Int32) (w14 : Int32) (w15 : Int32) (w16 : Int64) (w17 : Int32) (w18 : Int32) (w23 : Int32) (w24 : Int64) (w25 : Int64) (w26 : Int64) (q1 : Nat → Int64) (u1 : Nat → Int64) (im1 : Nat → Int64) (ik1 : Nat → Int32), (f1 h0 = .inr (12, [.int w0, .int w1, .ref (gr g h0 2), .ref (gr g h0 3), .ref (gr g h0 4), .ref (gr g h0 5), .ref (gr g h0 6), .ref (gr g h0 7), .ref (gr g h0 8), .ref (gr g h0 9), .int w10, .ref (gr g h0 11), .int w12, .int w13, .int w14, .int w15, .long w16, .int w17, .int w18, .ref (gr g h0 19), .ref (gr g h0 20), .ref (gr g h0 21), .ref (gr g h0 22), .int w23, .long w24, .long w25, .long w26])) ∧ (0 ≤ w10.toInt ∧ w10.toInt ≤ 10) ∧ (0 ≤ w12.toInt ∧ w12.toInt ≤ 200) ∧ (0 ≤ w23.toInt ∧ w23.toInt ≤ 8) ∧ (f1 (gr g h0 4) = .inl (gc g 1, 906, .inr (.inl q1))) ∧ (RowOK q1) ∧ (f1 (gr g h0 5) = .inl (gc g 1, 9060, .inr (.inl u1))) ∧ (f1 (gr g h0 7) = .inl (gc g 1, 1812, .inr (.inl im1))) ∧ (f1 (gr g h0 8) = .inl (gc g 3, 2, .inl ik1)) ∧ (UIq w10 u1 im1 ik1)) A) 0 0 A := by
  refine Met.ofW (cc := cX12_ahead) (maxL := 4) (ret := (some .int)) (by decide) rfl ?_
  intro p e s m args below meth c s₁ B hml hv
  obtain ⟨rfl, hI, hK, hE⟩ := hv
  have hx := B.exec
  have hb := B.bytes
  have hr := B.returns
  have hts := atoms_spec (ws := wq_c_X12_ahead) B.pre
  have hown : s.vm.findClass RX12 = some m.cls := findClass_of_methodNamed B.named
  have hlocks := B.notSynchronized
  have hS : va_S A s.heap s.heap [] := va_S.rf
  have hk0 : Kp g [12, 32, 34] f f := Kp.rf
  have hl := lv_entry ([.ref h0, .int p1]) (n := 4) (Nat.le_of_ble_eq_true rfl)
  rw [lg_entry_eq]
  generalize (lg_sl ([.ref h0, .int p1]) ++ List.replicate (4 - (lg_sl ([.ref h0, .int p1])).length) Slot.unset).toArray = ls at hl ⊢
  have hl : lv_has ls 4 [(0, .ref h0), (1, .int p1)] := hl
  have i_1 := kw_12_4 hG i_h0
  have d_2 := rk_hd hc1_ok
  have i_3 := kw_12_5 hG i_h0
  have i_4 := kw_12_7 hG i_h0
  have i_5 := kw_12_8 hG i_h0
  have i_6 := kw_12_6 hG i_h0
  refine lv_aload_n hx hb dX12_ahead_0 rfl (lv_at hl 0 rfl) ?_
  refine lv_iconst (v := 0) hx hb dX12_ahead_1 (by decide) ?_
  refine k_put (ci := 12) (v := .int 0) (ty := .int) (C := RX12) (T := TX12) (N := 27) hx hb hts (fun _ h0_ => List.mem_cons_of_mem _ (List.mem_append_right _ (List.mem_append_left _ h0_))) tyX12 tyX12_ok nmX12 hown hK hI hS i_h0.1 hc0 rfl 0 (by decide) (hts (.fieldLink RX12 67 "DeadlineShareModel" "thrown" "I") (List.mem_cons_of_mem _ (List.mem_append_left _ (List.mem_of_getElem? (i := 0) rfl)))) (fun _ h9 => h9) rfl (by decide +kernel) rfl rfl (Nat.le_of_ble_eq_true rfl) rfl (cl_12 i_h0 (by omega) (by omega) (by omega)) dX12_ahead_2 (fun f_7 H locs e_8 hI hS => ?_)
  have k_10 : f_7 h0 = .inr (12, [.int 0, .int z1, .ref (gr g h0 2), .ref (gr g h0 3), .ref (gr g h0 4), .ref (gr g h0 5), .ref (gr g h0 6), .ref (gr g h0 7), .ref (gr g h0 8), .ref (gr g h0 9), .int z10, .ref (gr g h0 11), .int z12, .int z13, .int z14, .int z15, .long z16, .int z17, .int z18, .ref (gr g h0 19), .ref (gr g h0 20), .ref (gr g h0 21), .ref (gr g h0 22), .int z23, .long z24, .long z25, .long z26]) := by rw [e_8]; exact va_up_self _ _ _
  have k_11 : f_7 (gr g h0 4) = .inl (gc g 1, 906, .inr (.inl q)) := by rw [e_8, va_up_ne _ _ (ik_ne i_1 i_h0 (by decide))]; exact hc1
  have k_12 : f_7 (gr g h0 5) = .inl (gc g 1, 9060, .inr (.inl u)) := by rw [e_8, va_up_ne _ _ (ik_ne i_3 i_h0 (by decide))]; exact hc2
  have k_13 : f_7 (gr g h0 7) = .inl (gc g 1, 1812, .inr (.inl im)) := by rw [e_8, va_up_ne _ _ (ik_ne i_4 i_h0 (by decide))]; exact hc3
  have k_14 : f_7 (gr g h0 8) = .inl (gc g 3, 2, .inl kt) := by rw [e_8, va_up_ne _ _ (ik_ne i_5 i_h0 (by decide))]; exact hc4
  have k_15 : f_7 (gr g h0 6) = .inl (gc g 1, 906, .inr (.inl pp)) := by rw [e_8, va_up_ne _ _ (ik_ne i_6 i_h0 (by decide))]; exact hc5
  have kp_9 := Kp.put hk0 i_h0 (by decide) e_8
  refine lv_iload_n hx hb dX12_ahead_5 rfl (lv_at hl 1 rfl) ?_
  refine lv_i2l (v := p1.toInt64) hx hb dX12_ahead_6 rfl ?_
  have t_16 := Int32.toInt_toInt64 p1
  have g_17 := Int32.toInt_lt p1
  have g_18 := Int32.le_toInt p1
  refine lv_lconst (v := 1) hx hb dX12_ahead_7 (by decide) ?_
  refine lv_ldc2 hx hb hown (hts (.constantLong RX12 172 (60)) (List.mem_cons_of_mem _ (List.mem_append_left _ (List.mem_of_getElem? (i := 1) rfl)))) dX12_ahead_8 ?_
  refine va_calli (va_runS (As := [.long p1.toInt64, .long 1, .long 60]) (rest := []) ⟨hx, hb, hml, hown, hts⟩ (c_X12_in l dC dI g A hG f_7 p1.toInt64 1 60) (va_cwS 3 hts (gi_S (fun w_ h0_ => ⟨List.mem_cons_of_mem _ (List.mem_append_right _ (List.mem_append_right _ (List.mem_append_left _ h0_))), (tb_c_X12_in w_ h0_).2⟩) (List.mem_cons_of_mem _ (List.mem_append_left _ (List.mem_of_getElem? (i := 2) rfl))) (List.mem_cons_of_mem _ (List.mem_append_left _ (List.mem_of_getElem? (i := 3) rfl))) (List.mem_cons_of_mem _ (List.mem_append_left _ (List.mem_of_getElem? (i := 4) rfl)))) rfl rfl rfl (by decide +kernel) ⟨Nat.le_of_ble_eq_true rfl, Nat.le_of_ble_eq_true rfl⟩) ⟨fun a U g mk q => ⟨q.1, q.2.calling rfl rfl⟩, fun U hU hW => ⟨rfl, kIn.of hI hK hE hS hU hW⟩⟩ rfl rfl hl.1 rfl (lv_room (Nat.le_of_ble_eq_true rfl)) dX12_ahead_11 ⟨Nat.le_of_ble_eq_true rfl, Nat.le_of_ble_eq_true rfl⟩) hS (fun q _ h => h) (fun q h => h) (fun r_20 u9 t H1 locs ht hvm w_19 hB hz1 hk1 hS => ?_)
  have hI : Iv dC dI g A f_7 t.heap := hB
  rw [ht] at hI
  generalize H1 = H at hI hS ⊢
  refine W.widen (k := 0) (n := 0) (Nat.le_of_ble_eq_true rfl) (Nat.le_of_ble_eq_true rfl) ?_
  have w_19 : (r_20.toInt = 0 ∧ (p1.toInt64.toInt < (1 : Int64).toInt ∨ (60 : Int64).toInt < p1.toInt64.toInt)) ∨ (r_20.toInt = 1 ∧ (1 : Int64).toInt ≤ p1.toInt64.toInt ∧ p1.toInt64.toInt ≤ (60 : Int64).toInt) := w_19
  have g_21 : Int64.toInt (1) = 1 := by decide
  have g_22 : Int64.toInt (60) = 60 := by decide
  refine lv_if_eq (tgt := 33) hx hb dX12_ahead_14 (by decide) (fun c_23 => ?_) (fun c_23 => ?_)
  · have c_23 := kc_eq rfl (by decide : Int32.toInt 0 = 0) c_23
    refine lv_iconst (v := (-1)) hx hb dX12_ahead_33 (by decide) ?_
    exact W.iret (v := (-1)) hx hb hr (fun t ht hW => ⟨⟨(-1), (), rfl, trivial, ⟨f_7, k_ret ht hI, kp_9, 0, z1, z10, z12, z13, z14, z15, z16, z17, z18, z23, z24, z25, z26, q, u, im, kt, k_10, (by first | omega | decide), (by first | omega | decide), (by first | omega | decide), k_11, hc1_ok, k_12, k_13, k_14, hU⟩⟩, hS.F ht⟩) hS.2.2 dX12_ahead_34
  · have c_23 := kn_eq rfl (by decide : Int32.toInt 0 = 0) c_23
    refine lv_aload_n hx hb dX12_ahead_17 rfl (lv_at hl 0 rfl) ?_
    refine k_get (ci := 12) (v := .ref (gr g h0 4)) (C := RX12) (T := TX12) (N := 27) hx hb hts (fun _ h0_ => List.mem_cons_of_mem _ (List.mem_append_right _ (List.mem_append_left _ h0_))) hown hK hI i_h0.1 k_10 rfl 4 (by decide) (hts (.fieldLink RX12 16 "DeadlineShareModel" "row" "[J") (List.mem_cons_of_mem _ (List.mem_append_left _ (List.mem_of_getElem? (i := 5) rfl)))) (fun _ h9 => h9) rfl dX12_ahead_18 ?_
    refine lv_iconst (v := 1) hx hb dX12_ahead_21 (by decide) ?_
    refine k_lald hx hb hK hI i_1.1 1 k_11 rfl (by unfold vp_in; decide) dX12_ahead_22 ?_
    refine k_topl (y := q 1) (congrArg q (show Int32.toNatClampNeg 1 = 1 by decide)) ?_
    refine lv_iload_n hx hb dX12_ahead_23 rfl (lv_at hl 1 rfl) ?_
    refine lv_i2l (v := p1.toInt64) hx hb dX12_ahead_24 rfl ?_
    have t_26 := Int32.toInt_toInt64 p1
    have g_27 := Int32.toInt_lt p1
    have g_28 := Int32.le_toInt p1
    refine lv_ladd hx hb dX12_ahead_25 ?_
    refine lv_topl (fun v_29 ev_29 => ?_)
    have tv_29 := l_ad (q 1) p1.toInt64
    rw [← ev_29] at tv_29
    refine lv_ldc2 hx hb hown (hts (.constantLong RX12 286 (9999)) (List.mem_cons_of_mem _ (List.mem_append_left _ (List.mem_of_getElem? (i := 6) rfl)))) dX12_ahead_26 ?_
    refine W.lcmp hx hb dX12_ahead_29 ?_
    refine lv_if_le (tgt := 35) hx hb dX12_ahead_30 (by decide) (fun c_30 => ?_) (fun c_30 => ?_)
    · have c_30 := lc_le rfl (by decide : Int64.toInt 9999 = 9999) ((lg_cmp_le _ _).mp c_30)
      refine lv_aload_n hx hb dX12_ahead_35 rfl (lv_at hl 0 rfl) ?_
      refine va_callv (va_runV (As := []) (rest := []) ⟨hx, hb, hml, hown, hts⟩ (c_X12_begin l dC dI g A hG f_7 h0 q pp i_h0 k_11 hc1_ok k_15) (cwV 0 hts (gi_V (fun w_ h0_ => ⟨List.mem_cons_of_mem _ (List.mem_append_right _ (List.mem_append_right _ (List.mem_append_right _ (List.mem_append_left _ h0_)))), (tb_c_X12_begin w_ h0_).2⟩) (List.mem_cons_of_mem _ (List.mem_append_left _ (List.mem_of_getElem? (i := 7) rfl))) (List.mem_cons_of_mem _ (List.mem_append_left _ (List.mem_of_getElem? (i := 8) rfl))) (List.mem_cons_of_mem _ (List.mem_append_left _ (List.mem_of_getElem? (i := 9) rfl))) (List.mem_cons_of_mem _ (List.mem_append_left _ (List.mem_of_getElem? (i := 4) rfl)))) rfl rfl rfl (by decide +kernel) ⟨Nat.le_of_ble_eq_true rfl, Nat.le_of_ble_eq_true rfl⟩) ⟨fun a U g mk q => ⟨q.1, q.2.calling rfl rfl⟩, k_recv hK hI i_h0.1 k_10 (ci := 12) rfl, fun U hU hW => ⟨rfl, kIn.of hI hK hE hS hU hW⟩⟩ rfl rfl hl.1 rfl (lv_room (Nat.le_of_ble_eq_true rfl)) dX12_ahead_36 ⟨Nat.le_of_ble_eq_true rfl, Nat.le_of_ble_eq_true rfl⟩) hS (fun q _ h => h) (fun q h => h) (fun u9 t H1 locs ht hvm _ hB hz1 hk1 hS => ?_)
      obtain ⟨f_31, hI, kc_33, pp1_34, k_35, z_36, z_37, z_38⟩ := hB
      rw [ht] at hI
      have k_39 : f_31 h0 = .inr (12, [.int 0, .int z1, .ref (gr g h0 2), .ref (gr g h0 3), .ref (gr g h0 4), .ref (gr g h0 5), .ref (gr g h0 6), .ref (gr g h0 7), .ref (gr g h0 8), .ref (gr g h0 9), .int z10, .ref (gr g h0 11), .int z12, .int z13, .int z14, .int z15, .long z16, .int z17, .int z18, .ref (gr g h0 19), .ref (gr g h0 20), .ref (gr g h0 21), .ref (gr g h0 22), .int z23, .long z24, .long z25, .long z26]) := Kp.at kc_33 i_h0 (by decide) k_10
      have k_40 : f_31 (gr g h0 4) = .inl (gc g 1, 906, .inr (.inl q)) := Kp.at kc_33 i_1 (by decide) k_11
      have k_41 : f_31 (gr g h0 5) = .inl (gc g 1, 9060, .inr (.inl u)) := Kp.at kc_33 i_3 (by decide) k_12
      have k_42 : f_31 (gr g h0 7) = .inl (gc g 1, 1812, .inr (.inl im)) := Kp.at kc_33 i_4 (by decide) k_13
      have k_43 : f_31 (gr g h0 8) = .inl (gc g 3, 2, .inl kt) := Kp.at kc_33 i_5 (by decide) k_14
      have z_36 : RowOK pp1_34 := z_36
      have d_44 := rk_hd z_36
      have z_37 : (pp1_34 0).toInt = (q 0).toInt := z_37
      have z_38 : (pp1_34 1).toInt = (q 1).toInt := z_38
      have kp_45 := Kp.call kp_9 kc_33 (by decide)
      generalize H1 = H at hI hS ⊢
      refine W.widen (k := 0) (n := 0) (Nat.le_of_ble_eq_true rfl) (Nat.le_of_ble_eq_true rfl) ?_
      refine lv_iconst (v := (-1)) hx hb dX12_ahead_39 (by decide) ?_
      refine lv_istore_n (lv' := [(2, .int (-1)), (0, .ref h0), (1, .int p1)]) hx hb dX12_ahead_40 rfl hl (by decide) rfl (fun ls hl => ?_)
      refine lv_iconst (v := 0) hx hb dX12_ahead_41 (by decide) ?_
      refine lv_istore_n (lv' := [(3, .int 0), (2, .int (-1)), (0, .ref h0), (1, .int p1)]) hx hb dX12_ahead_42 rfl hl (by decide) rfl (fun ls hl => ?_)
      have K_43 : ∀ (nn : Nat) (y_46 : Int32) (y_47 : Int32) (q_49 : Nat → Int64) (y_52 : Int64) (f_48 : Nat → va_E) (H : Heap) (locs : List Loc) (ls : Array Slot), (p1.toInt - y_46.toInt).toNat < nn → Iv dC dI g A f_48 H → va_S A s.heap H locs → f_48 (gr g h0 4) = .inl (gc g 1, 906, .inr (.inl q_49)) → RowOK q_49 → f_48 h0 = .inr (12, [.int 0, .int z1, .ref (gr g h0 2), .ref (gr g h0 3), .ref (gr g h0 4), .ref (gr g h0 5), .ref (gr g h0 6), .ref (gr g h0 7), .ref (gr g h0 8), .ref (gr g h0 9), .int z10, .ref (gr g h0 11), .int z12, .int z13, .int z14, .int z15, .long z16, .int z17, .int z18, .ref (gr g h0 19), .ref (gr g h0 20), .ref (gr g h0 21), .ref (gr g h0 22), .int z23, .long y_52, .long z25, .long z26]) → f_48 (gr g h0 5) = .inl (gc g 1, 9060, .inr (.inl u)) → f_48 (gr g h0 7) = .inl (gc g 1, 1812, .inr (.inl im)) → f_48 (gr g h0 8) = .inl (gc g 3, 2, .inl kt) → f_48 (gr g h0 6) = .inl (gc g 1, 906, .inr (.inl pp1_34)) → Kp g [12, 32, 34] f f_48 → ((q_49 0).toInt = (q 0).toInt) → ((q_49 1).toInt = (q 1).toInt + y_46.toInt) → (0 ≤ y_46.toInt) → lv_has ls 4 [(3, .int y_46), (2, .int y_47), (0, .ref h0), (1, .int p1)] → W p l e (headSpec wq_c_X12_ahead ({ frames := 8, cells := 0, slots := 0, locals := 187 } : Room)).room s m ([.ref h0, .int p1].toArray) below meth c H locs 0 0 (MQ below (va_Qi (fun (r : Int32) (_ : Unit) => True) (fun (_ : Unit) t => ∃ f1 : Nat → va_E, Iv dC dI g A f1 t.heap ∧ Kp g [12, 32, 34] f f1 ∧ ∃ (w0 : Int32) (w1 : Int32) (w10 : Int32) (w12 : Int32) (w13 : Int32) (w14 : Int32) (w15 : Int32) (w16 : Int64) (w17 : Int32) (w18 : Int32) (w23 : Int32) (w24 : Int64) (w25 : Int64) (w26 : Int64) (q1 : Nat → Int64) (u1 : Nat → Int64) (im1 : Nat → Int64) (ik1 : Nat → Int32), (f1 h0 = .inr (12, [.int w0, .int w1, .ref (gr g h0 2), .ref (gr g h0 3), .ref (gr g h0 4), .ref (gr g h0 5), .ref (gr g h0 6), .ref (gr g h0 7), .ref (gr g h0 8), .ref (gr g h0 9), .int w10, .ref (gr g h0 11), .int w12, .int w13, .int w14, .int w15, .long w16, .int w17, .int w18, .ref (gr g h0 19), .ref (gr g h0 20), .ref (gr g h0 21), .ref (gr g h0 22), .int w23, .long w24, .long w25, .long w26])) ∧ (0 ≤ w10.toInt ∧ w10.toInt ≤ 10) ∧ (0 ≤ w12.toInt ∧ w12.toInt ≤ 200) ∧ (0 ≤ w23.toInt ∧ w23.toInt ≤ 8) ∧ (f1 (gr g h0 4) = .inl (gc g 1, 906, .inr (.inl q1))) ∧ (RowOK q1) ∧ (f1 (gr g h0 5) = .inl (gc g 1, 9060, .inr (.inl u1))) ∧ (f1 (gr g h0 7) = .inl (gc g 1, 1812, .inr (.inl im1))) ∧ (f1 (gr g h0 8) = .inl (gc g 3, 2, .inl ik1)) ∧ (UIq w10 u1 im1 ik1)) A) ([.ref h0, .int p1].toArray) s 0 0 A) (F0 m 43 ls []) := by
        intro nn
        induction nn with
        | zero => intro y_46 y_47 q_49 y_52 f_48 H locs ls m_62; exact absurd m_62 (Nat.not_lt_zero _)
        | succ nn ih =>
          intro y_46 y_47 q_49 y_52 f_48 H locs ls m_62 hI hS k_50 ok_51 k_53 k_54 k_55 k_56 k_57 kp_58 t_59 t_60 t_61 hl
          have g_63 := Int32.toInt_lt p1
          have g_64 := Int32.le_toInt p1
          have g_65 := Int32.toInt_lt y_46
          have g_66 := Int32.le_toInt y_46
          have d_67 := rk_hd ok_51
          refine lv_iload_n hx hb dX12_ahead_43 rfl (lv_at hl 0 rfl) ?_
          refine lv_iload_n hx hb dX12_ahead_44 rfl (lv_at hl 3 rfl) ?_
          refine lv_icmp_ge (tgt := 60) hx hb dX12_ahead_45 (by decide) (fun c_68 => ?_) (fun c_68 => ?_)
          · have c_68 := kc_le rfl rfl c_68
            refine lv_aload_n hx hb dX12_ahead_60 rfl (lv_at hl 2 rfl) ?_
            refine va_callv (va_runV (As := []) (rest := []) ⟨hx, hb, hml, hown, hts⟩ (c_X12_over l dC dI g A hG f_48 h0 q_49 pp1_34 i_h0 k_50 k_57 z_36) (cwV 0 hts (gi_V (fun w_ h0_ => ⟨List.mem_cons_of_mem _ (List.mem_append_right _ (List.mem_append_right _ (List.mem_append_right _ (List.mem_append_right _ (List.mem_append_left _ h0_))))), (tb_c_X12_over w_ h0_).2⟩) (List.mem_cons_of_mem _ (List.mem_append_left _ (List.mem_of_getElem? (i := 10) rfl))) (List.mem_cons_of_mem _ (List.mem_append_left _ (List.mem_of_getElem? (i := 11) rfl))) (List.mem_cons_of_mem _ (List.mem_append_left _ (List.mem_of_getElem? (i := 12) rfl))) (List.mem_cons_of_mem _ (List.mem_append_left _ (List.mem_of_getElem? (i := 4) rfl)))) rfl rfl rfl (by decide +kernel) ⟨Nat.le_of_ble_eq_true rfl, Nat.le_of_ble_eq_true rfl⟩) ⟨fun a U g mk q => ⟨q.1, q.2.calling rfl rfl⟩, k_recv hK hI i_h0.1 k_53 (ci := 12) rfl, fun U hU hW => ⟨rfl, kIn.of hI hK hE hS hU hW⟩⟩ rfl rfl hl.1 rfl (lv_room (Nat.le_of_ble_eq_true rfl)) dX12_ahead_61 ⟨Nat.le_of_ble_eq_true rfl, Nat.le_of_ble_eq_true rfl⟩) hS (fun q _ h => h) (fun q h => h) (fun u9 t H1 locs ht hvm _ hB hz1 hk1 hS => ?_)
            obtain ⟨f_69, hI, kc_71, q1_72, k_73, z_74, z_75, z_76⟩ := hB
            rw [ht] at hI
            have k_77 : f_69 h0 = .inr (12, [.int 0, .int z1, .ref (gr g h0 2), .ref (gr g h0 3), .ref (gr g h0 4), .ref (gr g h0 5), .ref (gr g h0 6), .ref (gr g h0 7), .ref (gr g h0 8), .ref (gr g h0 9), .int z10, .ref (gr g h0 11), .int z12, .int z13, .int z14, .int z15, .long z16, .int z17, .int z18, .ref (gr g h0 19), .ref (gr g h0 20), .ref (gr g h0 21), .ref (gr g h0 22), .int z23, .long y_52, .long z25, .long z26]) := Kp.at kc_71 i_h0 (by decide) k_53
            have k_78 : f_69 (gr g h0 5) = .inl (gc g 1, 9060, .inr (.inl u)) := Kp.at kc_71 i_3 (by decide) k_54
            have k_79 : f_69 (gr g h0 7) = .inl (gc g 1, 1812, .inr (.inl im)) := Kp.at kc_71 i_4 (by decide) k_55
            have k_80 : f_69 (gr g h0 8) = .inl (gc g 3, 2, .inl kt) := Kp.at kc_71 i_5 (by decide) k_56
            have k_81 : f_69 (gr g h0 6) = .inl (gc g 1, 906, .inr (.inl pp1_34)) := Kp.at kc_71 i_6 (by decide) k_57
            have z_74 : RowOK q1_72 := z_74
            have d_82 := rk_hd z_74
            have z_75 : (q1_72 0).toInt = (pp1_34 0).toInt := z_75
            have z_76 : (q1_72 1).toInt = (pp1_34 1).toInt := z_76
            have kp_83 := Kp.call kp_58 kc_71 (by decide)
            generalize H1 = H at hI hS ⊢
            refine W.widen (k := 0) (n := 0) (Nat.le_of_ble_eq_true rfl) (Nat.le_of_ble_eq_true rfl) ?_
            refine lv_iload_n hx hb dX12_ahead_64 rfl (lv_at hl 1 rfl) ?_
            exact W.iret (v := y_47) hx hb hr (fun t ht hW => ⟨⟨y_47, (), rfl, trivial, ⟨f_69, k_ret ht hI, kp_83, 0, z1, z10, z12, z13, z14, z15, z16, z17, z18, z23, y_52, z25, z26, q1_72, u, im, kt, k_77, (by first | omega | decide), (by first | omega | decide), (by first | omega | decide), k_73, z_74, k_78, k_79, k_80, hU⟩⟩, hS.F ht⟩) hS.2.2 dX12_ahead_65
          · have c_68 := kn_le rfl rfl c_68
            refine lv_aload_n hx hb dX12_ahead_48 rfl (lv_at hl 2 rfl) ?_
            refine lv_iconst (v := 0) hx hb dX12_ahead_49 (by decide) ?_
            refine va_calli (va_runV (As := [.int 0]) (rest := []) ⟨hx, hb, hml, hown, hts⟩ (c_X12_tick l dC dI g A hG f_48 h0 0 0 z1 z10 z12 z13 z14 z15 z16 z17 z18 z23 y_52 z25 z26 q_49 i_h0 k_53 (by first | omega | (simp only [k_c0]; omega)) (by first | omega | (simp only [k_c0]; omega)) (by first | omega | (simp only [k_c0]; omega)) k_50 ok_51 (by first | omega | decide | (simp only [show Int32.toInt 0 = 0 from by decide] <;> omega))) (cwV 1 hts (gi_V (fun w_ h0_ => ⟨List.mem_cons_of_mem _ (List.mem_append_right _ (List.mem_append_right _ (List.mem_append_right _ (List.mem_append_right _ (List.mem_append_right _ (List.mem_append_left _ h0_)))))), (tb_c_X12_tick w_ h0_).2⟩) (List.mem_cons_of_mem _ (List.mem_append_left _ (List.mem_of_getElem? (i := 13) rfl))) (List.mem_cons_of_mem _ (List.mem_append_left _ (List.mem_of_getElem? (i := 14) rfl))) (List.mem_cons_of_mem _ (List.mem_append_left _ (List.mem_of_getElem? (i := 15) rfl))) (List.mem_cons_of_mem _ (List.mem_append_left _ (List.mem_of_getElem? (i := 4) rfl)))) rfl rfl rfl (by decide +kernel) ⟨Nat.le_of_ble_eq_true rfl, Nat.le_of_ble_eq_true rfl⟩) ⟨fun a U g mk q => ⟨q.1, q.2.calling rfl rfl⟩, k_recv hK hI i_h0.1 k_53 (ci := 12) rfl, fun U hU hW => ⟨rfl, kIn.of hI hK hE hS hU hW⟩⟩ rfl rfl hl.1 rfl (lv_room (Nat.le_of_ble_eq_true rfl)) dX12_ahead_50 ⟨Nat.le_of_ble_eq_true rfl, Nat.le_of_ble_eq_true rfl⟩) hS (fun q _ h => h) (fun q h => h) (fun r_86 u9 t H1 locs ht hvm w_85 hB hz1 hk1 hS => ?_)
            obtain ⟨f_84, hI, kc_87, w24_88, q1_89, k_90, k_91, z_92, z_93, z_94⟩ := hB
            rw [ht] at hI
            have k_95 : f_84 (gr g h0 5) = .inl (gc g 1, 9060, .inr (.inl u)) := Kp.at kc_87 i_3 (by decide) k_54
            have k_96 : f_84 (gr g h0 7) = .inl (gc g 1, 1812, .inr (.inl im)) := Kp.at kc_87 i_4 (by decide) k_55
            have k_97 : f_84 (gr g h0 8) = .inl (gc g 3, 2, .inl kt) := Kp.at kc_87 i_5 (by decide) k_56
            have k_98 : f_84 (gr g h0 6) = .inl (gc g 1, 906, .inr (.inl pp1_34)) := Kp.at kc_87 i_6 (by decide) k_57
            have k_90 : f_84 h0 = .inr (12, [.int (0 : Int32), .int z1, .ref (gr g h0 2), .ref (gr g h0 3), .ref (gr g h0 4), .ref (gr g h0 5), .ref (gr g h0 6), .ref (gr g h0 7), .ref (gr g h0 8), .ref (gr g h0 9), .int z10, .ref (gr g h0 11), .int z12, .int z13, .int z14, .int z15, .long z16, .int z17, .int z18, .ref (gr g h0 19), .ref (gr g h0 20), .ref (gr g h0 21), .ref (gr g h0 22), .int z23, .long w24_88, .long z25, .long z26]) := k_90
            have z_92 : RowOK q1_89 := z_92
            have d_99 := rk_hd z_92
            have z_93 : (q1_89 0).toInt = (q_49 0).toInt := z_93
            have z_94 : (q1_89 1).toInt = (q_49 1).toInt + 1 := z_94
            have kp_100 := Kp.call kp_58 kc_87 (by decide)
            generalize H1 = H at hI hS ⊢
            refine W.widen (k := 0) (n := 0) (Nat.le_of_ble_eq_true rfl) (Nat.le_of_ble_eq_true rfl) ?_
            have w_85 : -1 ≤ r_86.toInt ∧ r_86.toInt < (q_49 0).toInt := w_85
            have g_101 : Int32.toInt (0) = 0 := by decide
            refine lv_istore_n (lv' := [(2, .int r_86), (3, .int y_46), (0, .ref h0), (1, .int p1)]) hx hb dX12_ahead_53 rfl hl (by decide) rfl (fun ls hl => ?_)
            obtain ⟨v_102, ev_102⟩ : ∃ y : Int32, y = y_46 + Int32.ofInt 1 := ⟨_, rfl⟩
            refine lv_iinc (v := v_102) (lv' := [(3, .int v_102), (2, .int r_86), (0, .ref h0), (1, .int p1)]) hx hb dX12_ahead_54 hl (k := 1) rfl ev_102.symm (by decide) rfl (fun ls hl => ?_)
            have tv_102 := k_inc y_46
            rw [← ev_102] at tv_102
            refine lv_goto (tgt := 43) hx hb dX12_ahead_57 (by decide) ?_
            exact ih v_102 r_86 q1_89 w24_88 f_84 _ _ _ (by omega) hI hS k_91 z_92 k_90 k_95 k_96 k_97 k_98 kp_100 (by first | omega | decide | exact Or.inl (by decide)) (by first | omega | decide | exact Or.inl (by decide)) (by first | omega | decide | exact Or.inl (by decide)) (lv_sub hl [0, 1, 2, 3] rfl)
      exact K_43 _ 0 (-1) q z24 f_31 _ _ _ (Nat.lt_succ_self _) hI hS k_40 hc1_ok k_39 k_41 k_42 k_43 k_35 kp_45 (by first | omega | decide | exact Or.inl (by decide) | (simp only [show Int32.toInt 0 = 0 from by decide, show Int32.toInt (-1) = (-1) from by decide] <;> omega)) (by first | omega | decide | exact Or.inl (by decide) | (simp only [show Int32.toInt 0 = 0 from by decide, show Int32.toInt (-1) = (-1) from by decide] <;> omega)) (by first | omega | decide | exact Or.inl (by decide) | (simp only [show Int32.toInt 0 = 0 from by decide, show Int32.toInt (-1) = (-1) from by decide] <;> omega)) (lv_sub hl [0, 1, 2, 3] rfl)
    · have c_30 := ln_le rfl (by decide : Int64.toInt 9999 = 9999) (fun h9 => c_30 ((lg_cmp_le _ _).mpr h9))
      refine lv_iconst (v := (-1)) hx hb dX12_ahead_33 (by decide) ?_
      exact W.iret (v := (-1)) hx hb hr (fun t ht hW => ⟨⟨(-1), (), rfl, trivial, ⟨f_7, k_ret ht hI, kp_9, 0, z1, z10, z12, z13, z14, z15, z16, z17, z18, z23, z24, z25, z26, q, u, im, kt, k_10, (by first | omega | decide), (by first | omega | decide), (by first | omega | decide), k_11, hc1_ok, k_12, k_13, k_14, hU⟩⟩, hS.F ht⟩) hS.2.2 dX12_ahead_34
