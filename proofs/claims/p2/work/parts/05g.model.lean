theorem tw_980 : q_g (.selects RX12 yX12_shareAt yX12_shareAt) := ⟨(List.mem_append_left _ (List.mem_of_getElem? (i := 61) (by decide +kernel))), good_of_word (by decide +kernel)⟩
theorem tw_981 : q_g (.instanceMethod yX12_shareAt) := ⟨(List.mem_append_right _ (List.mem_of_getElem? (i := 1493) (by decide +kernel))), good_of_word (by decide +kernel)⟩
theorem tw_982 : q_g (.methodLink RX12 306 yX12_shareAt) := ⟨(List.mem_append_right _ (List.mem_of_getElem? (i := 1491) (by decide +kernel))), good_of_word (by decide +kernel)⟩
theorem tw_983 : q_g (.code yX12_share cX12_share 8 (some .long)) := ⟨(List.mem_append_right _ (List.mem_of_getElem? (i := 1490) (by decide +kernel))), good_of_word (by decide +kernel)⟩
def ow_c_X12_share : List Cond := [.fieldLink RX12 67 "DeadlineShareModel" "thrown" "I", .methodLink RX12 142 yX12_isTask, .instanceMethod yX12_isTask, .selects RX12 yX12_isTask yX12_isTask, .initialized RX12, .constantLong RX12 291 (-9223372036854775808), .methodLink RX12 300 yX12_areKept, .instanceMethod yX12_areKept, .selects RX12 yX12_areKept yX12_areKept, .methodLink RX12 296 yX12_logAt, .instanceMethod yX12_logAt, .selects RX12 yX12_logAt yX12_logAt, .methodLink RX12 306 yX12_shareAt, .instanceMethod yX12_shareAt, .selects RX12 yX12_shareAt yX12_shareAt]
def wq_c_X12_share : List Cond := .code yX12_share cX12_share 8 (some .long) :: (ow_c_X12_share ++ (u_ws RX12 TX12 27 ++ (wq_c_X12_isTask ++ (wq_c_X12_areKept ++ (wq_c_X12_logAt ++ (wq_c_X12_shareAt ++ ([] : List Cond)))))))
theorem tb_c_X12_share : ∀ w ∈ wq_c_X12_share, q_g w := by
  unfold wq_c_X12_share ow_c_X12_share
  exact q_cons tw_983 (q_app (q_cons tw_927 (q_cons tw_951 (q_cons tw_950 (q_cons tw_949 (q_cons tw_728 (q_cons tw_953 (q_cons tw_978 (q_cons tw_977 (q_cons tw_976 (q_cons tw_913 (q_cons tw_912 (q_cons tw_911 (q_cons tw_982 (q_cons tw_981 (q_cons tw_980 q_nil))))))))))))))) (q_app tu_X12 (q_app tb_c_X12_isTask (q_app tb_c_X12_areKept (q_app tb_c_X12_logAt (q_app tb_c_X12_shareAt q_nil))))))
set_option maxHeartbeats 4000000 in
set_option maxRecDepth 100000 in
theorem c_X12_share (l : Launch) (dC : Nat → ClassId) (dI : Nat → Nat → Nat) (g : kG) (A : Nat → Prop) (hG : kWf g) (f : Nat → va_E) (h0 : Nat) (p1 : Int32) (p2 : Int32) (p3 : Int32) (z0 : Int32) (z1 : Int32) (z10 : Int32) (z12 : Int32) (z13 : Int32) (z14 : Int32) (z15 : Int32) (z16 : Int64) (z17 : Int32) (z18 : Int32) (z23 : Int32) (z24 : Int64) (z25 : Int64) (z26 : Int64) (q : Nat → Int64) (u : Nat → Int64) (im : Nat → Int64) (kt : Nat → Int32) (i_h0 : ik g 12 h0) (hc0 : f h0 = .inr (12, [.int z0, .int z1, .ref (gr g h0 2), .ref (gr g h0 3), .ref (gr g h0 4), .ref (gr g h0 5), .ref (gr g h0 6), .ref (gr g h0 7), .ref (gr g h0 8), .ref (gr g h0 9), .int z10, .ref (gr g h0 11), .int z12, .int z13, .int z14, .int z15, .long z16, .int z17, .int z18, .ref (gr g h0 19), .ref (gr g h0 20), .ref (gr g h0 21), .ref (gr g h0 22), .int z23, .long z24, .long z25, .long z26])) (hc0_10 : 0 ≤ z10.toInt ∧ z10.toInt ≤ 10) (hc0_12 : 0 ≤ z12.toInt ∧ z12.toInt ≤ 200) (hc0_23 : 0 ≤ z23.toInt ∧ z23.toInt ≤ 8) (hc1 : f (gr g h0 4) = .inl (gc g 1, 906, .inr (.inl q))) (hc1_ok : RowOK q) (hc2 : f (gr g h0 5) = .inl (gc g 1, 9060, .inr (.inl u))) (hc3 : f (gr g h0 7) = .inl (gc g 1, 1812, .inr (.inl im))) (hc4 : f (gr g h0 8) = .inl (gc g 3, 2, .inl kt)) (hU : UIq z10 u im kt) : Met l yX12_share wq_c_X12_share ({ frames := 3, cells := 0, slots := 0, locals := 71 } : Room) (va_Pc [.ref h0, .int p1, .int p2, .int p3] (fun U => kIn dC dI g A f U)) (va_Ql (fun (r : Int64) (_ : Unit) => True) (fun (_ : Unit) t => ∃ f1 : Nat → va_E, Iv dC dI g A f1 t.heap ∧ Kp g [12] f f1 ∧ ∃ (w0 : Int32) (w1 : Int32) (w10 : Int32) (w12 : Int32) (w13 : Int32) (w14 : Int32) (w15 : Int32) (w16 : Int64) (w17 : Int32) (w18 : Int32) (w23 : Int32) (w24 : Int64) (w25 : Int64) (w26 : Int64) (q1 : Nat → Int64) (u1 : Nat → Int64) (im1 : Nat → Int64) (ik1 : Nat → Int32), (f1 h0 = .inr (12, [.int w0, .int w1, .ref (gr g h0 2), .ref (gr g h0 3), .ref (gr g h0 4), .ref (gr g h0 5), .ref (gr g h0 6), .ref (gr g h0 7), .ref (gr g h0 8), .ref (gr g h0 9), .int w10, .ref (gr g h0 11), .int w12, .int w13, .int w14, .int w15, .long w16, .int w17, .int w18, .ref (gr g h0 19), .ref (gr g h0 20), .ref (gr g h0 21), .ref (gr g h0 22), .int w23, .long w24, .long w25, .long w26])) ∧ (0 ≤ w10.toInt ∧ w10.toInt ≤ 10) ∧ (0 ≤ w12.toInt ∧ w12.toInt ≤ 200) ∧ (0 ≤ w23.toInt ∧ w23.toInt ≤ 8) ∧ (f1 (gr g h0 4) = .inl (gc g 1, 906, .inr (.inl q1))) ∧ (RowOK q1) ∧ (f1 (gr g h0 5) = .inl (gc g 1, 9060, .inr (.inl u1))) ∧ (f1 (gr g h0 7) = .inl (gc g 1, 1812, .inr (.inl im1))) ∧ (f1 (gr g h0 8) = .inl (gc g 3, 2, .inl ik1)) ∧ (UIq w10 u1 im1 ik1)) A) 0 0 A := by
  refine Met.ofW (cc := cX12_share) (maxL := 8) (ret := (some .long)) (by decide) rfl ?_
  intro p e s m args below meth c s₁ B hml hv
  obtain ⟨rfl, hI, hK, hE⟩ := hv
  have hx := B.exec
  have hb := B.bytes
  have hr := B.returns
  have hts := atoms_spec (ws := wq_c_X12_share) B.pre
  have hown : s.vm.findClass RX12 = some m.cls := findClass_of_methodNamed B.named
  have hlocks := B.notSynchronized
  have hS : va_S A s.heap s.heap [] := va_S.rf
  have hk0 : Kp g [12] f f := Kp.rf
  have hl := lv_entry ([.ref h0, .int p1, .int p2, .int p3]) (n := 8) (Nat.le_of_ble_eq_true rfl)
  rw [lg_entry_eq]
  generalize (lg_sl ([.ref h0, .int p1, .int p2, .int p3]) ++ List.replicate (8 - (lg_sl ([.ref h0, .int p1, .int p2, .int p3])).length) Slot.unset).toArray = ls at hl ⊢
  have hl : lv_has ls 8 [(0, .ref h0), (1, .int p1), (2, .int p2), (3, .int p3)] := hl
  have i_1 := kw_12_4 hG i_h0
  have d_2 := rk_hd hc1_ok
  have i_3 := kw_12_5 hG i_h0
  have i_4 := kw_12_7 hG i_h0
  have i_5 := kw_12_8 hG i_h0
  refine lv_aload_n hx hb dX12_share_0 rfl (lv_at hl 0 rfl) ?_
  refine lv_iconst (v := 0) hx hb dX12_share_1 (by decide) ?_
  refine k_put (ci := 12) (v := .int 0) (ty := .int) (C := RX12) (T := TX12) (N := 27) hx hb hts (fun _ h0_ => List.mem_cons_of_mem _ (List.mem_append_right _ (List.mem_append_left _ h0_))) tyX12 tyX12_ok nmX12 hown hK hI hS i_h0.1 hc0 rfl 0 (by decide) (hts (.fieldLink RX12 67 "DeadlineShareModel" "thrown" "I") (List.mem_cons_of_mem _ (List.mem_append_left _ (List.mem_of_getElem? (i := 0) rfl)))) (fun _ h9 => h9) rfl (by decide +kernel) rfl rfl (Nat.le_of_ble_eq_true rfl) rfl (cl_12 i_h0 (by omega) (by omega) (by omega)) dX12_share_2 (fun f_6 H locs e_7 hI hS => ?_)
  have k_9 : f_6 h0 = .inr (12, [.int 0, .int z1, .ref (gr g h0 2), .ref (gr g h0 3), .ref (gr g h0 4), .ref (gr g h0 5), .ref (gr g h0 6), .ref (gr g h0 7), .ref (gr g h0 8), .ref (gr g h0 9), .int z10, .ref (gr g h0 11), .int z12, .int z13, .int z14, .int z15, .long z16, .int z17, .int z18, .ref (gr g h0 19), .ref (gr g h0 20), .ref (gr g h0 21), .ref (gr g h0 22), .int z23, .long z24, .long z25, .long z26]) := by rw [e_7]; exact va_up_self _ _ _
  have k_10 : f_6 (gr g h0 4) = .inl (gc g 1, 906, .inr (.inl q)) := by rw [e_7, va_up_ne _ _ (ik_ne i_1 i_h0 (by decide))]; exact hc1
  have k_11 : f_6 (gr g h0 5) = .inl (gc g 1, 9060, .inr (.inl u)) := by rw [e_7, va_up_ne _ _ (ik_ne i_3 i_h0 (by decide))]; exact hc2
  have k_12 : f_6 (gr g h0 7) = .inl (gc g 1, 1812, .inr (.inl im)) := by rw [e_7, va_up_ne _ _ (ik_ne i_4 i_h0 (by decide))]; exact hc3
  have k_13 : f_6 (gr g h0 8) = .inl (gc g 3, 2, .inl kt) := by rw [e_7, va_up_ne _ _ (ik_ne i_5 i_h0 (by decide))]; exact hc4
  have kp_8 := Kp.put hk0 i_h0 (by decide) e_7
  refine lv_aload_n hx hb dX12_share_5 rfl (lv_at hl 0 rfl) ?_
  refine lv_iload_n hx hb dX12_share_6 rfl (lv_at hl 1 rfl) ?_
  refine va_calli (va_runV (As := [.int p1]) (rest := []) ⟨hx, hb, hml, hown, hts⟩ (c_X12_isTask l dC dI g A hG f_6 h0 p1 q i_h0 k_10 hc1_ok) (cwV 1 hts (gi_V (fun w_ h0_ => ⟨List.mem_cons_of_mem _ (List.mem_append_right _ (List.mem_append_right _ (List.mem_append_left _ h0_))), (tb_c_X12_isTask w_ h0_).2⟩) (List.mem_cons_of_mem _ (List.mem_append_left _ (List.mem_of_getElem? (i := 1) rfl))) (List.mem_cons_of_mem _ (List.mem_append_left _ (List.mem_of_getElem? (i := 2) rfl))) (List.mem_cons_of_mem _ (List.mem_append_left _ (List.mem_of_getElem? (i := 3) rfl))) (List.mem_cons_of_mem _ (List.mem_append_left _ (List.mem_of_getElem? (i := 4) rfl)))) rfl rfl rfl (by decide +kernel) ⟨Nat.le_of_ble_eq_true rfl, Nat.le_of_ble_eq_true rfl⟩) ⟨fun a U g mk q => ⟨q.1, q.2.calling rfl rfl⟩, k_recv hK hI i_h0.1 k_9 (ci := 12) rfl, fun U hU hW => ⟨rfl, kIn.of hI hK hE hS hU hW⟩⟩ rfl rfl hl.1 rfl (lv_room (Nat.le_of_ble_eq_true rfl)) dX12_share_7 ⟨Nat.le_of_ble_eq_true rfl, Nat.le_of_ble_eq_true rfl⟩) hS (fun q _ h => h) (fun q h => h) (fun r_15 u t H1 locs ht hvm w_14 hB hz1 hk1 hS => ?_)
  have hI : Iv dC dI g A f_6 t.heap := hB
  rw [ht] at hI
  generalize H1 = H at hI hS ⊢
  refine W.widen (k := 0) (n := 0) (Nat.le_of_ble_eq_true rfl) (Nat.le_of_ble_eq_true rfl) ?_
  have w_14 : (r_15.toInt = 0 ∨ r_15.toInt = 1) ∧ (r_15.toInt = 0 ∨ (0 ≤ p1.toInt ∧ p1.toInt < (q 0).toInt)) := w_14
  refine lv_if_eq (tgt := 22) hx hb dX12_share_10 (by decide) (fun c_16 => ?_) (fun c_16 => ?_)
  · have c_16 := kc_eq rfl (by decide : Int32.toInt 0 = 0) c_16
    refine lv_ldc2 hx hb hown (hts (.constantLong RX12 291 (-9223372036854775808)) (List.mem_cons_of_mem _ (List.mem_append_left _ (List.mem_of_getElem? (i := 5) rfl)))) dX12_share_22 ?_
    exact W.lret (v := (-9223372036854775808)) hx hb hr (fun t ht hW => ⟨⟨(-9223372036854775808), (), rfl, trivial, ⟨f_6, k_ret ht hI, kp_8, 0, z1, z10, z12, z13, z14, z15, z16, z17, z18, z23, z24, z25, z26, q, u, im, kt, k_9, (by first | omega | decide), (by first | omega | decide), (by first | omega | decide), k_10, hc1_ok, k_11, k_12, k_13, hU⟩⟩, hS.F ht⟩) hS.2.2 dX12_share_25
  · have c_16 := kn_eq rfl (by decide : Int32.toInt 0 = 0) c_16
    refine lv_aload_n hx hb dX12_share_13 rfl (lv_at hl 0 rfl) ?_
    refine lv_iload_n hx hb dX12_share_14 rfl (lv_at hl 2 rfl) ?_
    refine lv_iload_n hx hb dX12_share_15 rfl (lv_at hl 3 rfl) ?_
    refine va_calli (va_runV (As := [.int p2, .int p3]) (rest := []) ⟨hx, hb, hml, hown, hts⟩ (c_X12_areKept l dC dI g A hG f_6 h0 p2 p3 q i_h0 k_10 hc1_ok) (cwV 2 hts (gi_V (fun w_ h0_ => ⟨List.mem_cons_of_mem _ (List.mem_append_right _ (List.mem_append_right _ (List.mem_append_right _ (List.mem_append_left _ h0_)))), (tb_c_X12_areKept w_ h0_).2⟩) (List.mem_cons_of_mem _ (List.mem_append_left _ (List.mem_of_getElem? (i := 6) rfl))) (List.mem_cons_of_mem _ (List.mem_append_left _ (List.mem_of_getElem? (i := 7) rfl))) (List.mem_cons_of_mem _ (List.mem_append_left _ (List.mem_of_getElem? (i := 8) rfl))) (List.mem_cons_of_mem _ (List.mem_append_left _ (List.mem_of_getElem? (i := 4) rfl)))) rfl rfl rfl (by decide +kernel) ⟨Nat.le_of_ble_eq_true rfl, Nat.le_of_ble_eq_true rfl⟩) ⟨fun a U g mk q => ⟨q.1, q.2.calling rfl rfl⟩, k_recv hK hI i_h0.1 k_9 (ci := 12) rfl, fun U hU hW => ⟨rfl, kIn.of hI hK hE hS hU hW⟩⟩ rfl rfl hl.1 rfl (lv_room (Nat.le_of_ble_eq_true rfl)) dX12_share_16 ⟨Nat.le_of_ble_eq_true rfl, Nat.le_of_ble_eq_true rfl⟩) hS (fun q _ h => h) (fun q h => h) (fun r_18 u t H1 locs ht hvm w_17 hB hz1 hk1 hS => ?_)
    have hI : Iv dC dI g A f_6 t.heap := hB
    rw [ht] at hI
    generalize H1 = H at hI hS ⊢
    refine W.widen (k := 0) (n := 0) (Nat.le_of_ble_eq_true rfl) (Nat.le_of_ble_eq_true rfl) ?_
    have w_17 : r_18.toInt = 0 ∨ p2.toInt = p3.toInt ∨ (p2.toInt < p3.toInt ∧ (q 1).toInt - (q 5).toInt ≤ p2.toInt ∧ p3.toInt ≤ (q 1).toInt) := w_17
    refine lv_if_ne (tgt := 26) hx hb dX12_share_19 (by decide) (fun c_19 => ?_) (fun c_19 => ?_)
    · have c_19 := kn_eq rfl (by decide : Int32.toInt 0 = 0) c_19
      refine lv_lconst (v := 0) hx hb dX12_share_26 (by decide) ?_
      refine lv_lstore (lv' := [(4, .long 0), (0, .ref h0), (1, .int p1), (2, .int p2), (3, .int p3)]) hx hb dX12_share_27 hl (by decide) rfl (fun ls hl => ?_)
      refine lv_iload_n hx hb dX12_share_29 rfl (lv_at hl 3 rfl) ?_
      refine lv_i2l (v := p2.toInt64) hx hb dX12_share_30 rfl ?_
      have t_20 := Int32.toInt_toInt64 p2
      refine lv_lstore (lv' := [(6, .long p2.toInt64), (4, .long 0), (0, .ref h0), (1, .int p1), (2, .int p2), (3, .int p3)]) hx hb dX12_share_31 hl (by decide) rfl (fun ls hl => ?_)
      have K_33 : ∀ (nn : Nat) (y_21 : Int64) (y_22 : Int64) (H : Heap) (locs : List Loc) (ls : Array Slot), (p3.toInt - y_21.toInt).toNat < nn → Iv dC dI g A f_6 H → va_S A s.heap H locs → (p2.toInt ≤ y_21.toInt) → lv_has ls 8 [(6, .long y_21), (4, .long y_22), (0, .ref h0), (1, .int p1), (2, .int p2), (3, .int p3)] → W p l e (headSpec wq_c_X12_share ({ frames := 3, cells := 0, slots := 0, locals := 71 } : Room)).room s m ([.ref h0, .int p1, .int p2, .int p3].toArray) below meth c H locs 0 0 (MQ below (va_Ql (fun (r : Int64) (_ : Unit) => True) (fun (_ : Unit) t => ∃ f1 : Nat → va_E, Iv dC dI g A f1 t.heap ∧ Kp g [12] f f1 ∧ ∃ (w0 : Int32) (w1 : Int32) (w10 : Int32) (w12 : Int32) (w13 : Int32) (w14 : Int32) (w15 : Int32) (w16 : Int64) (w17 : Int32) (w18 : Int32) (w23 : Int32) (w24 : Int64) (w25 : Int64) (w26 : Int64) (q1 : Nat → Int64) (u1 : Nat → Int64) (im1 : Nat → Int64) (ik1 : Nat → Int32), (f1 h0 = .inr (12, [.int w0, .int w1, .ref (gr g h0 2), .ref (gr g h0 3), .ref (gr g h0 4), .ref (gr g h0 5), .ref (gr g h0 6), .ref (gr g h0 7), .ref (gr g h0 8), .ref (gr g h0 9), .int w10, .ref (gr g h0 11), .int w12, .int w13, .int w14, .int w15, .long w16, .int w17, .int w18, .ref (gr g h0 19), .ref (gr g h0 20), .ref (gr g h0 21), .ref (gr g h0 22), .int w23, .long w24, .long w25, .long w26])) ∧ (0 ≤ w10.toInt ∧ w10.toInt ≤ 10) ∧ (0 ≤ w12.toInt ∧ w12.toInt ≤ 200) ∧ (0 ≤ w23.toInt ∧ w23.toInt ≤ 8) ∧ (f1 (gr g h0 4) = .inl (gc g 1, 906, .inr (.inl q1))) ∧ (RowOK q1) ∧ (f1 (gr g h0 5) = .inl (gc g 1, 9060, .inr (.inl u1))) ∧ (f1 (gr g h0 7) = .inl (gc g 1, 1812, .inr (.inl im1))) ∧ (f1 (gr g h0 8) = .inl (gc g 3, 2, .inl ik1)) ∧ (UIq w10 u1 im1 ik1)) A) ([.ref h0, .int p1, .int p2, .int p3].toArray) s 0 0 A) (F0 m 33 ls []) := by
        intro nn
        induction nn with
        | zero => intro y_21 y_22 H locs ls m_24; exact absurd m_24 (Nat.not_lt_zero _)
        | succ nn ih =>
          intro y_21 y_22 H locs ls m_24 hI hS t_23 hl
          have g_25 := Int32.toInt_lt p3
          have g_26 := Int32.le_toInt p3
          have g_27 := Int64.toInt_lt y_21
          refine lv_lload hx hb dX12_share_33 (lv_at hl 0 rfl) ?_
          refine lv_iload_n hx hb dX12_share_35 rfl (lv_at hl 5 rfl) ?_
          refine lv_i2l (v := p3.toInt64) hx hb dX12_share_36 rfl ?_
          have t_28 := Int32.toInt_toInt64 p3
          refine W.lcmp hx hb dX12_share_37 ?_
          refine lv_if_ge (tgt := 66) hx hb dX12_share_38 (by decide) (fun c_29 => ?_) (fun c_29 => ?_)
          · have c_29 := lc_le rfl rfl ((lg_cmp_ge _ _).mp c_29)
            refine lv_lload hx hb dX12_share_66 (lv_at hl 1 rfl) ?_
            exact W.lret (v := y_22) hx hb hr (fun t ht hW => ⟨⟨y_22, (), rfl, trivial, ⟨f_6, k_ret ht hI, kp_8, 0, z1, z10, z12, z13, z14, z15, z16, z17, z18, z23, z24, z25, z26, q, u, im, kt, k_9, (by first | omega | decide), (by first | omega | decide), (by first | omega | decide), k_10, hc1_ok, k_11, k_12, k_13, hU⟩⟩, hS.F ht⟩) hS.2.2 dX12_share_68
          · have c_29 := ln_le rfl rfl (fun h9 => c_29 ((lg_cmp_ge _ _).mpr h9))
            refine lv_lload hx hb dX12_share_41 (lv_at hl 1 rfl) ?_
            refine lv_aload_n hx hb dX12_share_43 rfl (lv_at hl 2 rfl) ?_
            refine lv_iload_n hx hb dX12_share_44 rfl (lv_at hl 3 rfl) ?_
            refine lv_aload_n hx hb dX12_share_45 rfl (lv_at hl 2 rfl) ?_
            refine lv_lload hx hb dX12_share_46 (lv_at hl 0 rfl) ?_
            refine va_calli (va_runV (As := [.long y_21]) (rest := [.int p1, .ref h0, .long y_22]) ⟨hx, hb, hml, hown, hts⟩ (c_X12_logAt l dC dI g A hG f_6 h0 y_21 q i_h0 k_10 hc1_ok) (cwV 1 hts (gi_V (fun w_ h0_ => ⟨List.mem_cons_of_mem _ (List.mem_append_right _ (List.mem_append_right _ (List.mem_append_right _ (List.mem_append_right _ (List.mem_append_left _ h0_))))), (tb_c_X12_logAt w_ h0_).2⟩) (List.mem_cons_of_mem _ (List.mem_append_left _ (List.mem_of_getElem? (i := 9) rfl))) (List.mem_cons_of_mem _ (List.mem_append_left _ (List.mem_of_getElem? (i := 10) rfl))) (List.mem_cons_of_mem _ (List.mem_append_left _ (List.mem_of_getElem? (i := 11) rfl))) (List.mem_cons_of_mem _ (List.mem_append_left _ (List.mem_of_getElem? (i := 4) rfl)))) rfl rfl rfl (by decide +kernel) ⟨Nat.le_of_ble_eq_true rfl, Nat.le_of_ble_eq_true rfl⟩) ⟨fun a U g mk q => ⟨q.1, q.2.calling rfl rfl⟩, k_recv hK hI i_h0.1 k_9 (ci := 12) rfl, fun U hU hW => ⟨rfl, kIn.of hI hK hE hS hU hW⟩⟩ rfl rfl hl.1 rfl (lv_room (Nat.le_of_ble_eq_true rfl)) dX12_share_48 ⟨Nat.le_of_ble_eq_true rfl, Nat.le_of_ble_eq_true rfl⟩) hS (fun q _ h => h) (fun q h => h) (fun r_31 u t H1 locs ht hvm w_30 hB hz1 hk1 hS => ?_)
            have hI : Iv dC dI g A f_6 t.heap := hB
            rw [ht] at hI
            generalize H1 = H at hI hS ⊢
            refine W.widen (k := 0) (n := 0) (Nat.le_of_ble_eq_true rfl) (Nat.le_of_ble_eq_true rfl) ?_
            have w_30 : (r_31.toInt = -1 ∧ ¬ ((q 1).toInt - (q 5).toInt ≤ y_21.toInt ∧ y_21.toInt ≤ (q 1).toInt - 1)) ∨ ((q 1).toInt - (q 5).toInt ≤ y_21.toInt ∧ y_21.toInt ≤ (q 1).toInt - 1 ∧ ∃ l : Nat, r_31 = nI (522 + 3 * l) ∧ (l : Int) < (q 5).toInt) := w_30
            obtain ⟨m_32, em_32, tm_32⟩ : ∃ l : Nat, r_31 = nI (522 + 3 * l) ∧ (l : Int) < (q 5).toInt := w_30.elim (fun h9 => absurd h9.2 (not_not_intro (by omega))) (fun h9 => h9.2.2)
            refine k_topi (y := nI (522 + 3 * m_32)) em_32 ?_
            refine va_calll (va_runV (As := [.int p1, .int (nI (522 + 3 * m_32))]) (rest := [.long y_22]) ⟨hx, hb, hml, hown, hts⟩ (c_X12_shareAt l dC dI g A hG f_6 h0 p1 (522 + 3 * m_32) q i_h0 k_10 hc1_ok ⟨m_32, rfl, tm_32⟩) (cwV 2 hts (gi_V (fun w_ h0_ => ⟨List.mem_cons_of_mem _ (List.mem_append_right _ (List.mem_append_right _ (List.mem_append_right _ (List.mem_append_right _ (List.mem_append_right _ (List.mem_append_left _ h0_)))))), (tb_c_X12_shareAt w_ h0_).2⟩) (List.mem_cons_of_mem _ (List.mem_append_left _ (List.mem_of_getElem? (i := 12) rfl))) (List.mem_cons_of_mem _ (List.mem_append_left _ (List.mem_of_getElem? (i := 13) rfl))) (List.mem_cons_of_mem _ (List.mem_append_left _ (List.mem_of_getElem? (i := 14) rfl))) (List.mem_cons_of_mem _ (List.mem_append_left _ (List.mem_of_getElem? (i := 4) rfl)))) rfl rfl rfl (by decide +kernel) ⟨Nat.le_of_ble_eq_true rfl, Nat.le_of_ble_eq_true rfl⟩) ⟨fun a U g mk q => ⟨q.1, q.2.calling rfl rfl⟩, k_recv hK hI i_h0.1 k_9 (ci := 12) rfl, fun U hU hW => ⟨rfl, kIn.of hI hK hE hS hU hW⟩⟩ rfl rfl hl.1 rfl (lv_room (Nat.le_of_ble_eq_true rfl)) dX12_share_51 ⟨Nat.le_of_ble_eq_true rfl, Nat.le_of_ble_eq_true rfl⟩) hS (fun q _ h => h) (fun q h => h) (fun r_35 u t H1 locs ht hvm w_34 hB hz1 hk1 hS => ?_)
            have hI : Iv dC dI g A f_6 t.heap := hB
            rw [ht] at hI
            generalize H1 = H at hI hS ⊢
            refine W.widen (k := 0) (n := 0) (Nat.le_of_ble_eq_true rfl) (Nat.le_of_ble_eq_true rfl) ?_
            refine lv_ladd hx hb dX12_share_54 ?_
            refine lv_topl (fun v_36 ev_36 => ?_)
            have tv_36 := l_ad y_22 r_35
            rw [← ev_36] at tv_36
            refine lv_lstore (lv' := [(4, .long v_36), (6, .long y_21), (0, .ref h0), (1, .int p1), (2, .int p2), (3, .int p3)]) hx hb dX12_share_55 hl (by decide) rfl (fun ls hl => ?_)
            refine lv_lload hx hb dX12_share_57 (lv_at hl 1 rfl) ?_
            refine lv_lconst (v := 1) hx hb dX12_share_59 (by decide) ?_
            refine lv_ladd hx hb dX12_share_60 ?_
            refine lv_topl (fun v_37 ev_37 => ?_)
            have tv_37 := l_ad y_21 1
            rw [← ev_37, show Int64.toInt 1 = 1 from by decide] at tv_37
            refine lv_lstore (lv' := [(6, .long v_37), (4, .long v_36), (0, .ref h0), (1, .int p1), (2, .int p2), (3, .int p3)]) hx hb dX12_share_61 hl (by decide) rfl (fun ls hl => ?_)
            refine lv_goto (tgt := 33) hx hb dX12_share_63 (by decide) ?_
            exact ih v_37 v_36 _ _ _ (by omega) hI hS (by first | omega | decide) (lv_sub hl [0, 1, 2, 3, 4, 5] rfl)
      exact K_33 _ p2.toInt64 0 _ _ _ (Nat.lt_succ_self _) hI hS (by first | omega | decide | (simp only [show Int64.toInt 0 = 0 from by decide]; omega)) (lv_sub hl [0, 1, 2, 3, 4, 5] rfl)
    · have c_19 := kc_eq rfl (by decide : Int32.toInt 0 = 0) c_19
      refine lv_ldc2 hx hb hown (hts (.constantLong RX12 291 (-9223372036854775808)) (List.mem_cons_of_mem _ (List.mem_append_left _ (List.mem_of_getElem? (i := 5) rfl)))) dX12_share_22 ?_
      exact W.lret (v := (-9223372036854775808)) hx hb hr (fun t ht hW => ⟨⟨(-9223372036854775808), (), rfl, trivial, ⟨f_6, k_ret ht hI, kp_8, 0, z1, z10, z12, z13, z14, z15, z16, z17, z18, z23, z24, z25, z26, q, u, im, kt, k_9, (by first | omega | decide), (by first | omega | decide), (by first | omega | decide), k_10, hc1_ok, k_11, k_12, k_13, hU⟩⟩, hS.F ht⟩) hS.2.2 dX12_share_25
theorem tw_984 : q_g (.code yX12_worst cX12_worst 10 (some .long)) := ⟨(List.mem_append_right _ (List.mem_of_getElem? (i := 1499) (by decide +kernel))), good_of_word (by decide +kernel)⟩
def ow_c_X12_worst : List Cond := [.fieldLink RX12 67 "DeadlineShareModel" "thrown" "I", .methodLink RX12 142 yX12_isTask, .instanceMethod yX12_isTask, .selects RX12 yX12_isTask yX12_isTask, .initialized RX12, .constantLong RX12 291 (-9223372036854775808), .methodLink RX12 83 yX12_in, .static yX12_in, .fieldLink RX12 16 "DeadlineShareModel" "row" "[J", .methodLink RX12 306 yX12_shareAt, .instanceMethod yX12_shareAt, .selects RX12 yX12_shareAt yX12_shareAt, .constantLong RX12 108 (5354228880)]
def wq_c_X12_worst : List Cond := .code yX12_worst cX12_worst 10 (some .long) :: (ow_c_X12_worst ++ (u_ws RX12 TX12 27 ++ (wq_c_X12_isTask ++ (wq_c_X12_in ++ (wq_c_X12_shareAt ++ ([] : List Cond))))))
theorem tb_c_X12_worst : ∀ w ∈ wq_c_X12_worst, q_g w := by
  unfold wq_c_X12_worst ow_c_X12_worst
  exact q_cons tw_984 (q_app (q_cons tw_927 (q_cons tw_951 (q_cons tw_950 (q_cons tw_949 (q_cons tw_728 (q_cons tw_953 (q_cons tw_730 (q_cons tw_729 (q_cons tw_731 (q_cons tw_982 (q_cons tw_981 (q_cons tw_980 (q_cons tw_757 q_nil))))))))))))) (q_app tu_X12 (q_app tb_c_X12_isTask (q_app tb_c_X12_in (q_app tb_c_X12_shareAt q_nil)))))
set_option maxHeartbeats 4000000 in
set_option maxRecDepth 100000 in
theorem c_X12_worst (l : Launch) (dC : Nat → ClassId) (dI : Nat → Nat → Nat) (g : kG) (A : Nat → Prop) (hG : kWf g) (f : Nat → va_E) (h0 : Nat) (p1 : Int32) (p2 : Int32) (z0 : Int32) (z1 : Int32) (z10 : Int32) (z12 : Int32) (z13 : Int32) (z14 : Int32) (z15 : Int32) (z16 : Int64) (z17 : Int32) (z18 : Int32) (z23 : Int32) (z24 : Int64) (z25 : Int64) (z26 : Int64) (q : Nat → Int64) (u : Nat → Int64) (im : Nat → Int64) (kt : Nat → Int32) (i_h0 : ik g 12 h0) (hc0 : f h0 = .inr (12, [.int z0, .int z1, .ref (gr g h0 2), .ref (gr g h0 3), .ref (gr g h0 4), .ref (gr g h0 5), .ref (gr g h0 6), .ref (gr g h0 7), .ref (gr g h0 8), .ref (gr g h0 9), .int z10, .ref (gr g h0 11), .int z12, .int z13, .int z14, .int z15, .long z16, .int z17, .int z18, .ref (gr g h0 19), .ref (gr g h0 20), .ref (gr g h0 21), .ref (gr g h0 22), .int z23, .long z24, .long z25, .long z26])) (hc0_10 : 0 ≤ z10.toInt ∧ z10.toInt ≤ 10) (hc0_12 : 0 ≤ z12.toInt ∧ z12.toInt ≤ 200) (hc0_23 : 0 ≤ z23.toInt ∧ z23.toInt ≤ 8) (hc1 : f (gr g h0 4) = .inl (gc g 1, 906, .inr (.inl q))) (hc1_ok : RowOK q) (hc2 : f (gr g h0 5) = .inl (gc g 1, 9060, .inr (.inl u))) (hc3 : f (gr g h0 7) = .inl (gc g 1, 1812, .inr (.inl im))) (hc4 : f (gr g h0 8) = .inl (gc g 3, 2, .inl kt)) (hU : UIq z10 u im kt) : Met l yX12_worst wq_c_X12_worst ({ frames := 2, cells := 0, slots := 0, locals := 46 } : Room) (va_Pc [.ref h0, .int p1, .int p2] (fun U => kIn dC dI g A f U)) (va_Ql (fun (r : Int64) (_ : Unit) => True) (fun (_ : Unit) t => ∃ f1 : Nat → va_E, Iv dC dI g A f1 t.heap ∧ Kp g [12] f f1 ∧ ∃ (w0 : Int32) (w1 : Int32) (w10 : Int32) (w12 : Int32) (w13 : Int32) (w14 : Int32) (w15 : Int32) (w16 : Int64) (w17 : Int32) (w18 : Int32) (w23 : Int32) (w24 : Int64) (w25 : Int64) (w26 : Int64) (q1 : Nat → Int64) (u1 : Nat → Int64) (im1 : Nat → Int64) (ik1 : Nat → Int32), (f1 h0 = .inr (12, [.int w0, .int w1, .ref (gr g h0 2), .ref (gr g h0 3), .ref (gr g h0 4), .ref (gr g h0 5), .ref (gr g h0 6), .ref (gr g h0 7), .ref (gr g h0 8), .ref (gr g h0 9), .int w10, .ref (gr g h0 11), .int w12, .int w13, .int w14, .int w15, .long w16, .int w17, .int w18, .ref (gr g h0 19), .ref (gr g h0 20), .ref (gr g h0 21), .ref (gr g h0 22), .int w23, .long w24, .long w25, .long w26])) ∧ (0 ≤ w10.toInt ∧ w10.toInt ≤ 10) ∧ (0 ≤ w12.toInt ∧ w12.toInt ≤ 200) ∧ (0 ≤ w23.toInt ∧ w23.toInt ≤ 8) ∧ (f1 (gr g h0 4) = .inl (gc g 1, 906, .inr (.inl q1))) ∧ (RowOK q1) ∧ (f1 (gr g h0 5) = .inl (gc g 1, 9060, .inr (.inl u1))) ∧ (f1 (gr g h0 7) = .inl (gc g 1, 1812, .inr (.inl im1))) ∧ (f1 (gr g h0 8) = .inl (gc g 3, 2, .inl ik1)) ∧ (UIq w10 u1 im1 ik1)) A) 0 0 A := by
  refine Met.ofW (cc := cX12_worst) (maxL := 10) (ret := (some .long)) (by decide) rfl ?_
  intro p e s m args below meth c s₁ B hml hv
  obtain ⟨rfl, hI, hK, hE⟩ := hv
  have hx := B.exec
  have hb := B.bytes
  have hr := B.returns
  have hts := atoms_spec (ws := wq_c_X12_worst) B.pre
  have hown : s.vm.findClass RX12 = some m.cls := findClass_of_methodNamed B.named
  have hlocks := B.notSynchronized
  have hS : va_S A s.heap s.heap [] := va_S.rf
  have hk0 : Kp g [12] f f := Kp.rf
  have hl := lv_entry ([.ref h0, .int p1, .int p2]) (n := 10) (Nat.le_of_ble_eq_true rfl)
  rw [lg_entry_eq]
  generalize (lg_sl ([.ref h0, .int p1, .int p2]) ++ List.replicate (10 - (lg_sl ([.ref h0, .int p1, .int p2])).length) Slot.unset).toArray = ls at hl ⊢
  have hl : lv_has ls 10 [(0, .ref h0), (1, .int p1), (2, .int p2)] := hl
  have i_1 := kw_12_4 hG i_h0
  have d_2 := rk_hd hc1_ok
  have i_3 := kw_12_5 hG i_h0
  have i_4 := kw_12_7 hG i_h0
  have i_5 := kw_12_8 hG i_h0
  refine lv_aload_n hx hb dX12_worst_0 rfl (lv_at hl 0 rfl) ?_
  refine lv_iconst (v := 0) hx hb dX12_worst_1 (by decide) ?_
  refine k_put (ci := 12) (v := .int 0) (ty := .int) (C := RX12) (T := TX12) (N := 27) hx hb hts (fun _ h0_ => List.mem_cons_of_mem _ (List.mem_append_right _ (List.mem_append_left _ h0_))) tyX12 tyX12_ok nmX12 hown hK hI hS i_h0.1 hc0 rfl 0 (by decide) (hts (.fieldLink RX12 67 "DeadlineShareModel" "thrown" "I") (List.mem_cons_of_mem _ (List.mem_append_left _ (List.mem_of_getElem? (i := 0) rfl)))) (fun _ h9 => h9) rfl (by decide +kernel) rfl rfl (Nat.le_of_ble_eq_true rfl) rfl (cl_12 i_h0 (by omega) (by omega) (by omega)) dX12_worst_2 (fun f_6 H locs e_7 hI hS => ?_)
  have k_9 : f_6 h0 = .inr (12, [.int 0, .int z1, .ref (gr g h0 2), .ref (gr g h0 3), .ref (gr g h0 4), .ref (gr g h0 5), .ref (gr g h0 6), .ref (gr g h0 7), .ref (gr g h0 8), .ref (gr g h0 9), .int z10, .ref (gr g h0 11), .int z12, .int z13, .int z14, .int z15, .long z16, .int z17, .int z18, .ref (gr g h0 19), .ref (gr g h0 20), .ref (gr g h0 21), .ref (gr g h0 22), .int z23, .long z24, .long z25, .long z26]) := by rw [e_7]; exact va_up_self _ _ _
  have k_10 : f_6 (gr g h0 4) = .inl (gc g 1, 906, .inr (.inl q)) := by rw [e_7, va_up_ne _ _ (ik_ne i_1 i_h0 (by decide))]; exact hc1
  have k_11 : f_6 (gr g h0 5) = .inl (gc g 1, 9060, .inr (.inl u)) := by rw [e_7, va_up_ne _ _ (ik_ne i_3 i_h0 (by decide))]; exact hc2
  have k_12 : f_6 (gr g h0 7) = .inl (gc g 1, 1812, .inr (.inl im)) := by rw [e_7, va_up_ne _ _ (ik_ne i_4 i_h0 (by decide))]; exact hc3
  have k_13 : f_6 (gr g h0 8) = .inl (gc g 3, 2, .inl kt) := by rw [e_7, va_up_ne _ _ (ik_ne i_5 i_h0 (by decide))]; exact hc4
  have kp_8 := Kp.put hk0 i_h0 (by decide) e_7
  refine lv_aload_n hx hb dX12_worst_5 rfl (lv_at hl 0 rfl) ?_
  refine lv_iload_n hx hb dX12_worst_6 rfl (lv_at hl 1 rfl) ?_
  refine va_calli (va_runV (As := [.int p1]) (rest := []) ⟨hx, hb, hml, hown, hts⟩ (c_X12_isTask l dC dI g A hG f_6 h0 p1 q i_h0 k_10 hc1_ok) (cwV 1 hts (gi_V (fun w_ h0_ => ⟨List.mem_cons_of_mem _ (List.mem_append_right _ (List.mem_append_right _ (List.mem_append_left _ h0_))), (tb_c_X12_isTask w_ h0_).2⟩) (List.mem_cons_of_mem _ (List.mem_append_left _ (List.mem_of_getElem? (i := 1) rfl))) (List.mem_cons_of_mem _ (List.mem_append_left _ (List.mem_of_getElem? (i := 2) rfl))) (List.mem_cons_of_mem _ (List.mem_append_left _ (List.mem_of_getElem? (i := 3) rfl))) (List.mem_cons_of_mem _ (List.mem_append_left _ (List.mem_of_getElem? (i := 4) rfl)))) rfl rfl rfl (by decide +kernel) ⟨Nat.le_of_ble_eq_true rfl, Nat.le_of_ble_eq_true rfl⟩) ⟨fun a U g mk q => ⟨q.1, q.2.calling rfl rfl⟩, k_recv hK hI i_h0.1 k_9 (ci := 12) rfl, fun U hU hW => ⟨rfl, kIn.of hI hK hE hS hU hW⟩⟩ rfl rfl hl.1 rfl (lv_room (Nat.le_of_ble_eq_true rfl)) dX12_worst_7 ⟨Nat.le_of_ble_eq_true rfl, Nat.le_of_ble_eq_true rfl⟩) hS (fun q _ h => h) (fun q h => h) (fun r_15 u t H1 locs ht hvm w_14 hB hz1 hk1 hS => ?_)
  have hI : Iv dC dI g A f_6 t.heap := hB
  rw [ht] at hI
  generalize H1 = H at hI hS ⊢
  refine W.widen (k := 0) (n := 0) (Nat.le_of_ble_eq_true rfl) (Nat.le_of_ble_eq_true rfl) ?_
  have w_14 : (r_15.toInt = 0 ∨ r_15.toInt = 1) ∧ (r_15.toInt = 0 ∨ (0 ≤ p1.toInt ∧ p1.toInt < (q 0).toInt)) := w_14
  refine lv_if_eq (tgt := 23) hx hb dX12_worst_10 (by decide) (fun c_16 => ?_) (fun c_16 => ?_)
  · have c_16 := kc_eq rfl (by decide : Int32.toInt 0 = 0) c_16
    refine lv_ldc2 hx hb hown (hts (.constantLong RX12 291 (-9223372036854775808)) (List.mem_cons_of_mem _ (List.mem_append_left _ (List.mem_of_getElem? (i := 5) rfl)))) dX12_worst_23 ?_
    exact W.lret (v := (-9223372036854775808)) hx hb hr (fun t ht hW => ⟨⟨(-9223372036854775808), (), rfl, trivial, ⟨f_6, k_ret ht hI, kp_8, 0, z1, z10, z12, z13, z14, z15, z16, z17, z18, z23, z24, z25, z26, q, u, im, kt, k_9, (by first | omega | decide), (by first | omega | decide), (by first | omega | decide), k_10, hc1_ok, k_11, k_12, k_13, hU⟩⟩, hS.F ht⟩) hS.2.2 dX12_worst_26
  · have c_16 := kn_eq rfl (by decide : Int32.toInt 0 = 0) c_16
    refine lv_iload_n hx hb dX12_worst_13 rfl (lv_at hl 2 rfl) ?_
    refine lv_i2l (v := p2.toInt64) hx hb dX12_worst_14 rfl ?_
    have t_17 := Int32.toInt_toInt64 p2
    refine lv_lconst (v := 0) hx hb dX12_worst_15 (by decide) ?_
    refine lv_lconst (v := 1) hx hb dX12_worst_16 (by decide) ?_
    refine va_calli (va_runS (As := [.long p2.toInt64, .long 0, .long 1]) (rest := []) ⟨hx, hb, hml, hown, hts⟩ (c_X12_in l dC dI g A hG f_6 p2.toInt64 0 1) (va_cwS 3 hts (gi_S (fun w_ h0_ => ⟨List.mem_cons_of_mem _ (List.mem_append_right _ (List.mem_append_right _ (List.mem_append_right _ (List.mem_append_left _ h0_)))), (tb_c_X12_in w_ h0_).2⟩) (List.mem_cons_of_mem _ (List.mem_append_left _ (List.mem_of_getElem? (i := 6) rfl))) (List.mem_cons_of_mem _ (List.mem_append_left _ (List.mem_of_getElem? (i := 7) rfl))) (List.mem_cons_of_mem _ (List.mem_append_left _ (List.mem_of_getElem? (i := 4) rfl)))) rfl rfl rfl (by decide +kernel) ⟨Nat.le_of_ble_eq_true rfl, Nat.le_of_ble_eq_true rfl⟩) ⟨fun a U g mk q => ⟨q.1, q.2.calling rfl rfl⟩, fun U hU hW => ⟨rfl, kIn.of hI hK hE hS hU hW⟩⟩ rfl rfl hl.1 rfl (lv_room (Nat.le_of_ble_eq_true rfl)) dX12_worst_17 ⟨Nat.le_of_ble_eq_true rfl, Nat.le_of_ble_eq_true rfl⟩) hS (fun q _ h => h) (fun q h => h) (fun r_19 u t H1 locs ht hvm w_18 hB hz1 hk1 hS => ?_)
    have hI : Iv dC dI g A f_6 t.heap := hB
    rw [ht] at hI
    generalize H1 = H at hI hS ⊢
    refine W.widen (k := 0) (n := 0) (Nat.le_of_ble_eq_true rfl) (Nat.le_of_ble_eq_true rfl) ?_
    have w_18 : (r_19.toInt = 0 ∧ (p2.toInt64.toInt < (0 : Int64).toInt ∨ (1 : Int64).toInt < p2.toInt64.toInt)) ∨ (r_19.toInt = 1 ∧ (0 : Int64).toInt ≤ p2.toInt64.toInt ∧ p2.toInt64.toInt ≤ (1 : Int64).toInt) := w_18
    have g_20 : Int64.toInt (0) = 0 := by decide
    have g_21 : Int64.toInt (1) = 1 := by decide
    refine lv_if_ne (tgt := 27) hx hb dX12_worst_20 (by decide) (fun c_22 => ?_) (fun c_22 => ?_)
    · have c_22 := kn_eq rfl (by decide : Int32.toInt 0 = 0) c_22
      refine lv_ldc2 hx hb hown (hts (.constantLong RX12 291 (-9223372036854775808)) (List.mem_cons_of_mem _ (List.mem_append_left _ (List.mem_of_getElem? (i := 5) rfl)))) dX12_worst_27 ?_
      refine lv_lstore_n (lv' := [(3, .long (-9223372036854775808)), (0, .ref h0), (1, .int p1), (2, .int p2)]) hx hb dX12_worst_30 rfl hl (by decide) rfl (fun ls hl => ?_)
      refine lv_iconst (v := 0) hx hb dX12_worst_31 (by decide) ?_
      refine lv_istore (lv' := [(5, .int 0), (3, .long (-9223372036854775808)), (0, .ref h0), (1, .int p1), (2, .int p2)]) hx hb dX12_worst_32 hl (by decide) rfl (fun ls hl => ?_)
      have K_34 : ∀ (nn : Nat) (y_23 : Nat) (y_24 : Int64) (H : Heap) (locs : List Loc) (ls : Array Slot), 128 - y_23 < nn → Iv dC dI g A f_6 H → va_S A s.heap H locs → (y_23 ≤ 128) → lv_has ls 10 [(5, .int (nI y_23)), (3, .long y_24), (0, .ref h0), (1, .int p1), (2, .int p2)] → W p l e (headSpec wq_c_X12_worst ({ frames := 2, cells := 0, slots := 0, locals := 46 } : Room)).room s m ([.ref h0, .int p1, .int p2].toArray) below meth c H locs 0 0 (MQ below (va_Ql (fun (r : Int64) (_ : Unit) => True) (fun (_ : Unit) t => ∃ f1 : Nat → va_E, Iv dC dI g A f1 t.heap ∧ Kp g [12] f f1 ∧ ∃ (w0 : Int32) (w1 : Int32) (w10 : Int32) (w12 : Int32) (w13 : Int32) (w14 : Int32) (w15 : Int32) (w16 : Int64) (w17 : Int32) (w18 : Int32) (w23 : Int32) (w24 : Int64) (w25 : Int64) (w26 : Int64) (q1 : Nat → Int64) (u1 : Nat → Int64) (im1 : Nat → Int64) (ik1 : Nat → Int32), (f1 h0 = .inr (12, [.int w0, .int w1, .ref (gr g h0 2), .ref (gr g h0 3), .ref (gr g h0 4), .ref (gr g h0 5), .ref (gr g h0 6), .ref (gr g h0 7), .ref (gr g h0 8), .ref (gr g h0 9), .int w10, .ref (gr g h0 11), .int w12, .int w13, .int w14, .int w15, .long w16, .int w17, .int w18, .ref (gr g h0 19), .ref (gr g h0 20), .ref (gr g h0 21), .ref (gr g h0 22), .int w23, .long w24, .long w25, .long w26])) ∧ (0 ≤ w10.toInt ∧ w10.toInt ≤ 10) ∧ (0 ≤ w12.toInt ∧ w12.toInt ≤ 200) ∧ (0 ≤ w23.toInt ∧ w23.toInt ≤ 8) ∧ (f1 (gr g h0 4) = .inl (gc g 1, 906, .inr (.inl q1))) ∧ (RowOK q1) ∧ (f1 (gr g h0 5) = .inl (gc g 1, 9060, .inr (.inl u1))) ∧ (f1 (gr g h0 7) = .inl (gc g 1, 1812, .inr (.inl im1))) ∧ (f1 (gr g h0 8) = .inl (gc g 3, 2, .inl ik1)) ∧ (UIq w10 u1 im1 ik1)) A) ([.ref h0, .int p1, .int p2].toArray) s 0 0 A) (F0 m 34 ls []) := by
        intro nn
        induction nn with
        | zero => intro y_23 y_24 H locs ls m_26; exact absurd m_26 (Nat.not_lt_zero _)
        | succ nn ih =>
          intro y_23 y_24 H locs ls m_26 hI hS t_25 hl
          refine lv_iload hx hb dX12_worst_34 (lv_at hl 0 rfl) ?_
          refine lv_i2l (v := lN (y_23)) hx hb dX12_worst_36 (nI_l (by omega)) ?_
          refine lv_aload_n hx hb dX12_worst_37 rfl (lv_at hl 2 rfl) ?_
          refine k_get (ci := 12) (v := .ref (gr g h0 4)) (C := RX12) (T := TX12) (N := 27) hx hb hts (fun _ h0_ => List.mem_cons_of_mem _ (List.mem_append_right _ (List.mem_append_left _ h0_))) hown hK hI i_h0.1 k_9 rfl 4 (by decide) (hts (.fieldLink RX12 16 "DeadlineShareModel" "row" "[J") (List.mem_cons_of_mem _ (List.mem_append_left _ (List.mem_of_getElem? (i := 8) rfl)))) (fun _ h9 => h9) rfl dX12_worst_38 ?_
          refine lv_iconst (v := 5) hx hb dX12_worst_41 (by decide) ?_
          refine k_lald hx hb hK hI i_1.1 1 k_10 rfl (by unfold vp_in; decide) dX12_worst_42 ?_
          refine k_topl (y := q 5) (congrArg q (show Int32.toNatClampNeg 5 = 5 by decide)) ?_
          refine W.lcmp hx hb dX12_worst_43 ?_
          refine lv_if_ge (tgt := 176) hx hb dX12_worst_44 (by decide) (fun c_29 => ?_) (fun c_29 => ?_)
          · have c_29 := lc_le rfl (lN_toInt (n := y_23) (by omega)) ((lg_cmp_ge _ _).mp c_29)
            refine lv_lload_n hx hb dX12_worst_176 rfl (lv_at hl 1 rfl) ?_
            exact W.lret (v := y_24) hx hb hr (fun t ht hW => ⟨⟨y_24, (), rfl, trivial, ⟨f_6, k_ret ht hI, kp_8, 0, z1, z10, z12, z13, z14, z15, z16, z17, z18, z23, z24, z25, z26, q, u, im, kt, k_9, (by first | omega | decide), (by first | omega | decide), (by first | omega | decide), k_10, hc1_ok, k_11, k_12, k_13, hU⟩⟩, hS.F ht⟩) hS.2.2 dX12_worst_177
          · have c_29 := ln_le rfl (lN_toInt (n := y_23) (by omega)) (fun h9 => c_29 ((lg_cmp_ge _ _).mpr h9))
            refine lv_lconst (v := 0) hx hb dX12_worst_47 (by decide) ?_
            refine lv_lstore (lv' := [(6, .long 0), (5, .int (nI y_23)), (3, .long y_24), (0, .ref h0), (1, .int p1), (2, .int p2)]) hx hb dX12_worst_48 hl (by decide) rfl (fun ls hl => ?_)
            refine lv_iload hx hb dX12_worst_50 (lv_at hl 1 rfl) ?_
            refine lv_istore (lv' := [(8, .int (nI y_23)), (6, .long 0), (5, .int (nI y_23)), (3, .long y_24), (0, .ref h0), (1, .int p1), (2, .int p2)]) hx hb dX12_worst_52 hl (by decide) rfl (fun ls hl => ?_)
            have K_54 : ∀ (nn : Nat) (y_30 : Nat) (y_31 : Int64) (y_32 : Int64) (H : Heap) (locs : List Loc) (ls : Array Slot), 128 - y_30 < nn → Iv dC dI g A f_6 H → va_S A s.heap H locs → (y_30 ≤ 128) → lv_has ls 10 [(8, .int (nI y_30)), (6, .long y_31), (5, .int (nI y_23)), (3, .long y_32), (0, .ref h0), (1, .int p1), (2, .int p2)] → W p l e (headSpec wq_c_X12_worst ({ frames := 2, cells := 0, slots := 0, locals := 46 } : Room)).room s m ([.ref h0, .int p1, .int p2].toArray) below meth c H locs 0 0 (MQ below (va_Ql (fun (r : Int64) (_ : Unit) => True) (fun (_ : Unit) t => ∃ f1 : Nat → va_E, Iv dC dI g A f1 t.heap ∧ Kp g [12] f f1 ∧ ∃ (w0 : Int32) (w1 : Int32) (w10 : Int32) (w12 : Int32) (w13 : Int32) (w14 : Int32) (w15 : Int32) (w16 : Int64) (w17 : Int32) (w18 : Int32) (w23 : Int32) (w24 : Int64) (w25 : Int64) (w26 : Int64) (q1 : Nat → Int64) (u1 : Nat → Int64) (im1 : Nat → Int64) (ik1 : Nat → Int32), (f1 h0 = .inr (12, [.int w0, .int w1, .ref (gr g h0 2), .ref (gr g h0 3), .ref (gr g h0 4), .ref (gr g h0 5), .ref (gr g h0 6), .ref (gr g h0 7), .ref (gr g h0 8), .ref (gr g h0 9), .int w10, .ref (gr g h0 11), .int w12, .int w13, .int w14, .int w15, .long w16, .int w17, .int w18, .ref (gr g h0 19), .ref (gr g h0 20), .ref (gr g h0 21), .ref (gr g h0 22), .int w23, .long w24, .long w25, .long w26])) ∧ (0 ≤ w10.toInt ∧ w10.toInt ≤ 10) ∧ (0 ≤ w12.toInt ∧ w12.toInt ≤ 200) ∧ (0 ≤ w23.toInt ∧ w23.toInt ≤ 8) ∧ (f1 (gr g h0 4) = .inl (gc g 1, 906, .inr (.inl q1))) ∧ (RowOK q1) ∧ (f1 (gr g h0 5) = .inl (gc g 1, 9060, .inr (.inl u1))) ∧ (f1 (gr g h0 7) = .inl (gc g 1, 1812, .inr (.inl im1))) ∧ (f1 (gr g h0 8) = .inl (gc g 3, 2, .inl ik1)) ∧ (UIq w10 u1 im1 ik1)) A) ([.ref h0, .int p1, .int p2].toArray) s 0 0 A) (F0 m 54 ls []) := by
              intro nn
              induction nn with
              | zero => intro y_30 y_31 y_32 H locs ls m_34; exact absurd m_34 (Nat.not_lt_zero _)
              | succ nn ih =>
                intro y_30 y_31 y_32 H locs ls m_34 hI hS t_33 hl
                refine lv_iload hx hb dX12_worst_54 (lv_at hl 0 rfl) ?_
                refine lv_i2l (v := lN (y_30)) hx hb dX12_worst_56 (nI_l (by omega)) ?_
                refine lv_aload_n hx hb dX12_worst_57 rfl (lv_at hl 4 rfl) ?_
                refine k_get (ci := 12) (v := .ref (gr g h0 4)) (C := RX12) (T := TX12) (N := 27) hx hb hts (fun _ h0_ => List.mem_cons_of_mem _ (List.mem_append_right _ (List.mem_append_left _ h0_))) hown hK hI i_h0.1 k_9 rfl 4 (by decide) (hts (.fieldLink RX12 16 "DeadlineShareModel" "row" "[J") (List.mem_cons_of_mem _ (List.mem_append_left _ (List.mem_of_getElem? (i := 8) rfl)))) (fun _ h9 => h9) rfl dX12_worst_58 ?_
                refine lv_iconst (v := 5) hx hb dX12_worst_61 (by decide) ?_
                refine k_lald hx hb hK hI i_1.1 1 k_10 rfl (by unfold vp_in; decide) dX12_worst_62 ?_
                refine k_topl (y := q 5) (congrArg q (show Int32.toNatClampNeg 5 = 5 by decide)) ?_
                refine W.lcmp hx hb dX12_worst_63 ?_
                have J_170 : ∀ (H : Heap) (locs : List Loc) (ls : Array Slot), Iv dC dI g A f_6 H → va_S A s.heap H locs → lv_has ls 10 [(8, .int (nI y_30)), (6, .long y_31), (5, .int (nI y_23)), (3, .long y_32), (0, .ref h0), (1, .int p1), (2, .int p2)] → W p l e (headSpec wq_c_X12_worst ({ frames := 2, cells := 0, slots := 0, locals := 46 } : Room)).room s m ([.ref h0, .int p1, .int p2].toArray) below meth c H locs 0 0 (MQ below (va_Ql (fun (r : Int64) (_ : Unit) => True) (fun (_ : Unit) t => ∃ f1 : Nat → va_E, Iv dC dI g A f1 t.heap ∧ Kp g [12] f f1 ∧ ∃ (w0 : Int32) (w1 : Int32) (w10 : Int32) (w12 : Int32) (w13 : Int32) (w14 : Int32) (w15 : Int32) (w16 : Int64) (w17 : Int32) (w18 : Int32) (w23 : Int32) (w24 : Int64) (w25 : Int64) (w26 : Int64) (q1 : Nat → Int64) (u1 : Nat → Int64) (im1 : Nat → Int64) (ik1 : Nat → Int32), (f1 h0 = .inr (12, [.int w0, .int w1, .ref (gr g h0 2), .ref (gr g h0 3), .ref (gr g h0 4), .ref (gr g h0 5), .ref (gr g h0 6), .ref (gr g h0 7), .ref (gr g h0 8), .ref (gr g h0 9), .int w10, .ref (gr g h0 11), .int w12, .int w13, .int w14, .int w15, .long w16, .int w17, .int w18, .ref (gr g h0 19), .ref (gr g h0 20), .ref (gr g h0 21), .ref (gr g h0 22), .int w23, .long w24, .long w25, .long w26])) ∧ (0 ≤ w10.toInt ∧ w10.toInt ≤ 10) ∧ (0 ≤ w12.toInt ∧ w12.toInt ≤ 200) ∧ (0 ≤ w23.toInt ∧ w23.toInt ≤ 8) ∧ (f1 (gr g h0 4) = .inl (gc g 1, 906, .inr (.inl q1))) ∧ (RowOK q1) ∧ (f1 (gr g h0 5) = .inl (gc g 1, 9060, .inr (.inl u1))) ∧ (f1 (gr g h0 7) = .inl (gc g 1, 1812, .inr (.inl im1))) ∧ (f1 (gr g h0 8) = .inl (gc g 3, 2, .inl ik1)) ∧ (UIq w10 u1 im1 ik1)) A) ([.ref h0, .int p1, .int p2].toArray) s 0 0 A) (F0 m 170 ls []) := by
                  intro H locs ls hI hS  hl
                  refine lv_iinc (v := nI (y_23 + 1)) (lv' := [(5, .int (nI (y_23 + 1))), (8, .int (nI y_30)), (6, .long y_31), (3, .long y_32), (0, .ref h0), (1, .int p1), (2, .int p2)]) hx hb dX12_worst_170 hl (k := 2) rfl (nI_1 _) (by decide) rfl (fun ls hl => ?_)
                  refine lv_goto (tgt := 34) hx hb dX12_worst_173 (by decide) ?_
                  exact ih (y_23 + 1) y_32 _ _ _ (by omega) hI hS (by first | omega | decide) (lv_sub hl [0, 3, 4, 5, 6] rfl)
                refine lv_if_ge (tgt := 170) hx hb dX12_worst_64 (by decide) (fun c_37 => ?_) (fun c_37 => ?_)
                · have c_37 := lc_le rfl (lN_toInt (n := y_30) (by omega)) ((lg_cmp_ge _ _).mp c_37)
                  exact J_170  _ _ _ hI hS  (lv_sub hl [0, 1, 2, 3, 4, 5, 6] rfl)
                · have c_37 := ln_le rfl (lN_toInt (n := y_30) (by omega)) (fun h9 => c_37 ((lg_cmp_ge _ _).mpr h9))
                  refine lv_aload_n hx hb dX12_worst_67 rfl (lv_at hl 4 rfl) ?_
                  refine lv_iload_n hx hb dX12_worst_68 rfl (lv_at hl 5 rfl) ?_
                  refine lv_sipush (v := 522) hx hb dX12_worst_69 (by decide) ?_
                  refine lv_iconst (v := 3) hx hb dX12_worst_72 (by decide) ?_
                  refine lv_iload hx hb dX12_worst_73 (lv_at hl 0 rfl) ?_
                  refine lv_imul hx hb dX12_worst_75 ?_
                  refine k_topi (y := nI (3 * y_30)) ((pk_mul 3 y_30).trans (congrArg nI (by omega))) ?_
                  refine lv_iadd hx hb dX12_worst_76 ?_
                  refine k_topi (y := nI (522 + 3 * y_30)) ((nI_add 522 (3 * y_30)).trans (congrArg nI (by omega))) ?_
                  refine va_calll (va_runV (As := [.int p1, .int (nI (522 + 3 * y_30))]) (rest := []) ⟨hx, hb, hml, hown, hts⟩ (c_X12_shareAt l dC dI g A hG f_6 h0 p1 (522 + 3 * y_30) q i_h0 k_10 hc1_ok ⟨y_30, rfl, by omega⟩) (cwV 2 hts (gi_V (fun w_ h0_ => ⟨List.mem_cons_of_mem _ (List.mem_append_right _ (List.mem_append_right _ (List.mem_append_right _ (List.mem_append_right _ (List.mem_append_left _ h0_))))), (tb_c_X12_shareAt w_ h0_).2⟩) (List.mem_cons_of_mem _ (List.mem_append_left _ (List.mem_of_getElem? (i := 9) rfl))) (List.mem_cons_of_mem _ (List.mem_append_left _ (List.mem_of_getElem? (i := 10) rfl))) (List.mem_cons_of_mem _ (List.mem_append_left _ (List.mem_of_getElem? (i := 11) rfl))) (List.mem_cons_of_mem _ (List.mem_append_left _ (List.mem_of_getElem? (i := 4) rfl)))) rfl rfl rfl (by decide +kernel) ⟨Nat.le_of_ble_eq_true rfl, Nat.le_of_ble_eq_true rfl⟩) ⟨fun a U g mk q => ⟨q.1, q.2.calling rfl rfl⟩, k_recv hK hI i_h0.1 k_9 (ci := 12) rfl, fun U hU hW => ⟨rfl, kIn.of hI hK hE hS hU hW⟩⟩ rfl rfl hl.1 rfl (lv_room (Nat.le_of_ble_eq_true rfl)) dX12_worst_77 ⟨Nat.le_of_ble_eq_true rfl, Nat.le_of_ble_eq_true rfl⟩) hS (fun q _ h => h) (fun q h => h) (fun r_39 u t H1 locs ht hvm w_38 hB hz1 hk1 hS => ?_)
                  have hI : Iv dC dI g A f_6 t.heap := hB
                  rw [ht] at hI
                  generalize H1 = H at hI hS ⊢
                  refine W.widen (k := 0) (n := 0) (Nat.le_of_ble_eq_true rfl) (Nat.le_of_ble_eq_true rfl) ?_
                  refine lv_lconst (v := 0) hx hb dX12_worst_80 (by decide) ?_
                  refine W.lcmp hx hb dX12_worst_81 ?_
                  refine lv_if_le (tgt := 170) hx hb dX12_worst_82 (by decide) (fun c_40 => ?_) (fun c_40 => ?_)
                  · have c_40 := lc_le rfl (by decide : Int64.toInt 0 = 0) ((lg_cmp_le _ _).mp c_40)
                    exact J_170  _ _ _ hI hS  (lv_sub hl [0, 1, 2, 3, 4, 5, 6] rfl)
                  · have c_40 := ln_le rfl (by decide : Int64.toInt 0 = 0) (fun h9 => c_40 ((lg_cmp_le _ _).mpr h9))
                    refine lv_sipush (v := 522) hx hb dX12_worst_85 (by decide) ?_
                    refine lv_iconst (v := 3) hx hb dX12_worst_88 (by decide) ?_
                    refine lv_iload hx hb dX12_worst_89 (lv_at hl 0 rfl) ?_
                    refine lv_imul hx hb dX12_worst_91 ?_
                    refine k_topi (y := nI (3 * y_30)) ((pk_mul 3 y_30).trans (congrArg nI (by omega))) ?_
                    refine lv_iadd hx hb dX12_worst_92 ?_
                    refine k_topi (y := nI (522 + 3 * y_30)) ((nI_add 522 (3 * y_30)).trans (congrArg nI (by omega))) ?_
                    refine lv_istore (lv' := [(9, .int (nI (522 + 3 * y_30))), (8, .int (nI y_30)), (6, .long y_31), (5, .int (nI y_23)), (3, .long y_32), (0, .ref h0), (1, .int p1), (2, .int p2)]) hx hb dX12_worst_93 hl (by decide) rfl (fun ls hl => ?_)
                    refine lv_lload hx hb dX12_worst_95 (lv_at hl 2 rfl) ?_
                    refine lv_aload_n hx hb dX12_worst_97 rfl (lv_at hl 5 rfl) ?_
                    refine k_get (ci := 12) (v := .ref (gr g h0 4)) (C := RX12) (T := TX12) (N := 27) hx hb hts (fun _ h0_ => List.mem_cons_of_mem _ (List.mem_append_right _ (List.mem_append_left _ h0_))) hown hK hI i_h0.1 k_9 rfl 4 (by decide) (hts (.fieldLink RX12 16 "DeadlineShareModel" "row" "[J") (List.mem_cons_of_mem _ (List.mem_append_left _ (List.mem_of_getElem? (i := 8) rfl)))) (fun _ h9 => h9) rfl dX12_worst_98 ?_
                    refine lv_iload hx hb dX12_worst_101 (lv_at hl 0 rfl) ?_
                    refine k_lald hx hb hK hI i_1.1 1 k_10 rfl (vp_in_nI (by omega) (by omega)) dX12_worst_103 ?_
                    refine k_topl (y := q (522 + 3 * y_30)) (congrArg q (nI_clamp (by omega))) ?_
                    refine lv_iload_n hx hb dX12_worst_104 rfl (lv_at hl 6 rfl) ?_
                    refine lv_i2l (v := p1.toInt64) hx hb dX12_worst_105 rfl ?_
                    have t_43 := Int32.toInt_toInt64 p1
                    refine W.lcmp hx hb dX12_worst_106 ?_
                    have J_117 : ∀ (y_44 : Int64) (H : Heap) (locs : List Loc) (ls : Array Slot), Iv dC dI g A f_6 H → va_S A s.heap H locs → lv_has ls 10 [(9, .int (nI (522 + 3 * y_30))), (8, .int (nI y_30)), (6, .long y_31), (5, .int (nI y_23)), (3, .long y_32), (0, .ref h0), (1, .int p1), (2, .int p2)] → W p l e (headSpec wq_c_X12_worst ({ frames := 2, cells := 0, slots := 0, locals := 46 } : Room)).room s m ([.ref h0, .int p1, .int p2].toArray) below meth c H locs 0 0 (MQ below (va_Ql (fun (r : Int64) (_ : Unit) => True) (fun (_ : Unit) t => ∃ f1 : Nat → va_E, Iv dC dI g A f1 t.heap ∧ Kp g [12] f f1 ∧ ∃ (w0 : Int32) (w1 : Int32) (w10 : Int32) (w12 : Int32) (w13 : Int32) (w14 : Int32) (w15 : Int32) (w16 : Int64) (w17 : Int32) (w18 : Int32) (w23 : Int32) (w24 : Int64) (w25 : Int64) (w26 : Int64) (q1 : Nat → Int64) (u1 : Nat → Int64) (im1 : Nat → Int64) (ik1 : Nat → Int32), (f1 h0 = .inr (12, [.int w0, .int w1, .ref (gr g h0 2), .ref (gr g h0 3), .ref (gr g h0 4), .ref (gr g h0 5), .ref (gr g h0 6), .ref (gr g h0 7), .ref (gr g h0 8), .ref (gr g h0 9), .int w10, .ref (gr g h0 11), .int w12, .int w13, .int w14, .int w15, .long w16, .int w17, .int w18, .ref (gr g h0 19), .ref (gr g h0 20), .ref (gr g h0 21), .ref (gr g h0 22), .int w23, .long w24, .long w25, .long w26])) ∧ (0 ≤ w10.toInt ∧ w10.toInt ≤ 10) ∧ (0 ≤ w12.toInt ∧ w12.toInt ≤ 200) ∧ (0 ≤ w23.toInt ∧ w23.toInt ≤ 8) ∧ (f1 (gr g h0 4) = .inl (gc g 1, 906, .inr (.inl q1))) ∧ (RowOK q1) ∧ (f1 (gr g h0 5) = .inl (gc g 1, 9060, .inr (.inl u1))) ∧ (f1 (gr g h0 7) = .inl (gc g 1, 1812, .inr (.inl im1))) ∧ (f1 (gr g h0 8) = .inl (gc g 3, 2, .inl ik1)) ∧ (UIq w10 u1 im1 ik1)) A) ([.ref h0, .int p1, .int p2].toArray) s 0 0 A) (F0 m 117 ls [.long y_44, .long y_31]) := by
                      intro y_44 H locs ls hI hS  hl
                      refine lv_aload_n hx hb dX12_worst_117 rfl (lv_at hl 5 rfl) ?_
                      refine lv_iload_n hx hb dX12_worst_118 rfl (lv_at hl 6 rfl) ?_
                      refine lv_iload hx hb dX12_worst_119 (lv_at hl 0 rfl) ?_
                      refine va_calll (va_runV (As := [.int p1, .int (nI (522 + 3 * y_30))]) (rest := [.long y_44, .long y_31]) ⟨hx, hb, hml, hown, hts⟩ (c_X12_shareAt l dC dI g A hG f_6 h0 p1 (522 + 3 * y_30) q i_h0 k_10 hc1_ok ⟨y_30, rfl, by omega⟩) (cwV 2 hts (gi_V (fun w_ h0_ => ⟨List.mem_cons_of_mem _ (List.mem_append_right _ (List.mem_append_right _ (List.mem_append_right _ (List.mem_append_right _ (List.mem_append_left _ h0_))))), (tb_c_X12_shareAt w_ h0_).2⟩) (List.mem_cons_of_mem _ (List.mem_append_left _ (List.mem_of_getElem? (i := 9) rfl))) (List.mem_cons_of_mem _ (List.mem_append_left _ (List.mem_of_getElem? (i := 10) rfl))) (List.mem_cons_of_mem _ (List.mem_append_left _ (List.mem_of_getElem? (i := 11) rfl))) (List.mem_cons_of_mem _ (List.mem_append_left _ (List.mem_of_getElem? (i := 4) rfl)))) rfl rfl rfl (by decide +kernel) ⟨Nat.le_of_ble_eq_true rfl, Nat.le_of_ble_eq_true rfl⟩) ⟨fun a U g mk q => ⟨q.1, q.2.calling rfl rfl⟩, k_recv hK hI i_h0.1 k_9 (ci := 12) rfl, fun U hU hW => ⟨rfl, kIn.of hI hK hE hS hU hW⟩⟩ rfl rfl hl.1 rfl (lv_room (Nat.le_of_ble_eq_true rfl)) dX12_worst_121 ⟨Nat.le_of_ble_eq_true rfl, Nat.le_of_ble_eq_true rfl⟩) hS (fun q _ h => h) (fun q h => h) (fun r_46 u t H1 locs ht hvm w_45 hB hz1 hk1 hS => ?_)
                      have hI : Iv dC dI g A f_6 t.heap := hB
                      rw [ht] at hI
                      generalize H1 = H at hI hS ⊢
                      refine W.widen (k := 0) (n := 0) (Nat.le_of_ble_eq_true rfl) (Nat.le_of_ble_eq_true rfl) ?_
                      refine lv_lsub hx hb dX12_worst_124 ?_
                      refine lv_topl (fun v_47 ev_47 => ?_)
                      have tv_47 := l_sb y_44 r_46
                      rw [← ev_47] at tv_47
                      refine lv_ladd hx hb dX12_worst_125 ?_
                      refine lv_topl (fun v_48 ev_48 => ?_)
                      have tv_48 := l_ad y_31 v_47
                      rw [← ev_48] at tv_48
                      refine lv_lstore (lv' := [(6, .long v_48), (9, .int (nI (522 + 3 * y_30))), (8, .int (nI y_30)), (5, .int (nI y_23)), (3, .long y_32), (0, .ref h0), (1, .int p1), (2, .int p2)]) hx hb dX12_worst_126 hl (by decide) rfl (fun ls hl => ?_)
                      refine lv_lload_n hx hb dX12_worst_128 rfl (lv_at hl 4 rfl) ?_
                      refine lv_ldc2 hx hb hown (hts (.constantLong RX12 291 (-9223372036854775808)) (List.mem_cons_of_mem _ (List.mem_append_left _ (List.mem_of_getElem? (i := 5) rfl)))) dX12_worst_129 ?_
                      refine W.lcmp hx hb dX12_worst_132 ?_
                      have J_163 : ∀ (y_49 : Int64) (H : Heap) (locs : List Loc) (ls : Array Slot), Iv dC dI g A f_6 H → va_S A s.heap H locs → lv_has ls 10 [(6, .long v_48), (9, .int (nI (522 + 3 * y_30))), (8, .int (nI y_30)), (5, .int (nI y_23)), (3, .long y_32), (0, .ref h0), (1, .int p1), (2, .int p2)] → W p l e (headSpec wq_c_X12_worst ({ frames := 2, cells := 0, slots := 0, locals := 46 } : Room)).room s m ([.ref h0, .int p1, .int p2].toArray) below meth c H locs 0 0 (MQ below (va_Ql (fun (r : Int64) (_ : Unit) => True) (fun (_ : Unit) t => ∃ f1 : Nat → va_E, Iv dC dI g A f1 t.heap ∧ Kp g [12] f f1 ∧ ∃ (w0 : Int32) (w1 : Int32) (w10 : Int32) (w12 : Int32) (w13 : Int32) (w14 : Int32) (w15 : Int32) (w16 : Int64) (w17 : Int32) (w18 : Int32) (w23 : Int32) (w24 : Int64) (w25 : Int64) (w26 : Int64) (q1 : Nat → Int64) (u1 : Nat → Int64) (im1 : Nat → Int64) (ik1 : Nat → Int32), (f1 h0 = .inr (12, [.int w0, .int w1, .ref (gr g h0 2), .ref (gr g h0 3), .ref (gr g h0 4), .ref (gr g h0 5), .ref (gr g h0 6), .ref (gr g h0 7), .ref (gr g h0 8), .ref (gr g h0 9), .int w10, .ref (gr g h0 11), .int w12, .int w13, .int w14, .int w15, .long w16, .int w17, .int w18, .ref (gr g h0 19), .ref (gr g h0 20), .ref (gr g h0 21), .ref (gr g h0 22), .int w23, .long w24, .long w25, .long w26])) ∧ (0 ≤ w10.toInt ∧ w10.toInt ≤ 10) ∧ (0 ≤ w12.toInt ∧ w12.toInt ≤ 200) ∧ (0 ≤ w23.toInt ∧ w23.toInt ≤ 8) ∧ (f1 (gr g h0 4) = .inl (gc g 1, 906, .inr (.inl q1))) ∧ (RowOK q1) ∧ (f1 (gr g h0 5) = .inl (gc g 1, 9060, .inr (.inl u1))) ∧ (f1 (gr g h0 7) = .inl (gc g 1, 1812, .inr (.inl im1))) ∧ (f1 (gr g h0 8) = .inl (gc g 3, 2, .inl ik1)) ∧ (UIq w10 u1 im1 ik1)) A) ([.ref h0, .int p1, .int p2].toArray) s 0 0 A) (F0 m 163 ls [.long y_49]) := by
                        intro y_49 H locs ls hI hS  hl
                        refine lv_lstore_n (lv' := [(3, .long y_49), (6, .long v_48), (9, .int (nI (522 + 3 * y_30))), (8, .int (nI y_30)), (5, .int (nI y_23)), (0, .ref h0), (1, .int p1), (2, .int p2)]) hx hb dX12_worst_163 rfl hl (by decide) rfl (fun ls hl => ?_)
                        refine lv_iinc (v := nI (y_30 + 1)) (lv' := [(8, .int (nI (y_30 + 1))), (3, .long y_49), (6, .long v_48), (9, .int (nI (522 + 3 * y_30))), (5, .int (nI y_23)), (0, .ref h0), (1, .int p1), (2, .int p2)]) hx hb dX12_worst_164 hl (k := 3) rfl (nI_1 _) (by decide) rfl (fun ls hl => ?_)
                        refine lv_goto (tgt := 54) hx hb dX12_worst_167 (by decide) ?_
                        exact ih (y_30 + 1) v_48 y_49 _ _ _ (by omega) hI hS (by first | omega | decide) (lv_sub hl [0, 2, 4, 1, 5, 6, 7] rfl)
                      have J_157 : ∀ (H : Heap) (locs : List Loc) (ls : Array Slot), Iv dC dI g A f_6 H → va_S A s.heap H locs → lv_has ls 10 [(6, .long v_48), (9, .int (nI (522 + 3 * y_30))), (8, .int (nI y_30)), (5, .int (nI y_23)), (3, .long y_32), (0, .ref h0), (1, .int p1), (2, .int p2)] → W p l e (headSpec wq_c_X12_worst ({ frames := 2, cells := 0, slots := 0, locals := 46 } : Room)).room s m ([.ref h0, .int p1, .int p2].toArray) below meth c H locs 0 0 (MQ below (va_Ql (fun (r : Int64) (_ : Unit) => True) (fun (_ : Unit) t => ∃ f1 : Nat → va_E, Iv dC dI g A f1 t.heap ∧ Kp g [12] f f1 ∧ ∃ (w0 : Int32) (w1 : Int32) (w10 : Int32) (w12 : Int32) (w13 : Int32) (w14 : Int32) (w15 : Int32) (w16 : Int64) (w17 : Int32) (w18 : Int32) (w23 : Int32) (w24 : Int64) (w25 : Int64) (w26 : Int64) (q1 : Nat → Int64) (u1 : Nat → Int64) (im1 : Nat → Int64) (ik1 : Nat → Int32), (f1 h0 = .inr (12, [.int w0, .int w1, .ref (gr g h0 2), .ref (gr g h0 3), .ref (gr g h0 4), .ref (gr g h0 5), .ref (gr g h0 6), .ref (gr g h0 7), .ref (gr g h0 8), .ref (gr g h0 9), .int w10, .ref (gr g h0 11), .int w12, .int w13, .int w14, .int w15, .long w16, .int w17, .int w18, .ref (gr g h0 19), .ref (gr g h0 20), .ref (gr g h0 21), .ref (gr g h0 22), .int w23, .long w24, .long w25, .long w26])) ∧ (0 ≤ w10.toInt ∧ w10.toInt ≤ 10) ∧ (0 ≤ w12.toInt ∧ w12.toInt ≤ 200) ∧ (0 ≤ w23.toInt ∧ w23.toInt ≤ 8) ∧ (f1 (gr g h0 4) = .inl (gc g 1, 906, .inr (.inl q1))) ∧ (RowOK q1) ∧ (f1 (gr g h0 5) = .inl (gc g 1, 9060, .inr (.inl u1))) ∧ (f1 (gr g h0 7) = .inl (gc g 1, 1812, .inr (.inl im1))) ∧ (f1 (gr g h0 8) = .inl (gc g 3, 2, .inl ik1)) ∧ (UIq w10 u1 im1 ik1)) A) ([.ref h0, .int p1, .int p2].toArray) s 0 0 A) (F0 m 157 ls []) := by
                        intro H locs ls hI hS  hl
                        refine lv_lload hx hb dX12_worst_157 (lv_at hl 0 rfl) ?_
                        refine lv_goto (tgt := 163) hx hb dX12_worst_159 (by decide) ?_
                        exact J_163 v_48 _ _ _ hI hS  (lv_sub hl [0, 1, 2, 3, 4, 5, 6, 7] rfl)
                      refine lv_if_eq (tgt := 157) hx hb dX12_worst_133 (by decide) (fun c_50 => ?_) (fun c_50 => ?_)
                      · have c_50 := lc_eq rfl (by decide : Int64.toInt (-9223372036854775808) = (-9223372036854775808)) ((lg_cmp_eq _ _).mp c_50)
                        exact J_157  _ _ _ hI hS  (lv_sub hl [0, 1, 2, 3, 4, 5, 6, 7] rfl)
                      · have c_50 := ln_eq rfl (by decide : Int64.toInt (-9223372036854775808) = (-9223372036854775808)) (fun h9 => c_50 ((lg_cmp_eq _ _).mpr h9))
                        refine lv_iload_n hx hb dX12_worst_136 rfl (lv_at hl 7 rfl) ?_
                        have J_162 : ∀ (H : Heap) (locs : List Loc) (ls : Array Slot), Iv dC dI g A f_6 H → va_S A s.heap H locs → lv_has ls 10 [(6, .long v_48), (9, .int (nI (522 + 3 * y_30))), (8, .int (nI y_30)), (5, .int (nI y_23)), (3, .long y_32), (0, .ref h0), (1, .int p1), (2, .int p2)] → W p l e (headSpec wq_c_X12_worst ({ frames := 2, cells := 0, slots := 0, locals := 46 } : Room)).room s m ([.ref h0, .int p1, .int p2].toArray) below meth c H locs 0 0 (MQ below (va_Ql (fun (r : Int64) (_ : Unit) => True) (fun (_ : Unit) t => ∃ f1 : Nat → va_E, Iv dC dI g A f1 t.heap ∧ Kp g [12] f f1 ∧ ∃ (w0 : Int32) (w1 : Int32) (w10 : Int32) (w12 : Int32) (w13 : Int32) (w14 : Int32) (w15 : Int32) (w16 : Int64) (w17 : Int32) (w18 : Int32) (w23 : Int32) (w24 : Int64) (w25 : Int64) (w26 : Int64) (q1 : Nat → Int64) (u1 : Nat → Int64) (im1 : Nat → Int64) (ik1 : Nat → Int32), (f1 h0 = .inr (12, [.int w0, .int w1, .ref (gr g h0 2), .ref (gr g h0 3), .ref (gr g h0 4), .ref (gr g h0 5), .ref (gr g h0 6), .ref (gr g h0 7), .ref (gr g h0 8), .ref (gr g h0 9), .int w10, .ref (gr g h0 11), .int w12, .int w13, .int w14, .int w15, .long w16, .int w17, .int w18, .ref (gr g h0 19), .ref (gr g h0 20), .ref (gr g h0 21), .ref (gr g h0 22), .int w23, .long w24, .long w25, .long w26])) ∧ (0 ≤ w10.toInt ∧ w10.toInt ≤ 10) ∧ (0 ≤ w12.toInt ∧ w12.toInt ≤ 200) ∧ (0 ≤ w23.toInt ∧ w23.toInt ≤ 8) ∧ (f1 (gr g h0 4) = .inl (gc g 1, 906, .inr (.inl q1))) ∧ (RowOK q1) ∧ (f1 (gr g h0 5) = .inl (gc g 1, 9060, .inr (.inl u1))) ∧ (f1 (gr g h0 7) = .inl (gc g 1, 1812, .inr (.inl im1))) ∧ (f1 (gr g h0 8) = .inl (gc g 3, 2, .inl ik1)) ∧ (UIq w10 u1 im1 ik1)) A) ([.ref h0, .int p1, .int p2].toArray) s 0 0 A) (F0 m 162 ls []) := by
                          intro H locs ls hI hS  hl
                          refine lv_lload_n hx hb dX12_worst_162 rfl (lv_at hl 4 rfl) ?_
                          exact J_163 y_32 _ _ _ hI hS  (lv_sub hl [0, 1, 2, 3, 4, 5, 6, 7] rfl)
                        refine lv_if_ne (tgt := 150) hx hb dX12_worst_137 (by decide) (fun c_51 => ?_) (fun c_51 => ?_)
                        · have c_51 := kn_eq rfl (by decide : Int32.toInt 0 = 0) c_51
                          refine lv_lload hx hb dX12_worst_150 (lv_at hl 0 rfl) ?_
                          refine lv_lload_n hx hb dX12_worst_152 rfl (lv_at hl 4 rfl) ?_
                          refine W.lcmp hx hb dX12_worst_153 ?_
                          refine lv_if_ge (tgt := 162) hx hb dX12_worst_154 (by decide) (fun c_52 => ?_) (fun c_52 => ?_)
                          · have c_52 := lc_le rfl rfl ((lg_cmp_ge _ _).mp c_52)
                            exact J_162  _ _ _ hI hS  (lv_sub hl [0, 1, 2, 3, 4, 5, 6, 7] rfl)
                          · have c_52 := ln_le rfl rfl (fun h9 => c_52 ((lg_cmp_ge _ _).mpr h9))
                            exact J_157  _ _ _ hI hS  (lv_sub hl [0, 1, 2, 3, 4, 5, 6, 7] rfl)
                        · have c_51 := kc_eq rfl (by decide : Int32.toInt 0 = 0) c_51
                          refine lv_lload hx hb dX12_worst_140 (lv_at hl 0 rfl) ?_
                          refine lv_lload_n hx hb dX12_worst_142 rfl (lv_at hl 4 rfl) ?_
                          refine W.lcmp hx hb dX12_worst_143 ?_
                          refine lv_if_le (tgt := 162) hx hb dX12_worst_144 (by decide) (fun c_53 => ?_) (fun c_53 => ?_)
                          · have c_53 := lc_le rfl rfl ((lg_cmp_le _ _).mp c_53)
                            exact J_162  _ _ _ hI hS  (lv_sub hl [0, 1, 2, 3, 4, 5, 6, 7] rfl)
                          · have c_53 := ln_le rfl rfl (fun h9 => c_53 ((lg_cmp_le _ _).mpr h9))
                            refine lv_goto (tgt := 157) hx hb dX12_worst_147 (by decide) ?_
                            exact J_157  _ _ _ hI hS  (lv_sub hl [0, 1, 2, 3, 4, 5, 6, 7] rfl)
                    refine lv_if_ne (tgt := 116) hx hb dX12_worst_107 (by decide) (fun c_54 => ?_) (fun c_54 => ?_)
                    · have c_54 := ln_eq rfl rfl (fun h9 => c_54 ((lg_cmp_eq _ _).mpr h9))
                      refine lv_lconst (v := 0) hx hb dX12_worst_116 (by decide) ?_
                      exact J_117 0 _ _ _ hI hS  (lv_sub hl [0, 1, 2, 3, 4, 5, 6, 7] rfl)
                    · have c_54 := lc_eq rfl rfl ((lg_cmp_eq _ _).mp c_54)
                      refine lv_ldc2 hx hb hown (hts (.constantLong RX12 108 (5354228880)) (List.mem_cons_of_mem _ (List.mem_append_left _ (List.mem_of_getElem? (i := 12) rfl)))) dX12_worst_110 ?_
                      refine lv_goto (tgt := 117) hx hb dX12_worst_113 (by decide) ?_
                      exact J_117 5354228880 _ _ _ hI hS  (lv_sub hl [0, 1, 2, 3, 4, 5, 6, 7] rfl)
            exact K_54 _ y_23 0 y_24 _ _ _ (Nat.lt_succ_self _) hI hS (by first | omega | decide | (simp only [show Int64.toInt 0 = 0 from by decide]; omega)) (lv_sub hl [0, 1, 2, 3, 4, 5, 6] rfl)
      exact K_34 _ 0 (-9223372036854775808) _ _ _ (Nat.lt_succ_self _) hI hS (by first | omega | decide | (simp only [show Int64.toInt (-9223372036854775808) = (-9223372036854775808) from by decide]; omega)) (lv_sub hl [0, 1, 2, 3, 4] rfl)
    · have c_22 := kc_eq rfl (by decide : Int32.toInt 0 = 0) c_22
      refine lv_ldc2 hx hb hown (hts (.constantLong RX12 291 (-9223372036854775808)) (List.mem_cons_of_mem _ (List.mem_append_left _ (List.mem_of_getElem? (i := 5) rfl)))) dX12_worst_23 ?_
      exact W.lret (v := (-9223372036854775808)) hx hb hr (fun t ht hW => ⟨⟨(-9223372036854775808), (), rfl, trivial, ⟨f_6, k_ret ht hI, kp_8, 0, z1, z10, z12, z13, z14, z15, z16, z17, z18, z23, z24, z25, z26, q, u, im, kt, k_9, (by first | omega | decide), (by first | omega | decide), (by first | omega | decide), k_10, hc1_ok, k_11, k_12, k_13, hU⟩⟩, hS.F ht⟩) hS.2.2 dX12_worst_26
theorem tw_985 : q_g (.constantLong RX12 286 (9999)) := ⟨(List.mem_append_right _ (List.mem_of_getElem? (i := 1396) (by decide +kernel))), good_of_word (by decide +kernel)⟩
theorem tw_986 : q_g (.constantLong RX12 172 (60)) := ⟨(List.mem_append_right _ (List.mem_of_getElem? (i := 1325) (by decide +kernel))), good_of_word (by decide +kernel)⟩
theorem tw_987 : q_g (.code yX12_ticks cX12_ticks 4 (some .int)) := ⟨(List.mem_append_right _ (List.mem_of_getElem? (i := 1395) (by decide +kernel))), good_of_word (by decide +kernel)⟩
def ow_c_X12_ticks : List Cond := [.fieldLink RX12 67 "DeadlineShareModel" "thrown" "I", .constantLong RX12 172 (60), .methodLink RX12 83 yX12_in, .static yX12_in, .initialized RX12, .fieldLink RX12 16 "DeadlineShareModel" "row" "[J", .constantLong RX12 286 (9999), .methodLink RX12 139 yX12_remember, .instanceMethod yX12_remember, .selects RX12 yX12_remember yX12_remember, .methodLink RX12 80 yX12_tell, .instanceMethod yX12_tell, .selects RX12 yX12_tell yX12_tell, .methodLink RX12 288 yX12_tick, .instanceMethod yX12_tick, .selects RX12 yX12_tick yX12_tick, .methodLink RX12 76 yX12_refuse, .instanceMethod yX12_refuse, .selects RX12 yX12_refuse yX12_refuse]
def wq_c_X12_ticks : List Cond := .code yX12_ticks cX12_ticks 4 (some .int) :: (ow_c_X12_ticks ++ (u_ws RX12 TX12 27 ++ (wq_c_X12_in ++ (wq_c_X12_remember ++ (wq_c_X12_tell ++ (wq_c_X12_tick ++ (wq_c_X12_refuse ++ ([] : List Cond))))))))
theorem tb_c_X12_ticks : ∀ w ∈ wq_c_X12_ticks, q_g w := by
  unfold wq_c_X12_ticks ow_c_X12_ticks
  exact q_cons tw_987 (q_app (q_cons tw_927 (q_cons tw_986 (q_cons tw_730 (q_cons tw_729 (q_cons tw_728 (q_cons tw_731 (q_cons tw_985 (q_cons tw_963 (q_cons tw_962 (q_cons tw_961 (q_cons tw_960 (q_cons tw_959 (q_cons tw_958 (q_cons tw_919 (q_cons tw_918 (q_cons tw_917 (q_cons tw_966 (q_cons tw_965 (q_cons tw_964 q_nil))))))))))))))))))) (q_app tu_X12 (q_app tb_c_X12_in (q_app tb_c_X12_remember (q_app tb_c_X12_tell (q_app tb_c_X12_tick (q_app tb_c_X12_refuse q_nil)))))))
set_option maxHeartbeats 4000000 in
set_option maxRecDepth 100000 in
theorem c_X12_ticks (l : Launch) (dC : Nat → ClassId) (dI : Nat → Nat → Nat) (g : kG) (A : Nat → Prop) (hG : kWf g) (f : Nat → va_E) (h0 : Nat) (p1 : Int32) (z0 : Int32) (z1 : Int32) (z10 : Int32) (z12 : Int32) (z13 : Int32) (z14 : Int32) (z15 : Int32) (z16 : Int64) (z17 : Int32) (z18 : Int32) (z23 : Int32) (z24 : Int64) (z25 : Int64) (z26 : Int64) (q : Nat → Int64) (u : Nat → Int64) (im : Nat → Int64) (kt : Nat → Int32) (i_h0 : ik g 12 h0) (hc0 : f h0 = .inr (12, [.int z0, .int z1, .ref (gr g h0 2), .ref (gr g h0 3), .ref (gr g h0 4), .ref (gr g h0 5), .ref (gr g h0 6), .ref (gr g h0 7), .ref (gr g h0 8), .ref (gr g h0 9), .int z10, .ref (gr g h0 11), .int z12, .int z13, .int z14, .int z15, .long z16, .int z17, .int z18, .ref (gr g h0 19), .ref (gr g h0 20), .ref (gr g h0 21), .ref (gr g h0 22), .int z23, .long z24, .long z25, .long z26])) (hc0_10 : 0 ≤ z10.toInt ∧ z10.toInt ≤ 10) (hc0_12 : 0 ≤ z12.toInt ∧ z12.toInt ≤ 200) (hc0_23 : 0 ≤ z23.toInt ∧ z23.toInt ≤ 8) (hc1 : f (gr g h0 4) = .inl (gc g 1, 906, .inr (.inl q))) (hc1_ok : RowOK q) (hc2 : f (gr g h0 5) = .inl (gc g 1, 9060, .inr (.inl u))) (hc3 : f (gr g h0 7) = .inl (gc g 1, 1812, .inr (.inl im))) (hc4 : f (gr g h0 8) = .inl (gc g 3, 2, .inl kt)) (hU : UIq z10 u im kt) : Met l yX12_ticks wq_c_X12_ticks ({ frames := 8, cells := 0, slots := 0, locals := 187 } : Room) (va_Pc [.ref h0, .int p1] (fun U => kIn dC dI g A f U)) (va_Qi (fun (r : Int32) (_ : Unit) => True) (fun (_ : Unit) t => ∃ f1 : Nat → va_E, Iv dC dI g A f1 t.heap ∧ Kp g [12, 30, 32, 33, 37] f f1 ∧ ∃ (w0 : Int32) (w1 : Int32) (w10 : Int32) (w12 : Int32) (w13 : Int32) (w14 : Int32) (w15 : Int32) (w16 : Int64) (w17 : Int32) (w18 : Int32) (w23 : Int32) (w24 : Int64) (w25 : Int64) (w26 : Int64) (q1 : Nat → Int64) (u1 : Nat → Int64) (im1 : Nat → Int64) (ik1 : Nat → Int32), (f1 h0 = .inr (12, [.int w0, .int w1, .ref (gr g h0 2), .ref (gr g h0 3), .ref (gr g h0 4), .ref (gr g h0 5), .ref (gr g h0 6), .ref (gr g h0 7), .ref (gr g h0 8), .ref (gr g h0 9), .int w10, .ref (gr g h0 11), .int w12, .int w13, .int w14, .int w15, .long w16, .int w17, .int w18, .ref (gr g h0 19), .ref (gr g h0 20), .ref (gr g h0 21), .ref (gr g h0 22), .int w23, .long w24, .long w25, .long w26])) ∧ (0 ≤ w10.toInt ∧ w10.toInt ≤ 10) ∧ (0 ≤ w12.toInt ∧ w12.toInt ≤ 200) ∧ (0 ≤ w23.toInt ∧ w23.toInt ≤ 8) ∧ (f1 (gr g h0 4) = .inl (gc g 1, 906, .inr (.inl q1))) ∧ (RowOK q1) ∧ (f1 (gr g h0 5) = .inl (gc g 1, 9060, .inr (.inl u1))) ∧ (f1 (gr g h0 7) = .inl (gc g 1, 1812, .inr (.inl im1))) ∧ (f1 (gr g h0 8) = .inl (gc g 3, 2, .inl ik1)) ∧ (UIq w10 u1 im1 ik1)) A) 0 0 A := by
  refine Met.ofW (cc := cX12_ticks) (maxL := 4) (ret := (some .int)) (by decide) rfl ?_
  intro p e s m args below meth c s₁ B hml hv
  obtain ⟨rfl, hI, hK, hE⟩ := hv
  have hx := B.exec
  have hb := B.bytes
  have hr := B.returns
  have hts := atoms_spec (ws := wq_c_X12_ticks) B.pre
  have hown : s.vm.findClass RX12 = some m.cls := findClass_of_methodNamed B.named
  have hlocks := B.notSynchronized
  have hS : va_S A s.heap s.heap [] := va_S.rf
  have hk0 : Kp g [12, 30, 32, 33, 37] f f := Kp.rf
  have hl := lv_entry ([.ref h0, .int p1]) (n := 4) (Nat.le_of_ble_eq_true rfl)
  rw [lg_entry_eq]
  generalize (lg_sl ([.ref h0, .int p1]) ++ List.replicate (4 - (lg_sl ([.ref h0, .int p1])).length) Slot.unset).toArray = ls at hl ⊢
  have hl : lv_has ls 4 [(0, .ref h0), (1, .int p1)] := hl
  have i_1 := kw_12_4 hG i_h0
  have d_2 := rk_hd hc1_ok
  have i_3 := kw_12_5 hG i_h0
  have i_4 := kw_12_7 hG i_h0
  have i_5 := kw_12_8 hG i_h0
  refine lv_aload_n hx hb dX12_ticks_0 rfl (lv_at hl 0 rfl) ?_
  refine lv_iconst (v := 0) hx hb dX12_ticks_1 (by decide) ?_
  refine k_put (ci := 12) (v := .int 0) (ty := .int) (C := RX12) (T := TX12) (N := 27) hx hb hts (fun _ h0_ => List.mem_cons_of_mem _ (List.mem_append_right _ (List.mem_append_left _ h0_))) tyX12 tyX12_ok nmX12 hown hK hI hS i_h0.1 hc0 rfl 0 (by decide) (hts (.fieldLink RX12 67 "DeadlineShareModel" "thrown" "I") (List.mem_cons_of_mem _ (List.mem_append_left _ (List.mem_of_getElem? (i := 0) rfl)))) (fun _ h9 => h9) rfl (by decide +kernel) rfl rfl (Nat.le_of_ble_eq_true rfl) rfl (cl_12 i_h0 (by omega) (by omega) (by omega)) dX12_ticks_2 (fun f_6 H locs e_7 hI hS => ?_)
  have k_9 : f_6 h0 = .inr (12, [.int 0, .int z1, .ref (gr g h0 2), .ref (gr g h0 3), .ref (gr g h0 4), .ref (gr g h0 5), .ref (gr g h0 6), .ref (gr g h0 7), .ref (gr g h0 8), .ref (gr g h0 9), .int z10, .ref (gr g h0 11), .int z12, .int z13, .int z14, .int z15, .long z16, .int z17, .int z18, .ref (gr g h0 19), .ref (gr g h0 20), .ref (gr g h0 21), .ref (gr g h0 22), .int z23, .long z24, .long z25, .long z26]) := by rw [e_7]; exact va_up_self _ _ _
  have k_10 : f_6 (gr g h0 4) = .inl (gc g 1, 906, .inr (.inl q)) := by rw [e_7, va_up_ne _ _ (ik_ne i_1 i_h0 (by decide))]; exact hc1
  have k_11 : f_6 (gr g h0 5) = .inl (gc g 1, 9060, .inr (.inl u)) := by rw [e_7, va_up_ne _ _ (ik_ne i_3 i_h0 (by decide))]; exact hc2
  have k_12 : f_6 (gr g h0 7) = .inl (gc g 1, 1812, .inr (.inl im)) := by rw [e_7, va_up_ne _ _ (ik_ne i_4 i_h0 (by decide))]; exact hc3
  have k_13 : f_6 (gr g h0 8) = .inl (gc g 3, 2, .inl kt) := by rw [e_7, va_up_ne _ _ (ik_ne i_5 i_h0 (by decide))]; exact hc4
  have kp_8 := Kp.put hk0 i_h0 (by decide) e_7
  refine lv_iload_n hx hb dX12_ticks_5 rfl (lv_at hl 1 rfl) ?_
  refine lv_i2l (v := p1.toInt64) hx hb dX12_ticks_6 rfl ?_
  have t_14 := Int32.toInt_toInt64 p1
  refine lv_lconst (v := 1) hx hb dX12_ticks_7 (by decide) ?_
  refine lv_ldc2 hx hb hown (hts (.constantLong RX12 172 (60)) (List.mem_cons_of_mem _ (List.mem_append_left _ (List.mem_of_getElem? (i := 1) rfl)))) dX12_ticks_8 ?_
  refine va_calli (va_runS (As := [.long p1.toInt64, .long 1, .long 60]) (rest := []) ⟨hx, hb, hml, hown, hts⟩ (c_X12_in l dC dI g A hG f_6 p1.toInt64 1 60) (va_cwS 3 hts (gi_S (fun w_ h0_ => ⟨List.mem_cons_of_mem _ (List.mem_append_right _ (List.mem_append_right _ (List.mem_append_left _ h0_))), (tb_c_X12_in w_ h0_).2⟩) (List.mem_cons_of_mem _ (List.mem_append_left _ (List.mem_of_getElem? (i := 2) rfl))) (List.mem_cons_of_mem _ (List.mem_append_left _ (List.mem_of_getElem? (i := 3) rfl))) (List.mem_cons_of_mem _ (List.mem_append_left _ (List.mem_of_getElem? (i := 4) rfl)))) rfl rfl rfl (by decide +kernel) ⟨Nat.le_of_ble_eq_true rfl, Nat.le_of_ble_eq_true rfl⟩) ⟨fun a U g mk q => ⟨q.1, q.2.calling rfl rfl⟩, fun U hU hW => ⟨rfl, kIn.of hI hK hE hS hU hW⟩⟩ rfl rfl hl.1 rfl (lv_room (Nat.le_of_ble_eq_true rfl)) dX12_ticks_11 ⟨Nat.le_of_ble_eq_true rfl, Nat.le_of_ble_eq_true rfl⟩) hS (fun q _ h => h) (fun q h => h) (fun r_16 u t H1 locs ht hvm w_15 hB hz1 hk1 hS => ?_)
  have hI : Iv dC dI g A f_6 t.heap := hB
  rw [ht] at hI
  generalize H1 = H at hI hS ⊢
  refine W.widen (k := 0) (n := 0) (Nat.le_of_ble_eq_true rfl) (Nat.le_of_ble_eq_true rfl) ?_
  have w_15 : (r_16.toInt = 0 ∧ (p1.toInt64.toInt < (1 : Int64).toInt ∨ (60 : Int64).toInt < p1.toInt64.toInt)) ∨ (r_16.toInt = 1 ∧ (1 : Int64).toInt ≤ p1.toInt64.toInt ∧ p1.toInt64.toInt ≤ (60 : Int64).toInt) := w_15
  have g_17 : Int64.toInt (1) = 1 := by decide
  have g_18 : Int64.toInt (60) = 60 := by decide
  refine lv_if_ne (tgt := 23) hx hb dX12_ticks_14 (by decide) (fun c_19 => ?_) (fun c_19 => ?_)
  · have c_19 := kn_eq rfl (by decide : Int32.toInt 0 = 0) c_19
    refine lv_aload_n hx hb dX12_ticks_23 rfl (lv_at hl 0 rfl) ?_
    refine k_get (ci := 12) (v := .ref (gr g h0 4)) (C := RX12) (T := TX12) (N := 27) hx hb hts (fun _ h0_ => List.mem_cons_of_mem _ (List.mem_append_right _ (List.mem_append_left _ h0_))) hown hK hI i_h0.1 k_9 rfl 4 (by decide) (hts (.fieldLink RX12 16 "DeadlineShareModel" "row" "[J") (List.mem_cons_of_mem _ (List.mem_append_left _ (List.mem_of_getElem? (i := 5) rfl)))) (fun _ h9 => h9) rfl dX12_ticks_24 ?_
    refine lv_iconst (v := 1) hx hb dX12_ticks_27 (by decide) ?_
    refine k_lald hx hb hK hI i_1.1 1 k_10 rfl (by unfold vp_in; decide) dX12_ticks_28 ?_
    refine k_topl (y := q 1) (congrArg q (show Int32.toNatClampNeg 1 = 1 by decide)) ?_
    refine lv_iload_n hx hb dX12_ticks_29 rfl (lv_at hl 1 rfl) ?_
    refine lv_i2l (v := p1.toInt64) hx hb dX12_ticks_30 rfl ?_
    have t_22 := Int32.toInt_toInt64 p1
    refine lv_ladd hx hb dX12_ticks_31 ?_
    refine lv_topl (fun v_23 ev_23 => ?_)
    have tv_23 := l_ad (q 1) p1.toInt64
    rw [← ev_23] at tv_23
    refine lv_ldc2 hx hb hown (hts (.constantLong RX12 286 (9999)) (List.mem_cons_of_mem _ (List.mem_append_left _ (List.mem_of_getElem? (i := 6) rfl)))) dX12_ticks_32 ?_
    refine W.lcmp hx hb dX12_ticks_35 ?_
    refine lv_if_le (tgt := 46) hx hb dX12_ticks_36 (by decide) (fun c_24 => ?_) (fun c_24 => ?_)
    · have c_24 := lc_le rfl (by decide : Int64.toInt 9999 = 9999) ((lg_cmp_le _ _).mp c_24)
      refine lv_aload_n hx hb dX12_ticks_46 rfl (lv_at hl 0 rfl) ?_
      refine lv_bipush (v := 6) hx hb dX12_ticks_47 (by decide) ?_
      refine va_callv (va_runV (As := [.int 6]) (rest := []) ⟨hx, hb, hml, hown, hts⟩ (c_X12_remember l dC dI g A hG f_6 h0 6 0 z1 z10 z12 z13 z14 z15 z16 z17 z18 z23 z24 z25 z26 q u im kt i_h0 k_9 (by first | omega | (simp only [k_c0]; omega)) (by first | omega | (simp only [k_c0]; omega)) (by first | omega | (simp only [k_c0]; omega)) k_10 hc1_ok k_11 k_12 k_13 (by decide)) (cwV 1 hts (gi_V (fun w_ h0_ => ⟨List.mem_cons_of_mem _ (List.mem_append_right _ (List.mem_append_right _ (List.mem_append_right _ (List.mem_append_left _ h0_)))), (tb_c_X12_remember w_ h0_).2⟩) (List.mem_cons_of_mem _ (List.mem_append_left _ (List.mem_of_getElem? (i := 7) rfl))) (List.mem_cons_of_mem _ (List.mem_append_left _ (List.mem_of_getElem? (i := 8) rfl))) (List.mem_cons_of_mem _ (List.mem_append_left _ (List.mem_of_getElem? (i := 9) rfl))) (List.mem_cons_of_mem _ (List.mem_append_left _ (List.mem_of_getElem? (i := 4) rfl)))) rfl rfl rfl (by decide +kernel) ⟨Nat.le_of_ble_eq_true rfl, Nat.le_of_ble_eq_true rfl⟩) ⟨fun a U g mk q => ⟨q.1, q.2.calling rfl rfl⟩, k_recv hK hI i_h0.1 k_9 (ci := 12) rfl, fun U hU hW => ⟨rfl, kIn.of hI hK hE hS hU hW⟩⟩ rfl rfl hl.1 rfl (lv_room (Nat.le_of_ble_eq_true rfl)) dX12_ticks_49 ⟨Nat.le_of_ble_eq_true rfl, Nat.le_of_ble_eq_true rfl⟩) hS (fun q _ h => h) (fun q h => h) (fun u t H1 locs ht hvm _ hB hz1 hk1 hS => ?_)
      obtain ⟨f_25, hI, kc_27, w10_28, u1_29, k_30, z_31, k_32, z_33⟩ := hB
      rw [ht] at hI
      have k_34 : f_25 (gr g h0 4) = .inl (gc g 1, 906, .inr (.inl q)) := Kp.at kc_27 i_1 (by decide) k_10
      have k_35 : f_25 (gr g h0 7) = .inl (gc g 1, 1812, .inr (.inl im)) := Kp.at kc_27 i_4 (by decide) k_12
      have k_36 : f_25 (gr g h0 8) = .inl (gc g 3, 2, .inl kt) := Kp.at kc_27 i_5 (by decide) k_13
      have k_30 : f_25 h0 = .inr (12, [.int (0 : Int32), .int z1, .ref (gr g h0 2), .ref (gr g h0 3), .ref (gr g h0 4), .ref (gr g h0 5), .ref (gr g h0 6), .ref (gr g h0 7), .ref (gr g h0 8), .ref (gr g h0 9), .int w10_28, .ref (gr g h0 11), .int z12, .int z13, .int z14, .int z15, .long z16, .int z17, .int z18, .ref (gr g h0 19), .ref (gr g h0 20), .ref (gr g h0 21), .ref (gr g h0 22), .int z23, .long z24, .long z25, .long z26]) := k_30
      have z_31 : 0 ≤ w10_28.toInt ∧ w10_28.toInt ≤ 10 := z_31
      have z_33 : UIq w10_28 u1_29 im kt := z_33
      have kp_37 := Kp.call kp_8 kc_27 (by decide)
      generalize H1 = H at hI hS ⊢
      refine W.widen (k := 0) (n := 0) (Nat.le_of_ble_eq_true rfl) (Nat.le_of_ble_eq_true rfl) ?_
      refine lv_iconst (v := 0) hx hb dX12_ticks_52 (by decide) ?_
      refine lv_istore_n (lv' := [(2, .int 0), (0, .ref h0), (1, .int p1)]) hx hb dX12_ticks_53 rfl hl (by decide) rfl (fun ls hl => ?_)
      refine lv_iconst (v := 0) hx hb dX12_ticks_54 (by decide) ?_
      refine lv_istore_n (lv' := [(3, .int 0), (2, .int 0), (0, .ref h0), (1, .int p1)]) hx hb dX12_ticks_55 rfl hl (by decide) rfl (fun ls hl => ?_)
      have K_56 : ∀ (nn : Nat) (y_38 : Int32) (y_39 : Int32) (q_41 : Nat → Int64) (y_44 : Int64) (f_40 : Nat → va_E) (H : Heap) (locs : List Loc) (ls : Array Slot), (p1.toInt - y_38.toInt).toNat < nn → Iv dC dI g A f_40 H → va_S A s.heap H locs → f_40 (gr g h0 4) = .inl (gc g 1, 906, .inr (.inl q_41)) → RowOK q_41 → f_40 h0 = .inr (12, [.int (0 : Int32), .int z1, .ref (gr g h0 2), .ref (gr g h0 3), .ref (gr g h0 4), .ref (gr g h0 5), .ref (gr g h0 6), .ref (gr g h0 7), .ref (gr g h0 8), .ref (gr g h0 9), .int w10_28, .ref (gr g h0 11), .int z12, .int z13, .int z14, .int z15, .long z16, .int z17, .int z18, .ref (gr g h0 19), .ref (gr g h0 20), .ref (gr g h0 21), .ref (gr g h0 22), .int z23, .long y_44, .long z25, .long z26]) → f_40 (gr g h0 7) = .inl (gc g 1, 1812, .inr (.inl im)) → f_40 (gr g h0 8) = .inl (gc g 3, 2, .inl kt) → f_40 (gr g h0 5) = .inl (gc g 1, 9060, .inr (.inl u1_29)) → Kp g [12, 30, 32, 33, 37] f f_40 → ((q_41 0).toInt = (q 0).toInt) → ((q_41 1).toInt = (q 1).toInt + y_38.toInt) → (0 ≤ y_38.toInt) → lv_has ls 4 [(3, .int y_38), (2, .int y_39), (0, .ref h0), (1, .int p1)] → W p l e (headSpec wq_c_X12_ticks ({ frames := 8, cells := 0, slots := 0, locals := 187 } : Room)).room s m ([.ref h0, .int p1].toArray) below meth c H locs 0 0 (MQ below (va_Qi (fun (r : Int32) (_ : Unit) => True) (fun (_ : Unit) t => ∃ f1 : Nat → va_E, Iv dC dI g A f1 t.heap ∧ Kp g [12, 30, 32, 33, 37] f f1 ∧ ∃ (w0 : Int32) (w1 : Int32) (w10 : Int32) (w12 : Int32) (w13 : Int32) (w14 : Int32) (w15 : Int32) (w16 : Int64) (w17 : Int32) (w18 : Int32) (w23 : Int32) (w24 : Int64) (w25 : Int64) (w26 : Int64) (q1 : Nat → Int64) (u1 : Nat → Int64) (im1 : Nat → Int64) (ik1 : Nat → Int32), (f1 h0 = .inr (12, [.int w0, .int w1, .ref (gr g h0 2), .ref (gr g h0 3), .ref (gr g h0 4), .ref (gr g h0 5), .ref (gr g h0 6), .ref (gr g h0 7), .ref (gr g h0 8), .ref (gr g h0 9), .int w10, .ref (gr g h0 11), .int w12, .int w13, .int w14, .int w15, .long w16, .int w17, .int w18, .ref (gr g h0 19), .ref (gr g h0 20), .ref (gr g h0 21), .ref (gr g h0 22), .int w23, .long w24, .long w25, .long w26])) ∧ (0 ≤ w10.toInt ∧ w10.toInt ≤ 10) ∧ (0 ≤ w12.toInt ∧ w12.toInt ≤ 200) ∧ (0 ≤ w23.toInt ∧ w23.toInt ≤ 8) ∧ (f1 (gr g h0 4) = .inl (gc g 1, 906, .inr (.inl q1))) ∧ (RowOK q1) ∧ (f1 (gr g h0 5) = .inl (gc g 1, 9060, .inr (.inl u1))) ∧ (f1 (gr g h0 7) = .inl (gc g 1, 1812, .inr (.inl im1))) ∧ (f1 (gr g h0 8) = .inl (gc g 3, 2, .inl ik1)) ∧ (UIq w10 u1 im1 ik1)) A) ([.ref h0, .int p1].toArray) s 0 0 A) (F0 m 56 ls []) := by
        intro nn
        induction nn with
        | zero => intro y_38 y_39 q_41 y_44 f_40 H locs ls m_53; exact absurd m_53 (Nat.not_lt_zero _)
        | succ nn ih =>
          intro y_38 y_39 q_41 y_44 f_40 H locs ls m_53 hI hS k_42 ok_43 k_45 k_46 k_47 k_48 kp_49 t_50 t_51 t_52 hl
          have g_54 := Int32.toInt_lt p1
          have g_55 := Int32.le_toInt p1
          have g_56 := Int32.toInt_lt y_38
          have g_57 := Int32.le_toInt y_38
          have d_58 := rk_hd ok_43
          refine lv_iload_n hx hb dX12_ticks_56 rfl (lv_at hl 0 rfl) ?_
          refine lv_iload_n hx hb dX12_ticks_57 rfl (lv_at hl 3 rfl) ?_
          refine lv_icmp_ge (tgt := 84) hx hb dX12_ticks_58 (by decide) (fun c_59 => ?_) (fun c_59 => ?_)
          · have c_59 := kc_le rfl rfl c_59
            refine lv_aload_n hx hb dX12_ticks_84 rfl (lv_at hl 2 rfl) ?_
            refine lv_iload_n hx hb dX12_ticks_85 rfl (lv_at hl 1 rfl) ?_
            refine va_calli (va_runV (As := [.int y_39]) (rest := []) ⟨hx, hb, hml, hown, hts⟩ (c_X12_tell l dC dI g A hG f_40 h0 y_39 (0 : Int32) z1 w10_28 z12 z13 z14 z15 z16 z17 z18 z23 y_44 z25 z26 i_h0 k_45 (by first | omega | (simp only [k_c0]; omega)) (by first | omega | (simp only [k_c0]; omega)) (by first | omega | (simp only [k_c0]; omega))) (cwV 1 hts (gi_V (fun w_ h0_ => ⟨List.mem_cons_of_mem _ (List.mem_append_right _ (List.mem_append_right _ (List.mem_append_right _ (List.mem_append_right _ (List.mem_append_left _ h0_))))), (tb_c_X12_tell w_ h0_).2⟩) (List.mem_cons_of_mem _ (List.mem_append_left _ (List.mem_of_getElem? (i := 10) rfl))) (List.mem_cons_of_mem _ (List.mem_append_left _ (List.mem_of_getElem? (i := 11) rfl))) (List.mem_cons_of_mem _ (List.mem_append_left _ (List.mem_of_getElem? (i := 12) rfl))) (List.mem_cons_of_mem _ (List.mem_append_left _ (List.mem_of_getElem? (i := 4) rfl)))) rfl rfl rfl (by decide +kernel) ⟨Nat.le_of_ble_eq_true rfl, Nat.le_of_ble_eq_true rfl⟩) ⟨fun a U g mk q => ⟨q.1, q.2.calling rfl rfl⟩, k_recv hK hI i_h0.1 k_45 (ci := 12) rfl, fun U hU hW => ⟨rfl, kIn.of hI hK hE hS hU hW⟩⟩ rfl rfl hl.1 rfl (lv_room (Nat.le_of_ble_eq_true rfl)) dX12_ticks_86 ⟨Nat.le_of_ble_eq_true rfl, Nat.le_of_ble_eq_true rfl⟩) hS (fun q _ h => h) (fun q h => h) (fun r_62 u t H1 locs ht hvm w_61 hB hz1 hk1 hS => ?_)
            obtain ⟨f_60, hI, kc_63, k_64⟩ := hB
            rw [ht] at hI
            have k_65 : f_60 (gr g h0 4) = .inl (gc g 1, 906, .inr (.inl q_41)) := Kp.at kc_63 i_1 (by decide) k_42
            have k_66 : f_60 (gr g h0 7) = .inl (gc g 1, 1812, .inr (.inl im)) := Kp.at kc_63 i_4 (by decide) k_46
            have k_67 : f_60 (gr g h0 8) = .inl (gc g 3, 2, .inl kt) := Kp.at kc_63 i_5 (by decide) k_47
            have k_68 : f_60 (gr g h0 5) = .inl (gc g 1, 9060, .inr (.inl u1_29)) := Kp.at kc_63 i_3 (by decide) k_48
            have k_64 : f_60 h0 = .inr (12, [.int (0 : Int32), .int 0, .ref (gr g h0 2), .ref (gr g h0 3), .ref (gr g h0 4), .ref (gr g h0 5), .ref (gr g h0 6), .ref (gr g h0 7), .ref (gr g h0 8), .ref (gr g h0 9), .int w10_28, .ref (gr g h0 11), .int z12, .int z13, .int z14, .int z15, .long z16, .int z17, .int z18, .ref (gr g h0 19), .ref (gr g h0 20), .ref (gr g h0 21), .ref (gr g h0 22), .int z23, .long y_44, .long z25, .long z26]) := k_64
            have kp_69 := Kp.call kp_49 kc_63 (by decide)
            generalize H1 = H at hI hS ⊢
            refine W.widen (k := 0) (n := 0) (Nat.le_of_ble_eq_true rfl) (Nat.le_of_ble_eq_true rfl) ?_
            have w_61 : r_62.toInt = y_39.toInt := w_61
            exact W.iret (v := r_62) hx hb hr (fun t ht hW => ⟨⟨r_62, (), rfl, trivial, ⟨f_60, k_ret ht hI, kp_69, (0 : Int32), 0, w10_28, z12, z13, z14, z15, z16, z17, z18, z23, y_44, z25, z26, q_41, u1_29, im, kt, k_64, (by first | omega | decide), (by first | omega | decide), (by first | omega | decide), k_65, ok_43, k_68, k_66, k_67, z_33⟩⟩, hS.F ht⟩) hS.2.2 dX12_ticks_89
          · have c_59 := kn_le rfl rfl c_59
            refine lv_iload_n hx hb dX12_ticks_61 rfl (lv_at hl 1 rfl) ?_
            refine lv_aload_n hx hb dX12_ticks_62 rfl (lv_at hl 2 rfl) ?_
            refine lv_iconst (v := 0) hx hb dX12_ticks_63 (by decide) ?_
            refine va_calli (va_runV (As := [.int 0]) (rest := [.int y_39]) ⟨hx, hb, hml, hown, hts⟩ (c_X12_tick l dC dI g A hG f_40 h0 0 (0 : Int32) z1 w10_28 z12 z13 z14 z15 z16 z17 z18 z23 y_44 z25 z26 q_41 i_h0 k_45 (by first | omega | (simp only [k_c0]; omega)) (by first | omega | (simp only [k_c0]; omega)) (by first | omega | (simp only [k_c0]; omega)) k_42 ok_43 (by decide)) (cwV 1 hts (gi_V (fun w_ h0_ => ⟨List.mem_cons_of_mem _ (List.mem_append_right _ (List.mem_append_right _ (List.mem_append_right _ (List.mem_append_right _ (List.mem_append_right _ (List.mem_append_left _ h0_)))))), (tb_c_X12_tick w_ h0_).2⟩) (List.mem_cons_of_mem _ (List.mem_append_left _ (List.mem_of_getElem? (i := 13) rfl))) (List.mem_cons_of_mem _ (List.mem_append_left _ (List.mem_of_getElem? (i := 14) rfl))) (List.mem_cons_of_mem _ (List.mem_append_left _ (List.mem_of_getElem? (i := 15) rfl))) (List.mem_cons_of_mem _ (List.mem_append_left _ (List.mem_of_getElem? (i := 4) rfl)))) rfl rfl rfl (by decide +kernel) ⟨Nat.le_of_ble_eq_true rfl, Nat.le_of_ble_eq_true rfl⟩) ⟨fun a U g mk q => ⟨q.1, q.2.calling rfl rfl⟩, k_recv hK hI i_h0.1 k_45 (ci := 12) rfl, fun U hU hW => ⟨rfl, kIn.of hI hK hE hS hU hW⟩⟩ rfl rfl hl.1 rfl (lv_room (Nat.le_of_ble_eq_true rfl)) dX12_ticks_64 ⟨Nat.le_of_ble_eq_true rfl, Nat.le_of_ble_eq_true rfl⟩) hS (fun q _ h => h) (fun q h => h) (fun r_72 u t H1 locs ht hvm w_71 hB hz1 hk1 hS => ?_)
            obtain ⟨f_70, hI, kc_73, w24_74, q1_75, k_76, k_77, z_78, z_79, z_80⟩ := hB
            rw [ht] at hI
            have k_81 : f_70 (gr g h0 7) = .inl (gc g 1, 1812, .inr (.inl im)) := Kp.at kc_73 i_4 (by decide) k_46
            have k_82 : f_70 (gr g h0 8) = .inl (gc g 3, 2, .inl kt) := Kp.at kc_73 i_5 (by decide) k_47
            have k_83 : f_70 (gr g h0 5) = .inl (gc g 1, 9060, .inr (.inl u1_29)) := Kp.at kc_73 i_3 (by decide) k_48
            have k_76 : f_70 h0 = .inr (12, [.int (0 : Int32), .int z1, .ref (gr g h0 2), .ref (gr g h0 3), .ref (gr g h0 4), .ref (gr g h0 5), .ref (gr g h0 6), .ref (gr g h0 7), .ref (gr g h0 8), .ref (gr g h0 9), .int w10_28, .ref (gr g h0 11), .int z12, .int z13, .int z14, .int z15, .long z16, .int z17, .int z18, .ref (gr g h0 19), .ref (gr g h0 20), .ref (gr g h0 21), .ref (gr g h0 22), .int z23, .long w24_74, .long z25, .long z26]) := k_76
            have z_78 : RowOK q1_75 := z_78
            have d_84 := rk_hd z_78
            have z_79 : (q1_75 0).toInt = (q_41 0).toInt := z_79
            have z_80 : (q1_75 1).toInt = (q_41 1).toInt + 1 := z_80
            have kp_85 := Kp.call kp_49 kc_73 (by decide)
            generalize H1 = H at hI hS ⊢
            refine W.widen (k := 0) (n := 0) (Nat.le_of_ble_eq_true rfl) (Nat.le_of_ble_eq_true rfl) ?_
            have w_71 : -1 ≤ r_72.toInt ∧ r_72.toInt < (q_41 0).toInt := w_71
            have g_86 : Int32.toInt (0) = 0 := by decide
            refine lv_iconst (v := (-1)) hx hb dX12_ticks_67 (by decide) ?_
            have J_76 : ∀ (y_87 : Int32) (H : Heap) (locs : List Loc) (ls : Array Slot), Iv dC dI g A f_70 H → va_S A s.heap H locs → lv_has ls 4 [(3, .int y_38), (2, .int y_39), (0, .ref h0), (1, .int p1)] → W p l e (headSpec wq_c_X12_ticks ({ frames := 8, cells := 0, slots := 0, locals := 187 } : Room)).room s m ([.ref h0, .int p1].toArray) below meth c H locs 0 0 (MQ below (va_Qi (fun (r : Int32) (_ : Unit) => True) (fun (_ : Unit) t => ∃ f1 : Nat → va_E, Iv dC dI g A f1 t.heap ∧ Kp g [12, 30, 32, 33, 37] f f1 ∧ ∃ (w0 : Int32) (w1 : Int32) (w10 : Int32) (w12 : Int32) (w13 : Int32) (w14 : Int32) (w15 : Int32) (w16 : Int64) (w17 : Int32) (w18 : Int32) (w23 : Int32) (w24 : Int64) (w25 : Int64) (w26 : Int64) (q1 : Nat → Int64) (u1 : Nat → Int64) (im1 : Nat → Int64) (ik1 : Nat → Int32), (f1 h0 = .inr (12, [.int w0, .int w1, .ref (gr g h0 2), .ref (gr g h0 3), .ref (gr g h0 4), .ref (gr g h0 5), .ref (gr g h0 6), .ref (gr g h0 7), .ref (gr g h0 8), .ref (gr g h0 9), .int w10, .ref (gr g h0 11), .int w12, .int w13, .int w14, .int w15, .long w16, .int w17, .int w18, .ref (gr g h0 19), .ref (gr g h0 20), .ref (gr g h0 21), .ref (gr g h0 22), .int w23, .long w24, .long w25, .long w26])) ∧ (0 ≤ w10.toInt ∧ w10.toInt ≤ 10) ∧ (0 ≤ w12.toInt ∧ w12.toInt ≤ 200) ∧ (0 ≤ w23.toInt ∧ w23.toInt ≤ 8) ∧ (f1 (gr g h0 4) = .inl (gc g 1, 906, .inr (.inl q1))) ∧ (RowOK q1) ∧ (f1 (gr g h0 5) = .inl (gc g 1, 9060, .inr (.inl u1))) ∧ (f1 (gr g h0 7) = .inl (gc g 1, 1812, .inr (.inl im1))) ∧ (f1 (gr g h0 8) = .inl (gc g 3, 2, .inl ik1)) ∧ (UIq w10 u1 im1 ik1)) A) ([.ref h0, .int p1].toArray) s 0 0 A) (F0 m 76 ls [.int y_87, .int y_39]) := by
              intro y_87 H locs ls hI hS  hl
              refine lv_iadd hx hb dX12_ticks_76 ?_
              refine lv_topi (fun v_88 ev_88 => ?_)
              have tv_88 := k_ad y_39 y_87
              rw [← ev_88] at tv_88
              refine lv_istore_n (lv' := [(2, .int v_88), (3, .int y_38), (0, .ref h0), (1, .int p1)]) hx hb dX12_ticks_77 rfl hl (by decide) rfl (fun ls hl => ?_)
              obtain ⟨v_89, ev_89⟩ : ∃ y : Int32, y = y_38 + Int32.ofInt 1 := ⟨_, rfl⟩
              refine lv_iinc (v := v_89) (lv' := [(3, .int v_89), (2, .int v_88), (0, .ref h0), (1, .int p1)]) hx hb dX12_ticks_78 hl (k := 1) rfl ev_89.symm (by decide) rfl (fun ls hl => ?_)
              have tv_89 := k_inc y_38
              rw [← ev_89] at tv_89
              refine lv_goto (tgt := 56) hx hb dX12_ticks_81 (by decide) ?_
              exact ih v_89 v_88 q1_75 w24_74 f_70 _ _ _ (by omega) hI hS k_77 z_78 k_76 k_81 k_82 k_83 kp_85 (by first | omega | decide) (by first | omega | decide) (by first | omega | decide) (lv_sub hl [0, 1, 2, 3] rfl)
            refine lv_icmp_ne (tgt := 75) hx hb dX12_ticks_68 (by decide) (fun c_90 => ?_) (fun c_90 => ?_)
            · have c_90 := kn_eq rfl (by decide : Int32.toInt (-1) = (-1)) c_90
              refine lv_iconst (v := 1) hx hb dX12_ticks_75 (by decide) ?_
              exact J_76 1 _ _ _ hI hS  (lv_sub hl [0, 1, 2, 3] rfl)
            · have c_90 := kc_eq rfl (by decide : Int32.toInt (-1) = (-1)) c_90
              refine lv_iconst (v := 0) hx hb dX12_ticks_71 (by decide) ?_
              refine lv_goto (tgt := 76) hx hb dX12_ticks_72 (by decide) ?_
              exact J_76 0 _ _ _ hI hS  (lv_sub hl [0, 1, 2, 3] rfl)
      exact K_56 _ 0 0 q z24 f_25 _ _ _ (Nat.lt_succ_self _) hI hS k_34 hc1_ok k_30 k_35 k_36 k_32 kp_37 (by first | omega | decide | (simp only [show Int32.toInt 0 = 0 from by decide, show Int32.toInt 0 = 0 from by decide]; omega)) (by first | omega | decide | (simp only [show Int32.toInt 0 = 0 from by decide, show Int32.toInt 0 = 0 from by decide]; omega)) (by first | omega | decide | (simp only [show Int32.toInt 0 = 0 from by decide, show Int32.toInt 0 = 0 from by decide]; omega)) (lv_sub hl [0, 1, 2, 3] rfl)
    · have c_24 := ln_le rfl (by decide : Int64.toInt 9999 = 9999) (fun h9 => c_24 ((lg_cmp_le _ _).mpr h9))
      refine lv_aload_n hx hb dX12_ticks_39 rfl (lv_at hl 0 rfl) ?_
      refine lv_bipush (v := (-4)) hx hb dX12_ticks_40 (by decide) ?_
      refine va_calli (va_runV (As := [.int (-4)]) (rest := []) ⟨hx, hb, hml, hown, hts⟩ (c_X12_refuse l dC dI g A hG f_6 h0 (-4) 0 z1 z10 z12 z13 z14 z15 z16 z17 z18 z23 z24 z25 z26 i_h0 k_9 (by first | omega | (simp only [k_c0]; omega)) (by first | omega | (simp only [k_c0]; omega)) (by first | omega | (simp only [k_c0]; omega)) (by decide)) (cwV 1 hts (gi_V (fun w_ h0_ => ⟨List.mem_cons_of_mem _ (List.mem_append_right _ (List.mem_append_right _ (List.mem_append_right _ (List.mem_append_right _ (List.mem_append_right _ (List.mem_append_right _ (List.mem_append_left _ h0_))))))), (tb_c_X12_refuse w_ h0_).2⟩) (List.mem_cons_of_mem _ (List.mem_append_left _ (List.mem_of_getElem? (i := 16) rfl))) (List.mem_cons_of_mem _ (List.mem_append_left _ (List.mem_of_getElem? (i := 17) rfl))) (List.mem_cons_of_mem _ (List.mem_append_left _ (List.mem_of_getElem? (i := 18) rfl))) (List.mem_cons_of_mem _ (List.mem_append_left _ (List.mem_of_getElem? (i := 4) rfl)))) rfl rfl rfl (by decide +kernel) ⟨Nat.le_of_ble_eq_true rfl, Nat.le_of_ble_eq_true rfl⟩) ⟨fun a U g mk q => ⟨q.1, q.2.calling rfl rfl⟩, k_recv hK hI i_h0.1 k_9 (ci := 12) rfl, fun U hU hW => ⟨rfl, kIn.of hI hK hE hS hU hW⟩⟩ rfl rfl hl.1 rfl (lv_room (Nat.le_of_ble_eq_true rfl)) dX12_ticks_42 ⟨Nat.le_of_ble_eq_true rfl, Nat.le_of_ble_eq_true rfl⟩) hS (fun q _ h => h) (fun q h => h) (fun r_93 u t H1 locs ht hvm w_92 hB hz1 hk1 hS => ?_)
      obtain ⟨f_91, hI, kc_94, k_95⟩ := hB
      rw [ht] at hI
      have k_96 : f_91 (gr g h0 4) = .inl (gc g 1, 906, .inr (.inl q)) := Kp.at kc_94 i_1 (by decide) k_10
      have k_97 : f_91 (gr g h0 5) = .inl (gc g 1, 9060, .inr (.inl u)) := Kp.at kc_94 i_3 (by decide) k_11
      have k_98 : f_91 (gr g h0 7) = .inl (gc g 1, 1812, .inr (.inl im)) := Kp.at kc_94 i_4 (by decide) k_12
      have k_99 : f_91 (gr g h0 8) = .inl (gc g 3, 2, .inl kt) := Kp.at kc_94 i_5 (by decide) k_13
      have k_95 : f_91 h0 = .inr (12, [.int (0 : Int32), .int (-4 : Int32), .ref (gr g h0 2), .ref (gr g h0 3), .ref (gr g h0 4), .ref (gr g h0 5), .ref (gr g h0 6), .ref (gr g h0 7), .ref (gr g h0 8), .ref (gr g h0 9), .int z10, .ref (gr g h0 11), .int z12, .int z13, .int z14, .int z15, .long z16, .int z17, .int z18, .ref (gr g h0 19), .ref (gr g h0 20), .ref (gr g h0 21), .ref (gr g h0 22), .int z23, .long z24, .long z25, .long z26]) := k_95
      have kp_100 := Kp.call kp_8 kc_94 (by decide)
      generalize H1 = H at hI hS ⊢
      refine W.widen (k := 0) (n := 0) (Nat.le_of_ble_eq_true rfl) (Nat.le_of_ble_eq_true rfl) ?_
      have w_92 : r_93.toInt = (-4 : Int32).toInt := w_92
      have g_101 : Int32.toInt ((-4)) = (-4) := by decide
      exact W.iret (v := r_93) hx hb hr (fun t ht hW => ⟨⟨r_93, (), rfl, trivial, ⟨f_91, k_ret ht hI, kp_100, (0 : Int32), (-4 : Int32), z10, z12, z13, z14, z15, z16, z17, z18, z23, z24, z25, z26, q, u, im, kt, k_95, (by first | omega | decide), (by first | omega | decide), (by first | omega | decide), k_96, hc1_ok, k_97, k_98, k_99, hU⟩⟩, hS.F ht⟩) hS.2.2 dX12_ticks_45
  · have c_19 := kc_eq rfl (by decide : Int32.toInt 0 = 0) c_19
    refine lv_aload_n hx hb dX12_ticks_17 rfl (lv_at hl 0 rfl) ?_
    refine lv_iconst (v := (-1)) hx hb dX12_ticks_18 (by decide) ?_
    refine va_calli (va_runV (As := [.int (-1)]) (rest := []) ⟨hx, hb, hml, hown, hts⟩ (c_X12_refuse l dC dI g A hG f_6 h0 (-1) 0 z1 z10 z12 z13 z14 z15 z16 z17 z18 z23 z24 z25 z26 i_h0 k_9 (by first | omega | (simp only [k_c0]; omega)) (by first | omega | (simp only [k_c0]; omega)) (by first | omega | (simp only [k_c0]; omega)) (by decide)) (cwV 1 hts (gi_V (fun w_ h0_ => ⟨List.mem_cons_of_mem _ (List.mem_append_right _ (List.mem_append_right _ (List.mem_append_right _ (List.mem_append_right _ (List.mem_append_right _ (List.mem_append_right _ (List.mem_append_left _ h0_))))))), (tb_c_X12_refuse w_ h0_).2⟩) (List.mem_cons_of_mem _ (List.mem_append_left _ (List.mem_of_getElem? (i := 16) rfl))) (List.mem_cons_of_mem _ (List.mem_append_left _ (List.mem_of_getElem? (i := 17) rfl))) (List.mem_cons_of_mem _ (List.mem_append_left _ (List.mem_of_getElem? (i := 18) rfl))) (List.mem_cons_of_mem _ (List.mem_append_left _ (List.mem_of_getElem? (i := 4) rfl)))) rfl rfl rfl (by decide +kernel) ⟨Nat.le_of_ble_eq_true rfl, Nat.le_of_ble_eq_true rfl⟩) ⟨fun a U g mk q => ⟨q.1, q.2.calling rfl rfl⟩, k_recv hK hI i_h0.1 k_9 (ci := 12) rfl, fun U hU hW => ⟨rfl, kIn.of hI hK hE hS hU hW⟩⟩ rfl rfl hl.1 rfl (lv_room (Nat.le_of_ble_eq_true rfl)) dX12_ticks_19 ⟨Nat.le_of_ble_eq_true rfl, Nat.le_of_ble_eq_true rfl⟩) hS (fun q _ h => h) (fun q h => h) (fun r_104 u t H1 locs ht hvm w_103 hB hz1 hk1 hS => ?_)
    obtain ⟨f_102, hI, kc_105, k_106⟩ := hB
    rw [ht] at hI
    have k_107 : f_102 (gr g h0 4) = .inl (gc g 1, 906, .inr (.inl q)) := Kp.at kc_105 i_1 (by decide) k_10
    have k_108 : f_102 (gr g h0 5) = .inl (gc g 1, 9060, .inr (.inl u)) := Kp.at kc_105 i_3 (by decide) k_11
    have k_109 : f_102 (gr g h0 7) = .inl (gc g 1, 1812, .inr (.inl im)) := Kp.at kc_105 i_4 (by decide) k_12
    have k_110 : f_102 (gr g h0 8) = .inl (gc g 3, 2, .inl kt) := Kp.at kc_105 i_5 (by decide) k_13
    have k_106 : f_102 h0 = .inr (12, [.int (0 : Int32), .int (-1 : Int32), .ref (gr g h0 2), .ref (gr g h0 3), .ref (gr g h0 4), .ref (gr g h0 5), .ref (gr g h0 6), .ref (gr g h0 7), .ref (gr g h0 8), .ref (gr g h0 9), .int z10, .ref (gr g h0 11), .int z12, .int z13, .int z14, .int z15, .long z16, .int z17, .int z18, .ref (gr g h0 19), .ref (gr g h0 20), .ref (gr g h0 21), .ref (gr g h0 22), .int z23, .long z24, .long z25, .long z26]) := k_106
    have kp_111 := Kp.call kp_8 kc_105 (by decide)
    generalize H1 = H at hI hS ⊢
    refine W.widen (k := 0) (n := 0) (Nat.le_of_ble_eq_true rfl) (Nat.le_of_ble_eq_true rfl) ?_
    have w_103 : r_104.toInt = (-1 : Int32).toInt := w_103
    have g_112 : Int32.toInt ((-1)) = (-1) := by decide
    exact W.iret (v := r_104) hx hb hr (fun t ht hW => ⟨⟨r_104, (), rfl, trivial, ⟨f_102, k_ret ht hI, kp_111, (0 : Int32), (-1 : Int32), z10, z12, z13, z14, z15, z16, z17, z18, z23, z24, z25, z26, q, u, im, kt, k_106, (by first | omega | decide), (by first | omega | decide), (by first | omega | decide), k_107, hc1_ok, k_108, k_109, k_110, hU⟩⟩, hS.F ht⟩) hS.2.2 dX12_ticks_22
theorem tw_988 : q_g (.code yX12_ahead cX12_ahead 4 (some .int)) := ⟨(List.mem_append_right _ (List.mem_of_getElem? (i := 1503) (by decide +kernel))), good_of_word (by decide +kernel)⟩
def ow_c_X12_ahead : List Cond := [.fieldLink RX12 67 "DeadlineShareModel" "thrown" "I", .constantLong RX12 172 (60), .methodLink RX12 83 yX12_in, .static yX12_in, .initialized RX12, .fieldLink RX12 16 "DeadlineShareModel" "row" "[J", .constantLong RX12 286 (9999), .methodLink RX12 310 yX12_begin, .instanceMethod yX12_begin, .selects RX12 yX12_begin yX12_begin, .methodLink RX12 313 yX12_over, .instanceMethod yX12_over, .selects RX12 yX12_over yX12_over, .methodLink RX12 288 yX12_tick, .instanceMethod yX12_tick, .selects RX12 yX12_tick yX12_tick]
def wq_c_X12_ahead : List Cond := .code yX12_ahead cX12_ahead 4 (some .int) :: (ow_c_X12_ahead ++ (u_ws RX12 TX12 27 ++ (wq_c_X12_in ++ (wq_c_X12_begin ++ (wq_c_X12_over ++ (wq_c_X12_tick ++ ([] : List Cond)))))))
theorem tb_c_X12_ahead : ∀ w ∈ wq_c_X12_ahead, q_g w := by
  unfold wq_c_X12_ahead ow_c_X12_ahead
  exact q_cons tw_988 (q_app (q_cons tw_927 (q_cons tw_986 (q_cons tw_730 (q_cons tw_729 (q_cons tw_728 (q_cons tw_731 (q_cons tw_985 (q_cons tw_925 (q_cons tw_924 (q_cons tw_923 (q_cons tw_922 (q_cons tw_921 (q_cons tw_920 (q_cons tw_919 (q_cons tw_918 (q_cons tw_917 q_nil)))))))))))))))) (q_app tu_X12 (q_app tb_c_X12_in (q_app tb_c_X12_begin (q_app tb_c_X12_over (q_app tb_c_X12_tick q_nil))))))
set_option maxHeartbeats 4000000 in
set_option maxRecDepth 100000 in
theorem c_X12_ahead (l : Launch) (dC : Nat → ClassId) (dI : Nat → Nat → Nat) (g : kG) (A : Nat → Prop) (hG : kWf g) (f : Nat → va_E) (h0 : Nat) (p1 : Int32) (z0 : Int32) (z1 : Int32) (z10 : Int32) (z12 : Int32) (z13 : Int32) (z14 : Int32) (z15 : Int32) (z16 : Int64) (z17 : Int32) (z18 : Int32) (z23 : Int32) (z24 : Int64) (z25 : Int64) (z26 : Int64) (q : Nat → Int64) (u : Nat → Int64) (im : Nat → Int64) (kt : Nat → Int32) (pp : Nat → Int64) (i_h0 : ik g 12 h0) (hc0 : f h0 = .inr (12, [.int z0, .int z1, .ref (gr g h0 2), .ref (gr g h0 3), .ref (gr g h0 4), .ref (gr g h0 5), .ref (gr g h0 6), .ref (gr g h0 7), .ref (gr g h0 8), .ref (gr g h0 9), .int z10, .ref (gr g h0 11), .int z12, .int z13, .int z14, .int z15, .long z16, .int z17, .int z18, .ref (gr g h0 19), .ref (gr g h0 20), .ref (gr g h0 21), .ref (gr g h0 22), .int z23, .long z24, .long z25, .long z26])) (hc0_10 : 0 ≤ z10.toInt ∧ z10.toInt ≤ 10) (hc0_12 : 0 ≤ z12.toInt ∧ z12.toInt ≤ 200) (hc0_23 : 0 ≤ z23.toInt ∧ z23.toInt ≤ 8) (hc1 : f (gr g h0 4) = .inl (gc g 1, 906, .inr (.inl q))) (hc1_ok : RowOK q) (hc2 : f (gr g h0 5) = .inl (gc g 1, 9060, .inr (.inl u))) (hc3 : f (gr g h0 7) = .inl (gc g 1, 1812, .inr (.inl im))) (hc4 : f (gr g h0 8) = .inl (gc g 3, 2, .inl kt)) (hc5 : f (gr g h0 6) = .inl (gc g 1, 906, .inr (.inl pp))) (hU : UIq z10 u im kt) : Met l yX12_ahead wq_c_X12_ahead ({ frames := 8, cells := 0, slots := 0, locals := 187 } : Room) (va_Pc [.ref h0, .int p1] (fun U => kIn dC dI g A f U)) (va_Qi (fun (r : Int32) (_ : Unit) => True) (fun (_ : Unit) t => ∃ f1 : Nat → va_E, Iv dC dI g A f1 t.heap ∧ Kp g [12, 32, 34] f f1 ∧ ∃ (w0 : Int32) (w1 : Int32) (w10 : Int32) (w12 : Int32) (w13 : Int32) (w14 : Int32) (w15 : Int32) (w16 : Int64) (w17 : Int32) (w18 : Int32) (w23 : Int32) (w24 : Int64) (w25 : Int64) (w26 : Int64) (q1 : Nat → Int64) (u1 : Nat → Int64) (im1 : Nat → Int64) (ik1 : Nat → Int32), (f1 h0 = .inr (12, [.int w0, .int w1, .ref (gr g h0 2), .ref (gr g h0 3), .ref (gr g h0 4), .ref (gr g h0 5), .ref (gr g h0 6), .ref (gr g h0 7), .ref (gr g h0 8), .ref (gr g h0 9), .int w10, .ref (gr g h0 11), .int w12, .int w13, .int w14, .int w15, .long w16, .int w17, .int w18, .ref (gr g h0 19), .ref (gr g h0 20), .ref (gr g h0 21), .ref (gr g h0 22), .int w23, .long w24, .long w25, .long w26])) ∧ (0 ≤ w10.toInt ∧ w10.toInt ≤ 10) ∧ (0 ≤ w12.toInt ∧ w12.toInt ≤ 200) ∧ (0 ≤ w23.toInt ∧ w23.toInt ≤ 8) ∧ (f1 (gr g h0 4) = .inl (gc g 1, 906, .inr (.inl q1))) ∧ (RowOK q1) ∧ (f1 (gr g h0 5) = .inl (gc g 1, 9060, .inr (.inl u1))) ∧ (f1 (gr g h0 7) = .inl (gc g 1, 1812, .inr (.inl im1))) ∧ (f1 (gr g h0 8) = .inl (gc g 3, 2, .inl ik1)) ∧ (UIq w10 u1 im1 ik1)) A) 0 0 A := by
  refine Met.ofW (cc := cX12_ahead) (maxL := 4) (ret := (some .int)) (by decide) rfl ?_
  intro p e s m args below meth c s₁ B hml hv
  obtain ⟨rfl, hI, hK, hE⟩ := hv
  have hx := B.exec
  have hb := B.bytes
  have hr := B.returns
  have hts := atoms_spec (ws := wq_c_X12_ahead) B.pre
  have hown : s.vm.findClass RX12 = some m.cls := findClass_of_methodNamed B.named
  have hlocks := B.notSynchronized
  have hS : va_S A s.heap s.heap [] := va_S.rf
  have hk0 : Kp g [12, 32, 34] f f := Kp.rf
  have hl := lv_entry ([.ref h0, .int p1]) (n := 4) (Nat.le_of_ble_eq_true rfl)
  rw [lg_entry_eq]
  generalize (lg_sl ([.ref h0, .int p1]) ++ List.replicate (4 - (lg_sl ([.ref h0, .int p1])).length) Slot.unset).toArray = ls at hl ⊢
  have hl : lv_has ls 4 [(0, .ref h0), (1, .int p1)] := hl
  have i_1 := kw_12_4 hG i_h0
  have d_2 := rk_hd hc1_ok
  have i_3 := kw_12_5 hG i_h0
  have i_4 := kw_12_7 hG i_h0
  have i_5 := kw_12_8 hG i_h0
  have i_6 := kw_12_6 hG i_h0
  refine lv_aload_n hx hb dX12_ahead_0 rfl (lv_at hl 0 rfl) ?_
  refine lv_iconst (v := 0) hx hb dX12_ahead_1 (by decide) ?_
  refine k_put (ci := 12) (v := .int 0) (ty := .int) (C := RX12) (T := TX12) (N := 27) hx hb hts (fun _ h0_ => List.mem_cons_of_mem _ (List.mem_append_right _ (List.mem_append_left _ h0_))) tyX12 tyX12_ok nmX12 hown hK hI hS i_h0.1 hc0 rfl 0 (by decide) (hts (.fieldLink RX12 67 "DeadlineShareModel" "thrown" "I") (List.mem_cons_of_mem _ (List.mem_append_left _ (List.mem_of_getElem? (i := 0) rfl)))) (fun _ h9 => h9) rfl (by decide +kernel) rfl rfl (Nat.le_of_ble_eq_true rfl) rfl (cl_12 i_h0 (by omega) (by omega) (by omega)) dX12_ahead_2 (fun f_7 H locs e_8 hI hS => ?_)
  have k_10 : f_7 h0 = .inr (12, [.int 0, .int z1, .ref (gr g h0 2), .ref (gr g h0 3), .ref (gr g h0 4), .ref (gr g h0 5), .ref (gr g h0 6), .ref (gr g h0 7), .ref (gr g h0 8), .ref (gr g h0 9), .int z10, .ref (gr g h0 11), .int z12, .int z13, .int z14, .int z15, .long z16, .int z17, .int z18, .ref (gr g h0 19), .ref (gr g h0 20), .ref (gr g h0 21), .ref (gr g h0 22), .int z23, .long z24, .long z25, .long z26]) := by rw [e_8]; exact va_up_self _ _ _
  have k_11 : f_7 (gr g h0 4) = .inl (gc g 1, 906, .inr (.inl q)) := by rw [e_8, va_up_ne _ _ (ik_ne i_1 i_h0 (by decide))]; exact hc1
  have k_12 : f_7 (gr g h0 5) = .inl (gc g 1, 9060, .inr (.inl u)) := by rw [e_8, va_up_ne _ _ (ik_ne i_3 i_h0 (by decide))]; exact hc2
  have k_13 : f_7 (gr g h0 7) = .inl (gc g 1, 1812, .inr (.inl im)) := by rw [e_8, va_up_ne _ _ (ik_ne i_4 i_h0 (by decide))]; exact hc3
  have k_14 : f_7 (gr g h0 8) = .inl (gc g 3, 2, .inl kt) := by rw [e_8, va_up_ne _ _ (ik_ne i_5 i_h0 (by decide))]; exact hc4
  have k_15 : f_7 (gr g h0 6) = .inl (gc g 1, 906, .inr (.inl pp)) := by rw [e_8, va_up_ne _ _ (ik_ne i_6 i_h0 (by decide))]; exact hc5
  have kp_9 := Kp.put hk0 i_h0 (by decide) e_8
  refine lv_iload_n hx hb dX12_ahead_5 rfl (lv_at hl 1 rfl) ?_
  refine lv_i2l (v := p1.toInt64) hx hb dX12_ahead_6 rfl ?_
  have t_16 := Int32.toInt_toInt64 p1
  refine lv_lconst (v := 1) hx hb dX12_ahead_7 (by decide) ?_
  refine lv_ldc2 hx hb hown (hts (.constantLong RX12 172 (60)) (List.mem_cons_of_mem _ (List.mem_append_left _ (List.mem_of_getElem? (i := 1) rfl)))) dX12_ahead_8 ?_
  refine va_calli (va_runS (As := [.long p1.toInt64, .long 1, .long 60]) (rest := []) ⟨hx, hb, hml, hown, hts⟩ (c_X12_in l dC dI g A hG f_7 p1.toInt64 1 60) (va_cwS 3 hts (gi_S (fun w_ h0_ => ⟨List.mem_cons_of_mem _ (List.mem_append_right _ (List.mem_append_right _ (List.mem_append_left _ h0_))), (tb_c_X12_in w_ h0_).2⟩) (List.mem_cons_of_mem _ (List.mem_append_left _ (List.mem_of_getElem? (i := 2) rfl))) (List.mem_cons_of_mem _ (List.mem_append_left _ (List.mem_of_getElem? (i := 3) rfl))) (List.mem_cons_of_mem _ (List.mem_append_left _ (List.mem_of_getElem? (i := 4) rfl)))) rfl rfl rfl (by decide +kernel) ⟨Nat.le_of_ble_eq_true rfl, Nat.le_of_ble_eq_true rfl⟩) ⟨fun a U g mk q => ⟨q.1, q.2.calling rfl rfl⟩, fun U hU hW => ⟨rfl, kIn.of hI hK hE hS hU hW⟩⟩ rfl rfl hl.1 rfl (lv_room (Nat.le_of_ble_eq_true rfl)) dX12_ahead_11 ⟨Nat.le_of_ble_eq_true rfl, Nat.le_of_ble_eq_true rfl⟩) hS (fun q _ h => h) (fun q h => h) (fun r_18 u t H1 locs ht hvm w_17 hB hz1 hk1 hS => ?_)
  have hI : Iv dC dI g A f_7 t.heap := hB
  rw [ht] at hI
  generalize H1 = H at hI hS ⊢
  refine W.widen (k := 0) (n := 0) (Nat.le_of_ble_eq_true rfl) (Nat.le_of_ble_eq_true rfl) ?_
  have w_17 : (r_18.toInt = 0 ∧ (p1.toInt64.toInt < (1 : Int64).toInt ∨ (60 : Int64).toInt < p1.toInt64.toInt)) ∨ (r_18.toInt = 1 ∧ (1 : Int64).toInt ≤ p1.toInt64.toInt ∧ p1.toInt64.toInt ≤ (60 : Int64).toInt) := w_17
  have g_19 : Int64.toInt (1) = 1 := by decide
  have g_20 : Int64.toInt (60) = 60 := by decide
  refine lv_if_eq (tgt := 33) hx hb dX12_ahead_14 (by decide) (fun c_21 => ?_) (fun c_21 => ?_)
  · have c_21 := kc_eq rfl (by decide : Int32.toInt 0 = 0) c_21
    refine lv_iconst (v := (-1)) hx hb dX12_ahead_33 (by decide) ?_
    exact W.iret (v := (-1)) hx hb hr (fun t ht hW => ⟨⟨(-1), (), rfl, trivial, ⟨f_7, k_ret ht hI, kp_9, 0, z1, z10, z12, z13, z14, z15, z16, z17, z18, z23, z24, z25, z26, q, u, im, kt, k_10, (by first | omega | decide), (by first | omega | decide), (by first | omega | decide), k_11, hc1_ok, k_12, k_13, k_14, hU⟩⟩, hS.F ht⟩) hS.2.2 dX12_ahead_34
  · have c_21 := kn_eq rfl (by decide : Int32.toInt 0 = 0) c_21
    refine lv_aload_n hx hb dX12_ahead_17 rfl (lv_at hl 0 rfl) ?_
    refine k_get (ci := 12) (v := .ref (gr g h0 4)) (C := RX12) (T := TX12) (N := 27) hx hb hts (fun _ h0_ => List.mem_cons_of_mem _ (List.mem_append_right _ (List.mem_append_left _ h0_))) hown hK hI i_h0.1 k_10 rfl 4 (by decide) (hts (.fieldLink RX12 16 "DeadlineShareModel" "row" "[J") (List.mem_cons_of_mem _ (List.mem_append_left _ (List.mem_of_getElem? (i := 5) rfl)))) (fun _ h9 => h9) rfl dX12_ahead_18 ?_
    refine lv_iconst (v := 1) hx hb dX12_ahead_21 (by decide) ?_
    refine k_lald hx hb hK hI i_1.1 1 k_11 rfl (by unfold vp_in; decide) dX12_ahead_22 ?_
    refine k_topl (y := q 1) (congrArg q (show Int32.toNatClampNeg 1 = 1 by decide)) ?_
    refine lv_iload_n hx hb dX12_ahead_23 rfl (lv_at hl 1 rfl) ?_
    refine lv_i2l (v := p1.toInt64) hx hb dX12_ahead_24 rfl ?_
    have t_24 := Int32.toInt_toInt64 p1
    refine lv_ladd hx hb dX12_ahead_25 ?_
    refine lv_topl (fun v_25 ev_25 => ?_)
    have tv_25 := l_ad (q 1) p1.toInt64
    rw [← ev_25] at tv_25
    refine lv_ldc2 hx hb hown (hts (.constantLong RX12 286 (9999)) (List.mem_cons_of_mem _ (List.mem_append_left _ (List.mem_of_getElem? (i := 6) rfl)))) dX12_ahead_26 ?_
    refine W.lcmp hx hb dX12_ahead_29 ?_
    refine lv_if_le (tgt := 35) hx hb dX12_ahead_30 (by decide) (fun c_26 => ?_) (fun c_26 => ?_)
    · have c_26 := lc_le rfl (by decide : Int64.toInt 9999 = 9999) ((lg_cmp_le _ _).mp c_26)
      refine lv_aload_n hx hb dX12_ahead_35 rfl (lv_at hl 0 rfl) ?_
      refine va_callv (va_runV (As := []) (rest := []) ⟨hx, hb, hml, hown, hts⟩ (c_X12_begin l dC dI g A hG f_7 h0 q pp i_h0 k_11 hc1_ok k_15) (cwV 0 hts (gi_V (fun w_ h0_ => ⟨List.mem_cons_of_mem _ (List.mem_append_right _ (List.mem_append_right _ (List.mem_append_right _ (List.mem_append_left _ h0_)))), (tb_c_X12_begin w_ h0_).2⟩) (List.mem_cons_of_mem _ (List.mem_append_left _ (List.mem_of_getElem? (i := 7) rfl))) (List.mem_cons_of_mem _ (List.mem_append_left _ (List.mem_of_getElem? (i := 8) rfl))) (List.mem_cons_of_mem _ (List.mem_append_left _ (List.mem_of_getElem? (i := 9) rfl))) (List.mem_cons_of_mem _ (List.mem_append_left _ (List.mem_of_getElem? (i := 4) rfl)))) rfl rfl rfl (by decide +kernel) ⟨Nat.le_of_ble_eq_true rfl, Nat.le_of_ble_eq_true rfl⟩) ⟨fun a U g mk q => ⟨q.1, q.2.calling rfl rfl⟩, k_recv hK hI i_h0.1 k_10 (ci := 12) rfl, fun U hU hW => ⟨rfl, kIn.of hI hK hE hS hU hW⟩⟩ rfl rfl hl.1 rfl (lv_room (Nat.le_of_ble_eq_true rfl)) dX12_ahead_36 ⟨Nat.le_of_ble_eq_true rfl, Nat.le_of_ble_eq_true rfl⟩) hS (fun q _ h => h) (fun q h => h) (fun u t H1 locs ht hvm _ hB hz1 hk1 hS => ?_)
      obtain ⟨f_27, hI, kc_29, pp1_30, k_31, z_32, z_33, z_34⟩ := hB
      rw [ht] at hI
      have k_35 : f_27 h0 = .inr (12, [.int 0, .int z1, .ref (gr g h0 2), .ref (gr g h0 3), .ref (gr g h0 4), .ref (gr g h0 5), .ref (gr g h0 6), .ref (gr g h0 7), .ref (gr g h0 8), .ref (gr g h0 9), .int z10, .ref (gr g h0 11), .int z12, .int z13, .int z14, .int z15, .long z16, .int z17, .int z18, .ref (gr g h0 19), .ref (gr g h0 20), .ref (gr g h0 21), .ref (gr g h0 22), .int z23, .long z24, .long z25, .long z26]) := Kp.at kc_29 i_h0 (by decide) k_10
      have k_36 : f_27 (gr g h0 4) = .inl (gc g 1, 906, .inr (.inl q)) := Kp.at kc_29 i_1 (by decide) k_11
      have k_37 : f_27 (gr g h0 5) = .inl (gc g 1, 9060, .inr (.inl u)) := Kp.at kc_29 i_3 (by decide) k_12
      have k_38 : f_27 (gr g h0 7) = .inl (gc g 1, 1812, .inr (.inl im)) := Kp.at kc_29 i_4 (by decide) k_13
      have k_39 : f_27 (gr g h0 8) = .inl (gc g 3, 2, .inl kt) := Kp.at kc_29 i_5 (by decide) k_14
      have z_32 : RowOK pp1_30 := z_32
      have d_40 := rk_hd z_32
      have z_33 : (pp1_30 0).toInt = (q 0).toInt := z_33
      have z_34 : (pp1_30 1).toInt = (q 1).toInt := z_34
      have kp_41 := Kp.call kp_9 kc_29 (by decide)
      generalize H1 = H at hI hS ⊢
      refine W.widen (k := 0) (n := 0) (Nat.le_of_ble_eq_true rfl) (Nat.le_of_ble_eq_true rfl) ?_
      refine lv_iconst (v := (-1)) hx hb dX12_ahead_39 (by decide) ?_
      refine lv_istore_n (lv' := [(2, .int (-1)), (0, .ref h0), (1, .int p1)]) hx hb dX12_ahead_40 rfl hl (by decide) rfl (fun ls hl => ?_)
      refine lv_iconst (v := 0) hx hb dX12_ahead_41 (by decide) ?_
      refine lv_istore_n (lv' := [(3, .int 0), (2, .int (-1)), (0, .ref h0), (1, .int p1)]) hx hb dX12_ahead_42 rfl hl (by decide) rfl (fun ls hl => ?_)
      have K_43 : ∀ (nn : Nat) (y_42 : Int32) (y_43 : Int32) (q_45 : Nat → Int64) (y_48 : Int64) (f_44 : Nat → va_E) (H : Heap) (locs : List Loc) (ls : Array Slot), (p1.toInt - y_42.toInt).toNat < nn → Iv dC dI g A f_44 H → va_S A s.heap H locs → f_44 (gr g h0 4) = .inl (gc g 1, 906, .inr (.inl q_45)) → RowOK q_45 → f_44 h0 = .inr (12, [.int 0, .int z1, .ref (gr g h0 2), .ref (gr g h0 3), .ref (gr g h0 4), .ref (gr g h0 5), .ref (gr g h0 6), .ref (gr g h0 7), .ref (gr g h0 8), .ref (gr g h0 9), .int z10, .ref (gr g h0 11), .int z12, .int z13, .int z14, .int z15, .long z16, .int z17, .int z18, .ref (gr g h0 19), .ref (gr g h0 20), .ref (gr g h0 21), .ref (gr g h0 22), .int z23, .long y_48, .long z25, .long z26]) → f_44 (gr g h0 5) = .inl (gc g 1, 9060, .inr (.inl u)) → f_44 (gr g h0 7) = .inl (gc g 1, 1812, .inr (.inl im)) → f_44 (gr g h0 8) = .inl (gc g 3, 2, .inl kt) → f_44 (gr g h0 6) = .inl (gc g 1, 906, .inr (.inl pp1_30)) → Kp g [12, 32, 34] f f_44 → ((q_45 0).toInt = (q 0).toInt) → ((q_45 1).toInt = (q 1).toInt + y_42.toInt) → (0 ≤ y_42.toInt) → lv_has ls 4 [(3, .int y_42), (2, .int y_43), (0, .ref h0), (1, .int p1)] → W p l e (headSpec wq_c_X12_ahead ({ frames := 8, cells := 0, slots := 0, locals := 187 } : Room)).room s m ([.ref h0, .int p1].toArray) below meth c H locs 0 0 (MQ below (va_Qi (fun (r : Int32) (_ : Unit) => True) (fun (_ : Unit) t => ∃ f1 : Nat → va_E, Iv dC dI g A f1 t.heap ∧ Kp g [12, 32, 34] f f1 ∧ ∃ (w0 : Int32) (w1 : Int32) (w10 : Int32) (w12 : Int32) (w13 : Int32) (w14 : Int32) (w15 : Int32) (w16 : Int64) (w17 : Int32) (w18 : Int32) (w23 : Int32) (w24 : Int64) (w25 : Int64) (w26 : Int64) (q1 : Nat → Int64) (u1 : Nat → Int64) (im1 : Nat → Int64) (ik1 : Nat → Int32), (f1 h0 = .inr (12, [.int w0, .int w1, .ref (gr g h0 2), .ref (gr g h0 3), .ref (gr g h0 4), .ref (gr g h0 5), .ref (gr g h0 6), .ref (gr g h0 7), .ref (gr g h0 8), .ref (gr g h0 9), .int w10, .ref (gr g h0 11), .int w12, .int w13, .int w14, .int w15, .long w16, .int w17, .int w18, .ref (gr g h0 19), .ref (gr g h0 20), .ref (gr g h0 21), .ref (gr g h0 22), .int w23, .long w24, .long w25, .long w26])) ∧ (0 ≤ w10.toInt ∧ w10.toInt ≤ 10) ∧ (0 ≤ w12.toInt ∧ w12.toInt ≤ 200) ∧ (0 ≤ w23.toInt ∧ w23.toInt ≤ 8) ∧ (f1 (gr g h0 4) = .inl (gc g 1, 906, .inr (.inl q1))) ∧ (RowOK q1) ∧ (f1 (gr g h0 5) = .inl (gc g 1, 9060, .inr (.inl u1))) ∧ (f1 (gr g h0 7) = .inl (gc g 1, 1812, .inr (.inl im1))) ∧ (f1 (gr g h0 8) = .inl (gc g 3, 2, .inl ik1)) ∧ (UIq w10 u1 im1 ik1)) A) ([.ref h0, .int p1].toArray) s 0 0 A) (F0 m 43 ls []) := by
        intro nn
        induction nn with
        | zero => intro y_42 y_43 q_45 y_48 f_44 H locs ls m_58; exact absurd m_58 (Nat.not_lt_zero _)
        | succ nn ih =>
          intro y_42 y_43 q_45 y_48 f_44 H locs ls m_58 hI hS k_46 ok_47 k_49 k_50 k_51 k_52 k_53 kp_54 t_55 t_56 t_57 hl
          have g_59 := Int32.toInt_lt p1
          have g_60 := Int32.le_toInt p1
          have g_61 := Int32.toInt_lt y_42
          have g_62 := Int32.le_toInt y_42
          have d_63 := rk_hd ok_47
          refine lv_iload_n hx hb dX12_ahead_43 rfl (lv_at hl 0 rfl) ?_
          refine lv_iload_n hx hb dX12_ahead_44 rfl (lv_at hl 3 rfl) ?_
          refine lv_icmp_ge (tgt := 60) hx hb dX12_ahead_45 (by decide) (fun c_64 => ?_) (fun c_64 => ?_)
          · have c_64 := kc_le rfl rfl c_64
            refine lv_aload_n hx hb dX12_ahead_60 rfl (lv_at hl 2 rfl) ?_
            refine va_callv (va_runV (As := []) (rest := []) ⟨hx, hb, hml, hown, hts⟩ (c_X12_over l dC dI g A hG f_44 h0 q_45 pp1_30 i_h0 k_46 k_53 z_32) (cwV 0 hts (gi_V (fun w_ h0_ => ⟨List.mem_cons_of_mem _ (List.mem_append_right _ (List.mem_append_right _ (List.mem_append_right _ (List.mem_append_right _ (List.mem_append_left _ h0_))))), (tb_c_X12_over w_ h0_).2⟩) (List.mem_cons_of_mem _ (List.mem_append_left _ (List.mem_of_getElem? (i := 10) rfl))) (List.mem_cons_of_mem _ (List.mem_append_left _ (List.mem_of_getElem? (i := 11) rfl))) (List.mem_cons_of_mem _ (List.mem_append_left _ (List.mem_of_getElem? (i := 12) rfl))) (List.mem_cons_of_mem _ (List.mem_append_left _ (List.mem_of_getElem? (i := 4) rfl)))) rfl rfl rfl (by decide +kernel) ⟨Nat.le_of_ble_eq_true rfl, Nat.le_of_ble_eq_true rfl⟩) ⟨fun a U g mk q => ⟨q.1, q.2.calling rfl rfl⟩, k_recv hK hI i_h0.1 k_49 (ci := 12) rfl, fun U hU hW => ⟨rfl, kIn.of hI hK hE hS hU hW⟩⟩ rfl rfl hl.1 rfl (lv_room (Nat.le_of_ble_eq_true rfl)) dX12_ahead_61 ⟨Nat.le_of_ble_eq_true rfl, Nat.le_of_ble_eq_true rfl⟩) hS (fun q _ h => h) (fun q h => h) (fun u t H1 locs ht hvm _ hB hz1 hk1 hS => ?_)
            obtain ⟨f_65, hI, kc_67, q1_68, k_69, z_70, z_71, z_72⟩ := hB
            rw [ht] at hI
            have k_73 : f_65 h0 = .inr (12, [.int 0, .int z1, .ref (gr g h0 2), .ref (gr g h0 3), .ref (gr g h0 4), .ref (gr g h0 5), .ref (gr g h0 6), .ref (gr g h0 7), .ref (gr g h0 8), .ref (gr g h0 9), .int z10, .ref (gr g h0 11), .int z12, .int z13, .int z14, .int z15, .long z16, .int z17, .int z18, .ref (gr g h0 19), .ref (gr g h0 20), .ref (gr g h0 21), .ref (gr g h0 22), .int z23, .long y_48, .long z25, .long z26]) := Kp.at kc_67 i_h0 (by decide) k_49
            have k_74 : f_65 (gr g h0 5) = .inl (gc g 1, 9060, .inr (.inl u)) := Kp.at kc_67 i_3 (by decide) k_50
            have k_75 : f_65 (gr g h0 7) = .inl (gc g 1, 1812, .inr (.inl im)) := Kp.at kc_67 i_4 (by decide) k_51
            have k_76 : f_65 (gr g h0 8) = .inl (gc g 3, 2, .inl kt) := Kp.at kc_67 i_5 (by decide) k_52
            have k_77 : f_65 (gr g h0 6) = .inl (gc g 1, 906, .inr (.inl pp1_30)) := Kp.at kc_67 i_6 (by decide) k_53
            have z_70 : RowOK q1_68 := z_70
            have d_78 := rk_hd z_70
            have z_71 : (q1_68 0).toInt = (pp1_30 0).toInt := z_71
            have z_72 : (q1_68 1).toInt = (pp1_30 1).toInt := z_72
            have kp_79 := Kp.call kp_54 kc_67 (by decide)
            generalize H1 = H at hI hS ⊢
            refine W.widen (k := 0) (n := 0) (Nat.le_of_ble_eq_true rfl) (Nat.le_of_ble_eq_true rfl) ?_
            refine lv_iload_n hx hb dX12_ahead_64 rfl (lv_at hl 1 rfl) ?_
            exact W.iret (v := y_43) hx hb hr (fun t ht hW => ⟨⟨y_43, (), rfl, trivial, ⟨f_65, k_ret ht hI, kp_79, 0, z1, z10, z12, z13, z14, z15, z16, z17, z18, z23, y_48, z25, z26, q1_68, u, im, kt, k_73, (by first | omega | decide), (by first | omega | decide), (by first | omega | decide), k_69, z_70, k_74, k_75, k_76, hU⟩⟩, hS.F ht⟩) hS.2.2 dX12_ahead_65
          · have c_64 := kn_le rfl rfl c_64
            refine lv_aload_n hx hb dX12_ahead_48 rfl (lv_at hl 2 rfl) ?_
            refine lv_iconst (v := 0) hx hb dX12_ahead_49 (by decide) ?_
            refine va_calli (va_runV (As := [.int 0]) (rest := []) ⟨hx, hb, hml, hown, hts⟩ (c_X12_tick l dC dI g A hG f_44 h0 0 0 z1 z10 z12 z13 z14 z15 z16 z17 z18 z23 y_48 z25 z26 q_45 i_h0 k_49 (by first | omega | (simp only [k_c0]; omega)) (by first | omega | (simp only [k_c0]; omega)) (by first | omega | (simp only [k_c0]; omega)) k_46 ok_47 (by decide)) (cwV 1 hts (gi_V (fun w_ h0_ => ⟨List.mem_cons_of_mem _ (List.mem_append_right _ (List.mem_append_right _ (List.mem_append_right _ (List.mem_append_right _ (List.mem_append_right _ (List.mem_append_left _ h0_)))))), (tb_c_X12_tick w_ h0_).2⟩) (List.mem_cons_of_mem _ (List.mem_append_left _ (List.mem_of_getElem? (i := 13) rfl))) (List.mem_cons_of_mem _ (List.mem_append_left _ (List.mem_of_getElem? (i := 14) rfl))) (List.mem_cons_of_mem _ (List.mem_append_left _ (List.mem_of_getElem? (i := 15) rfl))) (List.mem_cons_of_mem _ (List.mem_append_left _ (List.mem_of_getElem? (i := 4) rfl)))) rfl rfl rfl (by decide +kernel) ⟨Nat.le_of_ble_eq_true rfl, Nat.le_of_ble_eq_true rfl⟩) ⟨fun a U g mk q => ⟨q.1, q.2.calling rfl rfl⟩, k_recv hK hI i_h0.1 k_49 (ci := 12) rfl, fun U hU hW => ⟨rfl, kIn.of hI hK hE hS hU hW⟩⟩ rfl rfl hl.1 rfl (lv_room (Nat.le_of_ble_eq_true rfl)) dX12_ahead_50 ⟨Nat.le_of_ble_eq_true rfl, Nat.le_of_ble_eq_true rfl⟩) hS (fun q _ h => h) (fun q h => h) (fun r_82 u t H1 locs ht hvm w_81 hB hz1 hk1 hS => ?_)
            obtain ⟨f_80, hI, kc_83, w24_84, q1_85, k_86, k_87, z_88, z_89, z_90⟩ := hB
            rw [ht] at hI
            have k_91 : f_80 (gr g h0 5) = .inl (gc g 1, 9060, .inr (.inl u)) := Kp.at kc_83 i_3 (by decide) k_50
            have k_92 : f_80 (gr g h0 7) = .inl (gc g 1, 1812, .inr (.inl im)) := Kp.at kc_83 i_4 (by decide) k_51
            have k_93 : f_80 (gr g h0 8) = .inl (gc g 3, 2, .inl kt) := Kp.at kc_83 i_5 (by decide) k_52
            have k_94 : f_80 (gr g h0 6) = .inl (gc g 1, 906, .inr (.inl pp1_30)) := Kp.at kc_83 i_6 (by decide) k_53
            have k_86 : f_80 h0 = .inr (12, [.int (0 : Int32), .int z1, .ref (gr g h0 2), .ref (gr g h0 3), .ref (gr g h0 4), .ref (gr g h0 5), .ref (gr g h0 6), .ref (gr g h0 7), .ref (gr g h0 8), .ref (gr g h0 9), .int z10, .ref (gr g h0 11), .int z12, .int z13, .int z14, .int z15, .long z16, .int z17, .int z18, .ref (gr g h0 19), .ref (gr g h0 20), .ref (gr g h0 21), .ref (gr g h0 22), .int z23, .long w24_84, .long z25, .long z26]) := k_86
            have z_88 : RowOK q1_85 := z_88
            have d_95 := rk_hd z_88
            have z_89 : (q1_85 0).toInt = (q_45 0).toInt := z_89
            have z_90 : (q1_85 1).toInt = (q_45 1).toInt + 1 := z_90
            have kp_96 := Kp.call kp_54 kc_83 (by decide)
            generalize H1 = H at hI hS ⊢
            refine W.widen (k := 0) (n := 0) (Nat.le_of_ble_eq_true rfl) (Nat.le_of_ble_eq_true rfl) ?_
            have w_81 : -1 ≤ r_82.toInt ∧ r_82.toInt < (q_45 0).toInt := w_81
            have g_97 : Int32.toInt (0) = 0 := by decide
            refine lv_istore_n (lv' := [(2, .int r_82), (3, .int y_42), (0, .ref h0), (1, .int p1)]) hx hb dX12_ahead_53 rfl hl (by decide) rfl (fun ls hl => ?_)
            obtain ⟨v_98, ev_98⟩ : ∃ y : Int32, y = y_42 + Int32.ofInt 1 := ⟨_, rfl⟩
            refine lv_iinc (v := v_98) (lv' := [(3, .int v_98), (2, .int r_82), (0, .ref h0), (1, .int p1)]) hx hb dX12_ahead_54 hl (k := 1) rfl ev_98.symm (by decide) rfl (fun ls hl => ?_)
            have tv_98 := k_inc y_42
            rw [← ev_98] at tv_98
            refine lv_goto (tgt := 43) hx hb dX12_ahead_57 (by decide) ?_
            exact ih v_98 r_82 q1_85 w24_84 f_80 _ _ _ (by omega) hI hS k_87 z_88 k_86 k_91 k_92 k_93 k_94 kp_96 (by first | omega | decide) (by first | omega | decide) (by first | omega | decide) (lv_sub hl [0, 1, 2, 3] rfl)
      exact K_43 _ 0 (-1) q z24 f_27 _ _ _ (Nat.lt_succ_self _) hI hS k_36 hc1_ok k_35 k_37 k_38 k_39 k_31 kp_41 (by first | omega | decide | (simp only [show Int32.toInt 0 = 0 from by decide, show Int32.toInt (-1) = (-1) from by decide]; omega)) (by first | omega | decide | (simp only [show Int32.toInt 0 = 0 from by decide, show Int32.toInt (-1) = (-1) from by decide]; omega)) (by first | omega | decide | (simp only [show Int32.toInt 0 = 0 from by decide, show Int32.toInt (-1) = (-1) from by decide]; omega)) (lv_sub hl [0, 1, 2, 3] rfl)
    · have c_26 := ln_le rfl (by decide : Int64.toInt 9999 = 9999) (fun h9 => c_26 ((lg_cmp_le _ _).mpr h9))
      refine lv_iconst (v := (-1)) hx hb dX12_ahead_33 (by decide) ?_
      exact W.iret (v := (-1)) hx hb hr (fun t ht hW => ⟨⟨(-1), (), rfl, trivial, ⟨f_7, k_ret ht hI, kp_9, 0, z1, z10, z12, z13, z14, z15, z16, z17, z18, z23, z24, z25, z26, q, u, im, kt, k_10, (by first | omega | decide), (by first | omega | decide), (by first | omega | decide), k_11, hc1_ok, k_12, k_13, k_14, hU⟩⟩, hS.F ht⟩) hS.2.2 dX12_ahead_34
theorem tw_989 : q_g (.code yX12_finish cX12_finish 4 (some .int)) := ⟨(List.mem_append_right _ (List.mem_of_getElem? (i := 1515) (by decide +kernel))), good_of_word (by decide +kernel)⟩
def ow_c_X12_finish : List Cond := [.fieldLink RX12 67 "DeadlineShareModel" "thrown" "I", .methodLink RX12 142 yX12_isTask, .instanceMethod yX12_isTask, .selects RX12 yX12_isTask yX12_isTask, .initialized RX12, .fieldLink RX12 16 "DeadlineShareModel" "row" "[J", .methodLink RX12 87 yX12_at, .static yX12_at, .methodLink RX12 310 yX12_begin, .instanceMethod yX12_begin, .selects RX12 yX12_begin yX12_begin, .methodLink RX12 313 yX12_over, .instanceMethod yX12_over, .selects RX12 yX12_over yX12_over, .constantLong RX12 286 (9999), .methodLink RX12 288 yX12_tick, .instanceMethod yX12_tick, .selects RX12 yX12_tick yX12_tick]
def wq_c_X12_finish : List Cond := .code yX12_finish cX12_finish 4 (some .int) :: (ow_c_X12_finish ++ (u_ws RX12 TX12 27 ++ (wq_c_X12_isTask ++ (wq_c_X12_at ++ (wq_c_X12_begin ++ (wq_c_X12_over ++ (wq_c_X12_tick ++ ([] : List Cond))))))))
theorem tb_c_X12_finish : ∀ w ∈ wq_c_X12_finish, q_g w := by
  unfold wq_c_X12_finish ow_c_X12_finish
  exact q_cons tw_989 (q_app (q_cons tw_927 (q_cons tw_951 (q_cons tw_950 (q_cons tw_949 (q_cons tw_728 (q_cons tw_731 (q_cons tw_734 (q_cons tw_733 (q_cons tw_925 (q_cons tw_924 (q_cons tw_923 (q_cons tw_922 (q_cons tw_921 (q_cons tw_920 (q_cons tw_985 (q_cons tw_919 (q_cons tw_918 (q_cons tw_917 q_nil)))))))))))))))))) (q_app tu_X12 (q_app tb_c_X12_isTask (q_app tb_c_X12_at (q_app tb_c_X12_begin (q_app tb_c_X12_over (q_app tb_c_X12_tick q_nil)))))))
set_option maxHeartbeats 4000000 in
set_option maxRecDepth 100000 in
theorem c_X12_finish (l : Launch) (dC : Nat → ClassId) (dI : Nat → Nat → Nat) (g : kG) (A : Nat → Prop) (hG : kWf g) (f : Nat → va_E) (h0 : Nat) (p1 : Int32) (z0 : Int32) (z1 : Int32) (z10 : Int32) (z12 : Int32) (z13 : Int32) (z14 : Int32) (z15 : Int32) (z16 : Int64) (z17 : Int32) (z18 : Int32) (z23 : Int32) (z24 : Int64) (z25 : Int64) (z26 : Int64) (q : Nat → Int64) (u : Nat → Int64) (im : Nat → Int64) (kt : Nat → Int32) (pp : Nat → Int64) (i_h0 : ik g 12 h0) (hc0 : f h0 = .inr (12, [.int z0, .int z1, .ref (gr g h0 2), .ref (gr g h0 3), .ref (gr g h0 4), .ref (gr g h0 5), .ref (gr g h0 6), .ref (gr g h0 7), .ref (gr g h0 8), .ref (gr g h0 9), .int z10, .ref (gr g h0 11), .int z12, .int z13, .int z14, .int z15, .long z16, .int z17, .int z18, .ref (gr g h0 19), .ref (gr g h0 20), .ref (gr g h0 21), .ref (gr g h0 22), .int z23, .long z24, .long z25, .long z26])) (hc0_10 : 0 ≤ z10.toInt ∧ z10.toInt ≤ 10) (hc0_12 : 0 ≤ z12.toInt ∧ z12.toInt ≤ 200) (hc0_23 : 0 ≤ z23.toInt ∧ z23.toInt ≤ 8) (hc1 : f (gr g h0 4) = .inl (gc g 1, 906, .inr (.inl q))) (hc1_ok : RowOK q) (hc2 : f (gr g h0 5) = .inl (gc g 1, 9060, .inr (.inl u))) (hc3 : f (gr g h0 7) = .inl (gc g 1, 1812, .inr (.inl im))) (hc4 : f (gr g h0 8) = .inl (gc g 3, 2, .inl kt)) (hc5 : f (gr g h0 6) = .inl (gc g 1, 906, .inr (.inl pp))) (hU : UIq z10 u im kt) : Met l yX12_finish wq_c_X12_finish ({ frames := 8, cells := 0, slots := 0, locals := 187 } : Room) (va_Pc [.ref h0, .int p1] (fun U => kIn dC dI g A f U)) (va_Qi (fun (r : Int32) (_ : Unit) => True) (fun (_ : Unit) t => ∃ f1 : Nat → va_E, Iv dC dI g A f1 t.heap ∧ Kp g [12, 32, 34] f f1 ∧ ∃ (w0 : Int32) (w1 : Int32) (w10 : Int32) (w12 : Int32) (w13 : Int32) (w14 : Int32) (w15 : Int32) (w16 : Int64) (w17 : Int32) (w18 : Int32) (w23 : Int32) (w24 : Int64) (w25 : Int64) (w26 : Int64) (q1 : Nat → Int64) (u1 : Nat → Int64) (im1 : Nat → Int64) (ik1 : Nat → Int32), (f1 h0 = .inr (12, [.int w0, .int w1, .ref (gr g h0 2), .ref (gr g h0 3), .ref (gr g h0 4), .ref (gr g h0 5), .ref (gr g h0 6), .ref (gr g h0 7), .ref (gr g h0 8), .ref (gr g h0 9), .int w10, .ref (gr g h0 11), .int w12, .int w13, .int w14, .int w15, .long w16, .int w17, .int w18, .ref (gr g h0 19), .ref (gr g h0 20), .ref (gr g h0 21), .ref (gr g h0 22), .int w23, .long w24, .long w25, .long w26])) ∧ (0 ≤ w10.toInt ∧ w10.toInt ≤ 10) ∧ (0 ≤ w12.toInt ∧ w12.toInt ≤ 200) ∧ (0 ≤ w23.toInt ∧ w23.toInt ≤ 8) ∧ (f1 (gr g h0 4) = .inl (gc g 1, 906, .inr (.inl q1))) ∧ (RowOK q1) ∧ (f1 (gr g h0 5) = .inl (gc g 1, 9060, .inr (.inl u1))) ∧ (f1 (gr g h0 7) = .inl (gc g 1, 1812, .inr (.inl im1))) ∧ (f1 (gr g h0 8) = .inl (gc g 3, 2, .inl ik1)) ∧ (UIq w10 u1 im1 ik1)) A) 0 0 A := by
  refine Met.ofW (cc := cX12_finish) (maxL := 4) (ret := (some .int)) (by decide) rfl ?_
  intro p e s m args below meth c s₁ B hml hv
  obtain ⟨rfl, hI, hK, hE⟩ := hv
  have hx := B.exec
  have hb := B.bytes
  have hr := B.returns
  have hts := atoms_spec (ws := wq_c_X12_finish) B.pre
  have hown : s.vm.findClass RX12 = some m.cls := findClass_of_methodNamed B.named
  have hlocks := B.notSynchronized
  have hS : va_S A s.heap s.heap [] := va_S.rf
  have hk0 : Kp g [12, 32, 34] f f := Kp.rf
  have hl := lv_entry ([.ref h0, .int p1]) (n := 4) (Nat.le_of_ble_eq_true rfl)
  rw [lg_entry_eq]
  generalize (lg_sl ([.ref h0, .int p1]) ++ List.replicate (4 - (lg_sl ([.ref h0, .int p1])).length) Slot.unset).toArray = ls at hl ⊢
  have hl : lv_has ls 4 [(0, .ref h0), (1, .int p1)] := hl
  have i_1 := kw_12_4 hG i_h0
  have d_2 := rk_hd hc1_ok
  have i_3 := kw_12_5 hG i_h0
  have i_4 := kw_12_7 hG i_h0
  have i_5 := kw_12_8 hG i_h0
  have i_6 := kw_12_6 hG i_h0
  refine lv_aload_n hx hb dX12_finish_0 rfl (lv_at hl 0 rfl) ?_
  refine lv_iconst (v := 0) hx hb dX12_finish_1 (by decide) ?_
  refine k_put (ci := 12) (v := .int 0) (ty := .int) (C := RX12) (T := TX12) (N := 27) hx hb hts (fun _ h0_ => List.mem_cons_of_mem _ (List.mem_append_right _ (List.mem_append_left _ h0_))) tyX12 tyX12_ok nmX12 hown hK hI hS i_h0.1 hc0 rfl 0 (by decide) (hts (.fieldLink RX12 67 "DeadlineShareModel" "thrown" "I") (List.mem_cons_of_mem _ (List.mem_append_left _ (List.mem_of_getElem? (i := 0) rfl)))) (fun _ h9 => h9) rfl (by decide +kernel) rfl rfl (Nat.le_of_ble_eq_true rfl) rfl (cl_12 i_h0 (by omega) (by omega) (by omega)) dX12_finish_2 (fun f_7 H locs e_8 hI hS => ?_)
  have k_10 : f_7 h0 = .inr (12, [.int 0, .int z1, .ref (gr g h0 2), .ref (gr g h0 3), .ref (gr g h0 4), .ref (gr g h0 5), .ref (gr g h0 6), .ref (gr g h0 7), .ref (gr g h0 8), .ref (gr g h0 9), .int z10, .ref (gr g h0 11), .int z12, .int z13, .int z14, .int z15, .long z16, .int z17, .int z18, .ref (gr g h0 19), .ref (gr g h0 20), .ref (gr g h0 21), .ref (gr g h0 22), .int z23, .long z24, .long z25, .long z26]) := by rw [e_8]; exact va_up_self _ _ _
  have k_11 : f_7 (gr g h0 4) = .inl (gc g 1, 906, .inr (.inl q)) := by rw [e_8, va_up_ne _ _ (ik_ne i_1 i_h0 (by decide))]; exact hc1
  have k_12 : f_7 (gr g h0 5) = .inl (gc g 1, 9060, .inr (.inl u)) := by rw [e_8, va_up_ne _ _ (ik_ne i_3 i_h0 (by decide))]; exact hc2
  have k_13 : f_7 (gr g h0 7) = .inl (gc g 1, 1812, .inr (.inl im)) := by rw [e_8, va_up_ne _ _ (ik_ne i_4 i_h0 (by decide))]; exact hc3
  have k_14 : f_7 (gr g h0 8) = .inl (gc g 3, 2, .inl kt) := by rw [e_8, va_up_ne _ _ (ik_ne i_5 i_h0 (by decide))]; exact hc4
  have k_15 : f_7 (gr g h0 6) = .inl (gc g 1, 906, .inr (.inl pp)) := by rw [e_8, va_up_ne _ _ (ik_ne i_6 i_h0 (by decide))]; exact hc5
  have kp_9 := Kp.put hk0 i_h0 (by decide) e_8
  refine lv_aload_n hx hb dX12_finish_5 rfl (lv_at hl 0 rfl) ?_
  refine lv_iload_n hx hb dX12_finish_6 rfl (lv_at hl 1 rfl) ?_
  refine va_calli (va_runV (As := [.int p1]) (rest := []) ⟨hx, hb, hml, hown, hts⟩ (c_X12_isTask l dC dI g A hG f_7 h0 p1 q i_h0 k_11 hc1_ok) (cwV 1 hts (gi_V (fun w_ h0_ => ⟨List.mem_cons_of_mem _ (List.mem_append_right _ (List.mem_append_right _ (List.mem_append_left _ h0_))), (tb_c_X12_isTask w_ h0_).2⟩) (List.mem_cons_of_mem _ (List.mem_append_left _ (List.mem_of_getElem? (i := 1) rfl))) (List.mem_cons_of_mem _ (List.mem_append_left _ (List.mem_of_getElem? (i := 2) rfl))) (List.mem_cons_of_mem _ (List.mem_append_left _ (List.mem_of_getElem? (i := 3) rfl))) (List.mem_cons_of_mem _ (List.mem_append_left _ (List.mem_of_getElem? (i := 4) rfl)))) rfl rfl rfl (by decide +kernel) ⟨Nat.le_of_ble_eq_true rfl, Nat.le_of_ble_eq_true rfl⟩) ⟨fun a U g mk q => ⟨q.1, q.2.calling rfl rfl⟩, k_recv hK hI i_h0.1 k_10 (ci := 12) rfl, fun U hU hW => ⟨rfl, kIn.of hI hK hE hS hU hW⟩⟩ rfl rfl hl.1 rfl (lv_room (Nat.le_of_ble_eq_true rfl)) dX12_finish_7 ⟨Nat.le_of_ble_eq_true rfl, Nat.le_of_ble_eq_true rfl⟩) hS (fun q _ h => h) (fun q h => h) (fun r_17 u t H1 locs ht hvm w_16 hB hz1 hk1 hS => ?_)
  have hI : Iv dC dI g A f_7 t.heap := hB
  rw [ht] at hI
  generalize H1 = H at hI hS ⊢
  refine W.widen (k := 0) (n := 0) (Nat.le_of_ble_eq_true rfl) (Nat.le_of_ble_eq_true rfl) ?_
  have w_16 : (r_17.toInt = 0 ∨ r_17.toInt = 1) ∧ (r_17.toInt = 0 ∨ (0 ≤ p1.toInt ∧ p1.toInt < (q 0).toInt)) := w_16
  refine lv_if_eq (tgt := 30) hx hb dX12_finish_10 (by decide) (fun c_18 => ?_) (fun c_18 => ?_)
  · have c_18 := kc_eq rfl (by decide : Int32.toInt 0 = 0) c_18
    refine lv_iconst (v := (-1)) hx hb dX12_finish_30 (by decide) ?_
    exact W.iret (v := (-1)) hx hb hr (fun t ht hW => ⟨⟨(-1), (), rfl, trivial, ⟨f_7, k_ret ht hI, kp_9, 0, z1, z10, z12, z13, z14, z15, z16, z17, z18, z23, z24, z25, z26, q, u, im, kt, k_10, (by first | omega | decide), (by first | omega | decide), (by first | omega | decide), k_11, hc1_ok, k_12, k_13, k_14, hU⟩⟩, hS.F ht⟩) hS.2.2 dX12_finish_31
  · have c_18 := kn_eq rfl (by decide : Int32.toInt 0 = 0) c_18
    refine lv_aload_n hx hb dX12_finish_13 rfl (lv_at hl 0 rfl) ?_
    refine k_get (ci := 12) (v := .ref (gr g h0 4)) (C := RX12) (T := TX12) (N := 27) hx hb hts (fun _ h0_ => List.mem_cons_of_mem _ (List.mem_append_right _ (List.mem_append_left _ h0_))) hown hK hI i_h0.1 k_10 rfl 4 (by decide) (hts (.fieldLink RX12 16 "DeadlineShareModel" "row" "[J") (List.mem_cons_of_mem _ (List.mem_append_left _ (List.mem_of_getElem? (i := 5) rfl)))) (fun _ h9 => h9) rfl dX12_finish_14 ?_
    obtain ⟨m_21, em_21, tm_21⟩ := k_nat (x := p1) (by omega)
    refine lv_iload_n hx hb dX12_finish_17 rfl (lv_at hl 1 rfl) ?_
    refine k_topi (y := nI m_21) em_21 ?_
    refine va_calli (va_runS (As := [.int (nI m_21)]) (rest := [.ref (gr g h0 4)]) ⟨hx, hb, hml, hown, hts⟩ (c_X12_at l dC dI g A hG f_7 m_21) (va_cwS 1 hts (gi_S (fun w_ h0_ => ⟨List.mem_cons_of_mem _ (List.mem_append_right _ (List.mem_append_right _ (List.mem_append_right _ (List.mem_append_left _ h0_)))), (tb_c_X12_at w_ h0_).2⟩) (List.mem_cons_of_mem _ (List.mem_append_left _ (List.mem_of_getElem? (i := 6) rfl))) (List.mem_cons_of_mem _ (List.mem_append_left _ (List.mem_of_getElem? (i := 7) rfl))) (List.mem_cons_of_mem _ (List.mem_append_left _ (List.mem_of_getElem? (i := 4) rfl)))) rfl rfl rfl (by decide +kernel) ⟨Nat.le_of_ble_eq_true rfl, Nat.le_of_ble_eq_true rfl⟩) ⟨fun a U g mk q => ⟨q.1, q.2.calling rfl rfl⟩, fun U hU hW => ⟨rfl, kIn.of hI hK hE hS hU hW⟩⟩ rfl rfl hl.1 rfl (lv_room (Nat.le_of_ble_eq_true rfl)) dX12_finish_18 ⟨Nat.le_of_ble_eq_true rfl, Nat.le_of_ble_eq_true rfl⟩) hS (fun q _ h => h) (fun q h => h) (fun r_23 u t H1 locs ht hvm w_22 hB hz1 hk1 hS => ?_)
    have hI : Iv dC dI g A f_7 t.heap := hB
    rw [ht] at hI
    generalize H1 = H at hI hS ⊢
    refine W.widen (k := 0) (n := 0) (Nat.le_of_ble_eq_true rfl) (Nat.le_of_ble_eq_true rfl) ?_
    have w_22 : r_23 = nI (6 + 43 * m_21) := w_22
    refine k_topi (y := nI (6 + 43 * m_21)) w_22 ?_
    refine lv_bipush (v := 13) hx hb dX12_finish_21 (by decide) ?_
    refine lv_iadd hx hb dX12_finish_23 ?_
    refine k_topi (y := nI (6 + 43 * m_21 + 13)) ((nI_add (6 + 43 * m_21) 13).trans (congrArg nI (by omega))) ?_
    refine k_lald hx hb hK hI i_1.1 1 k_11 rfl (vp_in_nI (by omega) (by omega)) dX12_finish_24 ?_
    refine k_topl (y := q (6 + 43 * m_21 + 13)) (congrArg q (nI_clamp (by omega))) ?_
    have d_24 := rk_13 hc1_ok (t := m_21) (by omega)
    refine lv_lconst (v := 0) hx hb dX12_finish_25 (by decide) ?_
    refine W.lcmp hx hb dX12_finish_26 ?_
    refine lv_if_ne (tgt := 32) hx hb dX12_finish_27 (by decide) (fun c_25 => ?_) (fun c_25 => ?_)
    · have c_25 := ln_eq rfl (by decide : Int64.toInt 0 = 0) (fun h9 => c_25 ((lg_cmp_eq _ _).mpr h9))
      refine lv_aload_n hx hb dX12_finish_32 rfl (lv_at hl 0 rfl) ?_
      refine va_callv (va_runV (As := []) (rest := []) ⟨hx, hb, hml, hown, hts⟩ (c_X12_begin l dC dI g A hG f_7 h0 q pp i_h0 k_11 hc1_ok k_15) (cwV 0 hts (gi_V (fun w_ h0_ => ⟨List.mem_cons_of_mem _ (List.mem_append_right _ (List.mem_append_right _ (List.mem_append_right _ (List.mem_append_right _ (List.mem_append_left _ h0_))))), (tb_c_X12_begin w_ h0_).2⟩) (List.mem_cons_of_mem _ (List.mem_append_left _ (List.mem_of_getElem? (i := 8) rfl))) (List.mem_cons_of_mem _ (List.mem_append_left _ (List.mem_of_getElem? (i := 9) rfl))) (List.mem_cons_of_mem _ (List.mem_append_left _ (List.mem_of_getElem? (i := 10) rfl))) (List.mem_cons_of_mem _ (List.mem_append_left _ (List.mem_of_getElem? (i := 4) rfl)))) rfl rfl rfl (by decide +kernel) ⟨Nat.le_of_ble_eq_true rfl, Nat.le_of_ble_eq_true rfl⟩) ⟨fun a U g mk q => ⟨q.1, q.2.calling rfl rfl⟩, k_recv hK hI i_h0.1 k_10 (ci := 12) rfl, fun U hU hW => ⟨rfl, kIn.of hI hK hE hS hU hW⟩⟩ rfl rfl hl.1 rfl (lv_room (Nat.le_of_ble_eq_true rfl)) dX12_finish_33 ⟨Nat.le_of_ble_eq_true rfl, Nat.le_of_ble_eq_true rfl⟩) hS (fun q _ h => h) (fun q h => h) (fun u t H1 locs ht hvm _ hB hz1 hk1 hS => ?_)
      obtain ⟨f_26, hI, kc_28, pp1_29, k_30, z_31, z_32, z_33⟩ := hB
      rw [ht] at hI
      have k_34 : f_26 h0 = .inr (12, [.int 0, .int z1, .ref (gr g h0 2), .ref (gr g h0 3), .ref (gr g h0 4), .ref (gr g h0 5), .ref (gr g h0 6), .ref (gr g h0 7), .ref (gr g h0 8), .ref (gr g h0 9), .int z10, .ref (gr g h0 11), .int z12, .int z13, .int z14, .int z15, .long z16, .int z17, .int z18, .ref (gr g h0 19), .ref (gr g h0 20), .ref (gr g h0 21), .ref (gr g h0 22), .int z23, .long z24, .long z25, .long z26]) := Kp.at kc_28 i_h0 (by decide) k_10
      have k_35 : f_26 (gr g h0 4) = .inl (gc g 1, 906, .inr (.inl q)) := Kp.at kc_28 i_1 (by decide) k_11
      have k_36 : f_26 (gr g h0 5) = .inl (gc g 1, 9060, .inr (.inl u)) := Kp.at kc_28 i_3 (by decide) k_12
      have k_37 : f_26 (gr g h0 7) = .inl (gc g 1, 1812, .inr (.inl im)) := Kp.at kc_28 i_4 (by decide) k_13
      have k_38 : f_26 (gr g h0 8) = .inl (gc g 3, 2, .inl kt) := Kp.at kc_28 i_5 (by decide) k_14
      have z_31 : RowOK pp1_29 := z_31
      have d_39 := rk_hd z_31
      have z_32 : (pp1_29 0).toInt = (q 0).toInt := z_32
      have z_33 : (pp1_29 1).toInt = (q 1).toInt := z_33
      have kp_40 := Kp.call kp_9 kc_28 (by decide)
      generalize H1 = H at hI hS ⊢
      refine W.widen (k := 0) (n := 0) (Nat.le_of_ble_eq_true rfl) (Nat.le_of_ble_eq_true rfl) ?_
      refine lv_iconst (v := 0) hx hb dX12_finish_36 (by decide) ?_
      refine lv_istore_n (lv' := [(2, .int 0), (0, .ref h0), (1, .int p1)]) hx hb dX12_finish_37 rfl hl (by decide) rfl (fun ls hl => ?_)
      have K_38 : ∀ (nn : Nat) (y_41 : Int32) (q_43 : Nat → Int64) (y_46 : Int64) (f_42 : Nat → va_E) (H : Heap) (locs : List Loc) (ls : Array Slot), (501 - y_41.toInt).toNat < nn → Iv dC dI g A f_42 H → va_S A s.heap H locs → f_42 (gr g h0 4) = .inl (gc g 1, 906, .inr (.inl q_43)) → RowOK q_43 → f_42 h0 = .inr (12, [.int 0, .int z1, .ref (gr g h0 2), .ref (gr g h0 3), .ref (gr g h0 4), .ref (gr g h0 5), .ref (gr g h0 6), .ref (gr g h0 7), .ref (gr g h0 8), .ref (gr g h0 9), .int z10, .ref (gr g h0 11), .int z12, .int z13, .int z14, .int z15, .long z16, .int z17, .int z18, .ref (gr g h0 19), .ref (gr g h0 20), .ref (gr g h0 21), .ref (gr g h0 22), .int z23, .long y_46, .long z25, .long z26]) → f_42 (gr g h0 5) = .inl (gc g 1, 9060, .inr (.inl u)) → f_42 (gr g h0 7) = .inl (gc g 1, 1812, .inr (.inl im)) → f_42 (gr g h0 8) = .inl (gc g 3, 2, .inl kt) → f_42 (gr g h0 6) = .inl (gc g 1, 906, .inr (.inl pp1_29)) → Kp g [12, 32, 34] f f_42 → ((q_43 0).toInt = (q 0).toInt) → (0 ≤ y_41.toInt) → lv_has ls 4 [(2, .int y_41), (0, .ref h0), (1, .int p1)] → W p l e (headSpec wq_c_X12_finish ({ frames := 8, cells := 0, slots := 0, locals := 187 } : Room)).room s m ([.ref h0, .int p1].toArray) below meth c H locs 0 0 (MQ below (va_Qi (fun (r : Int32) (_ : Unit) => True) (fun (_ : Unit) t => ∃ f1 : Nat → va_E, Iv dC dI g A f1 t.heap ∧ Kp g [12, 32, 34] f f1 ∧ ∃ (w0 : Int32) (w1 : Int32) (w10 : Int32) (w12 : Int32) (w13 : Int32) (w14 : Int32) (w15 : Int32) (w16 : Int64) (w17 : Int32) (w18 : Int32) (w23 : Int32) (w24 : Int64) (w25 : Int64) (w26 : Int64) (q1 : Nat → Int64) (u1 : Nat → Int64) (im1 : Nat → Int64) (ik1 : Nat → Int32), (f1 h0 = .inr (12, [.int w0, .int w1, .ref (gr g h0 2), .ref (gr g h0 3), .ref (gr g h0 4), .ref (gr g h0 5), .ref (gr g h0 6), .ref (gr g h0 7), .ref (gr g h0 8), .ref (gr g h0 9), .int w10, .ref (gr g h0 11), .int w12, .int w13, .int w14, .int w15, .long w16, .int w17, .int w18, .ref (gr g h0 19), .ref (gr g h0 20), .ref (gr g h0 21), .ref (gr g h0 22), .int w23, .long w24, .long w25, .long w26])) ∧ (0 ≤ w10.toInt ∧ w10.toInt ≤ 10) ∧ (0 ≤ w12.toInt ∧ w12.toInt ≤ 200) ∧ (0 ≤ w23.toInt ∧ w23.toInt ≤ 8) ∧ (f1 (gr g h0 4) = .inl (gc g 1, 906, .inr (.inl q1))) ∧ (RowOK q1) ∧ (f1 (gr g h0 5) = .inl (gc g 1, 9060, .inr (.inl u1))) ∧ (f1 (gr g h0 7) = .inl (gc g 1, 1812, .inr (.inl im1))) ∧ (f1 (gr g h0 8) = .inl (gc g 3, 2, .inl ik1)) ∧ (UIq w10 u1 im1 ik1)) A) ([.ref h0, .int p1].toArray) s 0 0 A) (F0 m 38 ls []) := by
        intro nn
        induction nn with
        | zero => intro y_41 q_43 y_46 f_42 H locs ls m_55; exact absurd m_55 (Nat.not_lt_zero _)
        | succ nn ih =>
          intro y_41 q_43 y_46 f_42 H locs ls m_55 hI hS k_44 ok_45 k_47 k_48 k_49 k_50 k_51 kp_52 t_53 t_54 hl
          have g_56 := Int32.toInt_lt y_41
          have g_57 := Int32.le_toInt y_41
          have d_58 := rk_hd ok_45
          refine lv_iload_n hx hb dX12_finish_38 rfl (lv_at hl 0 rfl) ?_
          refine lv_sipush (v := 500) hx hb dX12_finish_39 (by decide) ?_
          have J_87 : ∀ (H : Heap) (locs : List Loc) (ls : Array Slot), Iv dC dI g A f_42 H → va_S A s.heap H locs → lv_has ls 4 [(2, .int y_41), (0, .ref h0), (1, .int p1)] → W p l e (headSpec wq_c_X12_finish ({ frames := 8, cells := 0, slots := 0, locals := 187 } : Room)).room s m ([.ref h0, .int p1].toArray) below meth c H locs 0 0 (MQ below (va_Qi (fun (r : Int32) (_ : Unit) => True) (fun (_ : Unit) t => ∃ f1 : Nat → va_E, Iv dC dI g A f1 t.heap ∧ Kp g [12, 32, 34] f f1 ∧ ∃ (w0 : Int32) (w1 : Int32) (w10 : Int32) (w12 : Int32) (w13 : Int32) (w14 : Int32) (w15 : Int32) (w16 : Int64) (w17 : Int32) (w18 : Int32) (w23 : Int32) (w24 : Int64) (w25 : Int64) (w26 : Int64) (q1 : Nat → Int64) (u1 : Nat → Int64) (im1 : Nat → Int64) (ik1 : Nat → Int32), (f1 h0 = .inr (12, [.int w0, .int w1, .ref (gr g h0 2), .ref (gr g h0 3), .ref (gr g h0 4), .ref (gr g h0 5), .ref (gr g h0 6), .ref (gr g h0 7), .ref (gr g h0 8), .ref (gr g h0 9), .int w10, .ref (gr g h0 11), .int w12, .int w13, .int w14, .int w15, .long w16, .int w17, .int w18, .ref (gr g h0 19), .ref (gr g h0 20), .ref (gr g h0 21), .ref (gr g h0 22), .int w23, .long w24, .long w25, .long w26])) ∧ (0 ≤ w10.toInt ∧ w10.toInt ≤ 10) ∧ (0 ≤ w12.toInt ∧ w12.toInt ≤ 200) ∧ (0 ≤ w23.toInt ∧ w23.toInt ≤ 8) ∧ (f1 (gr g h0 4) = .inl (gc g 1, 906, .inr (.inl q1))) ∧ (RowOK q1) ∧ (f1 (gr g h0 5) = .inl (gc g 1, 9060, .inr (.inl u1))) ∧ (f1 (gr g h0 7) = .inl (gc g 1, 1812, .inr (.inl im1))) ∧ (f1 (gr g h0 8) = .inl (gc g 3, 2, .inl ik1)) ∧ (UIq w10 u1 im1 ik1)) A) ([.ref h0, .int p1].toArray) s 0 0 A) (F0 m 87 ls []) := by
            intro H locs ls hI hS  hl
            refine lv_aload_n hx hb dX12_finish_87 rfl (lv_at hl 1 rfl) ?_
            refine k_get (ci := 12) (v := .ref (gr g h0 4)) (C := RX12) (T := TX12) (N := 27) hx hb hts (fun _ h0_ => List.mem_cons_of_mem _ (List.mem_append_right _ (List.mem_append_left _ h0_))) hown hK hI i_h0.1 k_47 rfl 4 (by decide) (hts (.fieldLink RX12 16 "DeadlineShareModel" "row" "[J") (List.mem_cons_of_mem _ (List.mem_append_left _ (List.mem_of_getElem? (i := 5) rfl)))) (fun _ h9 => h9) rfl dX12_finish_88 ?_
            refine lv_iload_n hx hb dX12_finish_91 rfl (lv_at hl 2 rfl) ?_
            refine k_topi (y := nI m_21) em_21 ?_
            refine va_calli (va_runS (As := [.int (nI m_21)]) (rest := [.ref (gr g h0 4)]) ⟨hx, hb, hml, hown, hts⟩ (c_X12_at l dC dI g A hG f_42 m_21) (va_cwS 1 hts (gi_S (fun w_ h0_ => ⟨List.mem_cons_of_mem _ (List.mem_append_right _ (List.mem_append_right _ (List.mem_append_right _ (List.mem_append_left _ h0_)))), (tb_c_X12_at w_ h0_).2⟩) (List.mem_cons_of_mem _ (List.mem_append_left _ (List.mem_of_getElem? (i := 6) rfl))) (List.mem_cons_of_mem _ (List.mem_append_left _ (List.mem_of_getElem? (i := 7) rfl))) (List.mem_cons_of_mem _ (List.mem_append_left _ (List.mem_of_getElem? (i := 4) rfl)))) rfl rfl rfl (by decide +kernel) ⟨Nat.le_of_ble_eq_true rfl, Nat.le_of_ble_eq_true rfl⟩) ⟨fun a U g mk q => ⟨q.1, q.2.calling rfl rfl⟩, fun U hU hW => ⟨rfl, kIn.of hI hK hE hS hU hW⟩⟩ rfl rfl hl.1 rfl (lv_room (Nat.le_of_ble_eq_true rfl)) dX12_finish_92 ⟨Nat.le_of_ble_eq_true rfl, Nat.le_of_ble_eq_true rfl⟩) hS (fun q _ h => h) (fun q h => h) (fun r_62 u t H1 locs ht hvm w_61 hB hz1 hk1 hS => ?_)
            have hI : Iv dC dI g A f_42 t.heap := hB
            rw [ht] at hI
            generalize H1 = H at hI hS ⊢
            refine W.widen (k := 0) (n := 0) (Nat.le_of_ble_eq_true rfl) (Nat.le_of_ble_eq_true rfl) ?_
            have w_61 : r_62 = nI (6 + 43 * m_21) := w_61
            refine k_topi (y := nI (6 + 43 * m_21)) w_61 ?_
            refine lv_bipush (v := 13) hx hb dX12_finish_95 (by decide) ?_
            refine lv_iadd hx hb dX12_finish_97 ?_
            refine k_topi (y := nI (6 + 43 * m_21 + 13)) ((nI_add (6 + 43 * m_21) 13).trans (congrArg nI (by omega))) ?_
            refine k_lald hx hb hK hI i_1.1 1 k_44 rfl (vp_in_nI (by omega) (by omega)) dX12_finish_98 ?_
            refine k_topl (y := q_43 (6 + 43 * m_21 + 13)) (congrArg q_43 (nI_clamp (by omega))) ?_
            have d_63 := rk_13 ok_45 (t := m_21) (by omega)
            refine lv_lconst (v := 0) hx hb dX12_finish_99 (by decide) ?_
            refine W.lcmp hx hb dX12_finish_100 ?_
            have J_109 : ∀ (y_64 : Int32) (H : Heap) (locs : List Loc) (ls : Array Slot), Iv dC dI g A f_42 H → va_S A s.heap H locs → lv_has ls 4 [(2, .int y_41), (0, .ref h0), (1, .int p1)] → W p l e (headSpec wq_c_X12_finish ({ frames := 8, cells := 0, slots := 0, locals := 187 } : Room)).room s m ([.ref h0, .int p1].toArray) below meth c H locs 0 0 (MQ below (va_Qi (fun (r : Int32) (_ : Unit) => True) (fun (_ : Unit) t => ∃ f1 : Nat → va_E, Iv dC dI g A f1 t.heap ∧ Kp g [12, 32, 34] f f1 ∧ ∃ (w0 : Int32) (w1 : Int32) (w10 : Int32) (w12 : Int32) (w13 : Int32) (w14 : Int32) (w15 : Int32) (w16 : Int64) (w17 : Int32) (w18 : Int32) (w23 : Int32) (w24 : Int64) (w25 : Int64) (w26 : Int64) (q1 : Nat → Int64) (u1 : Nat → Int64) (im1 : Nat → Int64) (ik1 : Nat → Int32), (f1 h0 = .inr (12, [.int w0, .int w1, .ref (gr g h0 2), .ref (gr g h0 3), .ref (gr g h0 4), .ref (gr g h0 5), .ref (gr g h0 6), .ref (gr g h0 7), .ref (gr g h0 8), .ref (gr g h0 9), .int w10, .ref (gr g h0 11), .int w12, .int w13, .int w14, .int w15, .long w16, .int w17, .int w18, .ref (gr g h0 19), .ref (gr g h0 20), .ref (gr g h0 21), .ref (gr g h0 22), .int w23, .long w24, .long w25, .long w26])) ∧ (0 ≤ w10.toInt ∧ w10.toInt ≤ 10) ∧ (0 ≤ w12.toInt ∧ w12.toInt ≤ 200) ∧ (0 ≤ w23.toInt ∧ w23.toInt ≤ 8) ∧ (f1 (gr g h0 4) = .inl (gc g 1, 906, .inr (.inl q1))) ∧ (RowOK q1) ∧ (f1 (gr g h0 5) = .inl (gc g 1, 9060, .inr (.inl u1))) ∧ (f1 (gr g h0 7) = .inl (gc g 1, 1812, .inr (.inl im1))) ∧ (f1 (gr g h0 8) = .inl (gc g 3, 2, .inl ik1)) ∧ (UIq w10 u1 im1 ik1)) A) ([.ref h0, .int p1].toArray) s 0 0 A) (F0 m 109 ls [.int y_64]) := by
              intro y_64 H locs ls hI hS  hl
              refine lv_istore_n (lv' := [(3, .int y_64), (2, .int y_41), (0, .ref h0), (1, .int p1)]) hx hb dX12_finish_109 rfl hl (by decide) rfl (fun ls hl => ?_)
              refine lv_aload_n hx hb dX12_finish_110 rfl (lv_at hl 2 rfl) ?_
              refine va_callv (va_runV (As := []) (rest := []) ⟨hx, hb, hml, hown, hts⟩ (c_X12_over l dC dI g A hG f_42 h0 q_43 pp1_29 i_h0 k_44 k_51 z_31) (cwV 0 hts (gi_V (fun w_ h0_ => ⟨List.mem_cons_of_mem _ (List.mem_append_right _ (List.mem_append_right _ (List.mem_append_right _ (List.mem_append_right _ (List.mem_append_right _ (List.mem_append_left _ h0_)))))), (tb_c_X12_over w_ h0_).2⟩) (List.mem_cons_of_mem _ (List.mem_append_left _ (List.mem_of_getElem? (i := 11) rfl))) (List.mem_cons_of_mem _ (List.mem_append_left _ (List.mem_of_getElem? (i := 12) rfl))) (List.mem_cons_of_mem _ (List.mem_append_left _ (List.mem_of_getElem? (i := 13) rfl))) (List.mem_cons_of_mem _ (List.mem_append_left _ (List.mem_of_getElem? (i := 4) rfl)))) rfl rfl rfl (by decide +kernel) ⟨Nat.le_of_ble_eq_true rfl, Nat.le_of_ble_eq_true rfl⟩) ⟨fun a U g mk q => ⟨q.1, q.2.calling rfl rfl⟩, k_recv hK hI i_h0.1 k_47 (ci := 12) rfl, fun U hU hW => ⟨rfl, kIn.of hI hK hE hS hU hW⟩⟩ rfl rfl hl.1 rfl (lv_room (Nat.le_of_ble_eq_true rfl)) dX12_finish_111 ⟨Nat.le_of_ble_eq_true rfl, Nat.le_of_ble_eq_true rfl⟩) hS (fun q _ h => h) (fun q h => h) (fun u t H1 locs ht hvm _ hB hz1 hk1 hS => ?_)
              obtain ⟨f_65, hI, kc_67, q1_68, k_69, z_70, z_71, z_72⟩ := hB
              rw [ht] at hI
              have k_73 : f_65 h0 = .inr (12, [.int 0, .int z1, .ref (gr g h0 2), .ref (gr g h0 3), .ref (gr g h0 4), .ref (gr g h0 5), .ref (gr g h0 6), .ref (gr g h0 7), .ref (gr g h0 8), .ref (gr g h0 9), .int z10, .ref (gr g h0 11), .int z12, .int z13, .int z14, .int z15, .long z16, .int z17, .int z18, .ref (gr g h0 19), .ref (gr g h0 20), .ref (gr g h0 21), .ref (gr g h0 22), .int z23, .long y_46, .long z25, .long z26]) := Kp.at kc_67 i_h0 (by decide) k_47
              have k_74 : f_65 (gr g h0 5) = .inl (gc g 1, 9060, .inr (.inl u)) := Kp.at kc_67 i_3 (by decide) k_48
              have k_75 : f_65 (gr g h0 7) = .inl (gc g 1, 1812, .inr (.inl im)) := Kp.at kc_67 i_4 (by decide) k_49
              have k_76 : f_65 (gr g h0 8) = .inl (gc g 3, 2, .inl kt) := Kp.at kc_67 i_5 (by decide) k_50
              have k_77 : f_65 (gr g h0 6) = .inl (gc g 1, 906, .inr (.inl pp1_29)) := Kp.at kc_67 i_6 (by decide) k_51
              have z_70 : RowOK q1_68 := z_70
              have d_78 := rk_hd z_70
              have z_71 : (q1_68 0).toInt = (pp1_29 0).toInt := z_71
              have z_72 : (q1_68 1).toInt = (pp1_29 1).toInt := z_72
              have kp_79 := Kp.call kp_52 kc_67 (by decide)
              generalize H1 = H at hI hS ⊢
              refine W.widen (k := 0) (n := 0) (Nat.le_of_ble_eq_true rfl) (Nat.le_of_ble_eq_true rfl) ?_
              refine lv_iload_n hx hb dX12_finish_114 rfl (lv_at hl 0 rfl) ?_
              exact W.iret (v := y_64) hx hb hr (fun t ht hW => ⟨⟨y_64, (), rfl, trivial, ⟨f_65, k_ret ht hI, kp_79, 0, z1, z10, z12, z13, z14, z15, z16, z17, z18, z23, y_46, z25, z26, q1_68, u, im, kt, k_73, (by first | omega | decide), (by first | omega | decide), (by first | omega | decide), k_69, z_70, k_74, k_75, k_76, hU⟩⟩, hS.F ht⟩) hS.2.2 dX12_finish_115
            refine lv_if_le (tgt := 108) hx hb dX12_finish_101 (by decide) (fun c_80 => ?_) (fun c_80 => ?_)
            · have c_80 := lc_le rfl (by decide : Int64.toInt 0 = 0) ((lg_cmp_le _ _).mp c_80)
              refine lv_iload_n hx hb dX12_finish_108 rfl (lv_at hl 0 rfl) ?_
              exact J_109 y_41 _ _ _ hI hS  (lv_sub hl [0, 1, 2] rfl)
            · have c_80 := ln_le rfl (by decide : Int64.toInt 0 = 0) (fun h9 => c_80 ((lg_cmp_le _ _).mpr h9))
              refine lv_iconst (v := (-1)) hx hb dX12_finish_104 (by decide) ?_
              refine lv_goto (tgt := 109) hx hb dX12_finish_105 (by decide) ?_
              exact J_109 (-1) _ _ _ hI hS  (lv_sub hl [0, 1, 2] rfl)
          refine lv_icmp_ge (tgt := 87) hx hb dX12_finish_42 (by decide) (fun c_81 => ?_) (fun c_81 => ?_)
          · have c_81 := kc_le (by decide : Int32.toInt 500 = 500) rfl c_81
            exact J_87  _ _ _ hI hS  (lv_sub hl [0, 1, 2] rfl)
          · have c_81 := kn_le (by decide : Int32.toInt 500 = 500) rfl c_81
            refine lv_aload_n hx hb dX12_finish_45 rfl (lv_at hl 1 rfl) ?_
            refine k_get (ci := 12) (v := .ref (gr g h0 4)) (C := RX12) (T := TX12) (N := 27) hx hb hts (fun _ h0_ => List.mem_cons_of_mem _ (List.mem_append_right _ (List.mem_append_left _ h0_))) hown hK hI i_h0.1 k_47 rfl 4 (by decide) (hts (.fieldLink RX12 16 "DeadlineShareModel" "row" "[J") (List.mem_cons_of_mem _ (List.mem_append_left _ (List.mem_of_getElem? (i := 5) rfl)))) (fun _ h9 => h9) rfl dX12_finish_46 ?_
            refine lv_iconst (v := 1) hx hb dX12_finish_49 (by decide) ?_
            refine k_lald hx hb hK hI i_1.1 1 k_44 rfl (by unfold vp_in; decide) dX12_finish_50 ?_
            refine k_topl (y := q_43 1) (congrArg q_43 (show Int32.toNatClampNeg 1 = 1 by decide)) ?_
            refine lv_ldc2 hx hb hown (hts (.constantLong RX12 286 (9999)) (List.mem_cons_of_mem _ (List.mem_append_left _ (List.mem_of_getElem? (i := 14) rfl)))) dX12_finish_51 ?_
            refine W.lcmp hx hb dX12_finish_54 ?_
            refine lv_if_ge (tgt := 87) hx hb dX12_finish_55 (by decide) (fun c_84 => ?_) (fun c_84 => ?_)
            · have c_84 := lc_le (by decide : Int64.toInt 9999 = 9999) rfl ((lg_cmp_ge _ _).mp c_84)
              exact J_87  _ _ _ hI hS  (lv_sub hl [0, 1, 2] rfl)
            · have c_84 := ln_le (by decide : Int64.toInt 9999 = 9999) rfl (fun h9 => c_84 ((lg_cmp_ge _ _).mpr h9))
              refine lv_aload_n hx hb dX12_finish_58 rfl (lv_at hl 1 rfl) ?_
              refine k_get (ci := 12) (v := .ref (gr g h0 4)) (C := RX12) (T := TX12) (N := 27) hx hb hts (fun _ h0_ => List.mem_cons_of_mem _ (List.mem_append_right _ (List.mem_append_left _ h0_))) hown hK hI i_h0.1 k_47 rfl 4 (by decide) (hts (.fieldLink RX12 16 "DeadlineShareModel" "row" "[J") (List.mem_cons_of_mem _ (List.mem_append_left _ (List.mem_of_getElem? (i := 5) rfl)))) (fun _ h9 => h9) rfl dX12_finish_59 ?_
              refine lv_iload_n hx hb dX12_finish_62 rfl (lv_at hl 2 rfl) ?_
              refine k_topi (y := nI m_21) em_21 ?_
              refine va_calli (va_runS (As := [.int (nI m_21)]) (rest := [.ref (gr g h0 4)]) ⟨hx, hb, hml, hown, hts⟩ (c_X12_at l dC dI g A hG f_42 m_21) (va_cwS 1 hts (gi_S (fun w_ h0_ => ⟨List.mem_cons_of_mem _ (List.mem_append_right _ (List.mem_append_right _ (List.mem_append_right _ (List.mem_append_left _ h0_)))), (tb_c_X12_at w_ h0_).2⟩) (List.mem_cons_of_mem _ (List.mem_append_left _ (List.mem_of_getElem? (i := 6) rfl))) (List.mem_cons_of_mem _ (List.mem_append_left _ (List.mem_of_getElem? (i := 7) rfl))) (List.mem_cons_of_mem _ (List.mem_append_left _ (List.mem_of_getElem? (i := 4) rfl)))) rfl rfl rfl (by decide +kernel) ⟨Nat.le_of_ble_eq_true rfl, Nat.le_of_ble_eq_true rfl⟩) ⟨fun a U g mk q => ⟨q.1, q.2.calling rfl rfl⟩, fun U hU hW => ⟨rfl, kIn.of hI hK hE hS hU hW⟩⟩ rfl rfl hl.1 rfl (lv_room (Nat.le_of_ble_eq_true rfl)) dX12_finish_63 ⟨Nat.le_of_ble_eq_true rfl, Nat.le_of_ble_eq_true rfl⟩) hS (fun q _ h => h) (fun q h => h) (fun r_88 u t H1 locs ht hvm w_87 hB hz1 hk1 hS => ?_)
              have hI : Iv dC dI g A f_42 t.heap := hB
              rw [ht] at hI
              generalize H1 = H at hI hS ⊢
              refine W.widen (k := 0) (n := 0) (Nat.le_of_ble_eq_true rfl) (Nat.le_of_ble_eq_true rfl) ?_
              have w_87 : r_88 = nI (6 + 43 * m_21) := w_87
              refine k_topi (y := nI (6 + 43 * m_21)) w_87 ?_
              refine lv_bipush (v := 13) hx hb dX12_finish_66 (by decide) ?_
              refine lv_iadd hx hb dX12_finish_68 ?_
              refine k_topi (y := nI (6 + 43 * m_21 + 13)) ((nI_add (6 + 43 * m_21) 13).trans (congrArg nI (by omega))) ?_
              refine k_lald hx hb hK hI i_1.1 1 k_44 rfl (vp_in_nI (by omega) (by omega)) dX12_finish_69 ?_
              refine k_topl (y := q_43 (6 + 43 * m_21 + 13)) (congrArg q_43 (nI_clamp (by omega))) ?_
              have d_89 := rk_13 ok_45 (t := m_21) (by omega)
              refine lv_lconst (v := 0) hx hb dX12_finish_70 (by decide) ?_
              refine W.lcmp hx hb dX12_finish_71 ?_
              refine lv_if_le (tgt := 87) hx hb dX12_finish_72 (by decide) (fun c_90 => ?_) (fun c_90 => ?_)
              · have c_90 := lc_le rfl (by decide : Int64.toInt 0 = 0) ((lg_cmp_le _ _).mp c_90)
                exact J_87  _ _ _ hI hS  (lv_sub hl [0, 1, 2] rfl)
              · have c_90 := ln_le rfl (by decide : Int64.toInt 0 = 0) (fun h9 => c_90 ((lg_cmp_le _ _).mpr h9))
                refine lv_aload_n hx hb dX12_finish_75 rfl (lv_at hl 1 rfl) ?_
                refine lv_iconst (v := 0) hx hb dX12_finish_76 (by decide) ?_
                refine va_calli (va_runV (As := [.int 0]) (rest := []) ⟨hx, hb, hml, hown, hts⟩ (c_X12_tick l dC dI g A hG f_42 h0 0 0 z1 z10 z12 z13 z14 z15 z16 z17 z18 z23 y_46 z25 z26 q_43 i_h0 k_47 (by first | omega | (simp only [k_c0]; omega)) (by first | omega | (simp only [k_c0]; omega)) (by first | omega | (simp only [k_c0]; omega)) k_44 ok_45 (by decide)) (cwV 1 hts (gi_V (fun w_ h0_ => ⟨List.mem_cons_of_mem _ (List.mem_append_right _ (List.mem_append_right _ (List.mem_append_right _ (List.mem_append_right _ (List.mem_append_right _ (List.mem_append_right _ (List.mem_append_left _ h0_))))))), (tb_c_X12_tick w_ h0_).2⟩) (List.mem_cons_of_mem _ (List.mem_append_left _ (List.mem_of_getElem? (i := 15) rfl))) (List.mem_cons_of_mem _ (List.mem_append_left _ (List.mem_of_getElem? (i := 16) rfl))) (List.mem_cons_of_mem _ (List.mem_append_left _ (List.mem_of_getElem? (i := 17) rfl))) (List.mem_cons_of_mem _ (List.mem_append_left _ (List.mem_of_getElem? (i := 4) rfl)))) rfl rfl rfl (by decide +kernel) ⟨Nat.le_of_ble_eq_true rfl, Nat.le_of_ble_eq_true rfl⟩) ⟨fun a U g mk q => ⟨q.1, q.2.calling rfl rfl⟩, k_recv hK hI i_h0.1 k_47 (ci := 12) rfl, fun U hU hW => ⟨rfl, kIn.of hI hK hE hS hU hW⟩⟩ rfl rfl hl.1 rfl (lv_room (Nat.le_of_ble_eq_true rfl)) dX12_finish_77 ⟨Nat.le_of_ble_eq_true rfl, Nat.le_of_ble_eq_true rfl⟩) hS (fun q _ h => h) (fun q h => h) (fun r_93 u t H1 locs ht hvm w_92 hB hz1 hk1 hS => ?_)
                obtain ⟨f_91, hI, kc_94, w24_95, q1_96, k_97, k_98, z_99, z_100, z_101⟩ := hB
                rw [ht] at hI
                have k_102 : f_91 (gr g h0 5) = .inl (gc g 1, 9060, .inr (.inl u)) := Kp.at kc_94 i_3 (by decide) k_48
                have k_103 : f_91 (gr g h0 7) = .inl (gc g 1, 1812, .inr (.inl im)) := Kp.at kc_94 i_4 (by decide) k_49
                have k_104 : f_91 (gr g h0 8) = .inl (gc g 3, 2, .inl kt) := Kp.at kc_94 i_5 (by decide) k_50
                have k_105 : f_91 (gr g h0 6) = .inl (gc g 1, 906, .inr (.inl pp1_29)) := Kp.at kc_94 i_6 (by decide) k_51
                have k_97 : f_91 h0 = .inr (12, [.int (0 : Int32), .int z1, .ref (gr g h0 2), .ref (gr g h0 3), .ref (gr g h0 4), .ref (gr g h0 5), .ref (gr g h0 6), .ref (gr g h0 7), .ref (gr g h0 8), .ref (gr g h0 9), .int z10, .ref (gr g h0 11), .int z12, .int z13, .int z14, .int z15, .long z16, .int z17, .int z18, .ref (gr g h0 19), .ref (gr g h0 20), .ref (gr g h0 21), .ref (gr g h0 22), .int z23, .long w24_95, .long z25, .long z26]) := k_97
                have z_99 : RowOK q1_96 := z_99
                have d_106 := rk_hd z_99
                have z_100 : (q1_96 0).toInt = (q_43 0).toInt := z_100
                have z_101 : (q1_96 1).toInt = (q_43 1).toInt + 1 := z_101
                have kp_107 := Kp.call kp_52 kc_94 (by decide)
                generalize H1 = H at hI hS ⊢
                refine W.widen (k := 0) (n := 0) (Nat.le_of_ble_eq_true rfl) (Nat.le_of_ble_eq_true rfl) ?_
                have w_92 : -1 ≤ r_93.toInt ∧ r_93.toInt < (q_43 0).toInt := w_92
                have g_108 : Int32.toInt (0) = 0 := by decide
                refine lv_pop hx hb dX12_finish_80 rfl ?_
                obtain ⟨v_109, ev_109⟩ : ∃ y : Int32, y = y_41 + Int32.ofInt 1 := ⟨_, rfl⟩
                refine lv_iinc (v := v_109) (lv' := [(2, .int v_109), (0, .ref h0), (1, .int p1)]) hx hb dX12_finish_81 hl (k := 0) rfl ev_109.symm (by decide) rfl (fun ls hl => ?_)
                have tv_109 := k_inc y_41
                rw [← ev_109] at tv_109
                refine lv_goto (tgt := 38) hx hb dX12_finish_84 (by decide) ?_
                exact ih v_109 q1_96 w24_95 f_91 _ _ _ (by omega) hI hS k_98 z_99 k_97 k_102 k_103 k_104 k_105 kp_107 (by first | omega | decide) (by first | omega | decide) (lv_sub hl [0, 1, 2] rfl)
      exact K_38 _ 0 q z24 f_26 _ _ _ (Nat.lt_succ_self _) hI hS k_35 hc1_ok k_34 k_36 k_37 k_38 k_30 kp_40 (by first | omega | decide | (simp only [show Int32.toInt 0 = 0 from by decide]; omega)) (by first | omega | decide | (simp only [show Int32.toInt 0 = 0 from by decide]; omega)) (lv_sub hl [0, 1, 2] rfl)
    · have c_25 := lc_eq rfl (by decide : Int64.toInt 0 = 0) ((lg_cmp_eq _ _).mp c_25)
      refine lv_iconst (v := (-1)) hx hb dX12_finish_30 (by decide) ?_
      exact W.iret (v := (-1)) hx hb hr (fun t ht hW => ⟨⟨(-1), (), rfl, trivial, ⟨f_7, k_ret ht hI, kp_9, 0, z1, z10, z12, z13, z14, z15, z16, z17, z18, z23, z24, z25, z26, q, u, im, kt, k_10, (by first | omega | decide), (by first | omega | decide), (by first | omega | decide), k_11, hc1_ok, k_12, k_13, k_14, hU⟩⟩, hS.F ht⟩) hS.2.2 dX12_finish_31
theorem tw_990 : q_g (.code yX12_due cX12_due 6 (some .int)) := ⟨(List.mem_append_right _ (List.mem_of_getElem? (i := 1519) (by decide +kernel))), good_of_word (by decide +kernel)⟩
def ow_c_X12_due : List Cond := [.fieldLink RX12 67 "DeadlineShareModel" "thrown" "I", .methodLink RX12 142 yX12_isTask, .instanceMethod yX12_isTask, .selects RX12 yX12_isTask yX12_isTask, .initialized RX12, .methodLink RX12 310 yX12_begin, .instanceMethod yX12_begin, .selects RX12 yX12_begin yX12_begin, .fieldLink RX12 16 "DeadlineShareModel" "row" "[J", .methodLink RX12 87 yX12_at, .static yX12_at, .methodLink RX12 313 yX12_over, .instanceMethod yX12_over, .selects RX12 yX12_over yX12_over, .constantLong RX12 286 (9999), .methodLink RX12 288 yX12_tick, .instanceMethod yX12_tick, .selects RX12 yX12_tick yX12_tick]
def wq_c_X12_due : List Cond := .code yX12_due cX12_due 6 (some .int) :: (ow_c_X12_due ++ (u_ws RX12 TX12 27 ++ (wq_c_X12_isTask ++ (wq_c_X12_begin ++ (wq_c_X12_at ++ (wq_c_X12_over ++ (wq_c_X12_tick ++ ([] : List Cond))))))))
theorem tb_c_X12_due : ∀ w ∈ wq_c_X12_due, q_g w := by
  unfold wq_c_X12_due ow_c_X12_due
  exact q_cons tw_990 (q_app (q_cons tw_927 (q_cons tw_951 (q_cons tw_950 (q_cons tw_949 (q_cons tw_728 (q_cons tw_925 (q_cons tw_924 (q_cons tw_923 (q_cons tw_731 (q_cons tw_734 (q_cons tw_733 (q_cons tw_922 (q_cons tw_921 (q_cons tw_920 (q_cons tw_985 (q_cons tw_919 (q_cons tw_918 (q_cons tw_917 q_nil)))))))))))))))))) (q_app tu_X12 (q_app tb_c_X12_isTask (q_app tb_c_X12_begin (q_app tb_c_X12_at (q_app tb_c_X12_over (q_app tb_c_X12_tick q_nil)))))))
set_option maxHeartbeats 4000000 in
set_option maxRecDepth 100000 in
theorem c_X12_due (l : Launch) (dC : Nat → ClassId) (dI : Nat → Nat → Nat) (g : kG) (A : Nat → Prop) (hG : kWf g) (f : Nat → va_E) (h0 : Nat) (p1 : Int32) (z0 : Int32) (z1 : Int32) (z10 : Int32) (z12 : Int32) (z13 : Int32) (z14 : Int32) (z15 : Int32) (z16 : Int64) (z17 : Int32) (z18 : Int32) (z23 : Int32) (z24 : Int64) (z25 : Int64) (z26 : Int64) (q : Nat → Int64) (u : Nat → Int64) (im : Nat → Int64) (kt : Nat → Int32) (pp : Nat → Int64) (i_h0 : ik g 12 h0) (hc0 : f h0 = .inr (12, [.int z0, .int z1, .ref (gr g h0 2), .ref (gr g h0 3), .ref (gr g h0 4), .ref (gr g h0 5), .ref (gr g h0 6), .ref (gr g h0 7), .ref (gr g h0 8), .ref (gr g h0 9), .int z10, .ref (gr g h0 11), .int z12, .int z13, .int z14, .int z15, .long z16, .int z17, .int z18, .ref (gr g h0 19), .ref (gr g h0 20), .ref (gr g h0 21), .ref (gr g h0 22), .int z23, .long z24, .long z25, .long z26])) (hc0_10 : 0 ≤ z10.toInt ∧ z10.toInt ≤ 10) (hc0_12 : 0 ≤ z12.toInt ∧ z12.toInt ≤ 200) (hc0_23 : 0 ≤ z23.toInt ∧ z23.toInt ≤ 8) (hc1 : f (gr g h0 4) = .inl (gc g 1, 906, .inr (.inl q))) (hc1_ok : RowOK q) (hc2 : f (gr g h0 5) = .inl (gc g 1, 9060, .inr (.inl u))) (hc3 : f (gr g h0 7) = .inl (gc g 1, 1812, .inr (.inl im))) (hc4 : f (gr g h0 8) = .inl (gc g 3, 2, .inl kt)) (hc5 : f (gr g h0 6) = .inl (gc g 1, 906, .inr (.inl pp))) (hU : UIq z10 u im kt) : Met l yX12_due wq_c_X12_due ({ frames := 8, cells := 0, slots := 0, locals := 187 } : Room) (va_Pc [.ref h0, .int p1] (fun U => kIn dC dI g A f U)) (va_Qi (fun (r : Int32) (_ : Unit) => True) (fun (_ : Unit) t => ∃ f1 : Nat → va_E, Iv dC dI g A f1 t.heap ∧ Kp g [12, 32, 34] f f1 ∧ ∃ (w0 : Int32) (w1 : Int32) (w10 : Int32) (w12 : Int32) (w13 : Int32) (w14 : Int32) (w15 : Int32) (w16 : Int64) (w17 : Int32) (w18 : Int32) (w23 : Int32) (w24 : Int64) (w25 : Int64) (w26 : Int64) (q1 : Nat → Int64) (u1 : Nat → Int64) (im1 : Nat → Int64) (ik1 : Nat → Int32), (f1 h0 = .inr (12, [.int w0, .int w1, .ref (gr g h0 2), .ref (gr g h0 3), .ref (gr g h0 4), .ref (gr g h0 5), .ref (gr g h0 6), .ref (gr g h0 7), .ref (gr g h0 8), .ref (gr g h0 9), .int w10, .ref (gr g h0 11), .int w12, .int w13, .int w14, .int w15, .long w16, .int w17, .int w18, .ref (gr g h0 19), .ref (gr g h0 20), .ref (gr g h0 21), .ref (gr g h0 22), .int w23, .long w24, .long w25, .long w26])) ∧ (0 ≤ w10.toInt ∧ w10.toInt ≤ 10) ∧ (0 ≤ w12.toInt ∧ w12.toInt ≤ 200) ∧ (0 ≤ w23.toInt ∧ w23.toInt ≤ 8) ∧ (f1 (gr g h0 4) = .inl (gc g 1, 906, .inr (.inl q1))) ∧ (RowOK q1) ∧ (f1 (gr g h0 5) = .inl (gc g 1, 9060, .inr (.inl u1))) ∧ (f1 (gr g h0 7) = .inl (gc g 1, 1812, .inr (.inl im1))) ∧ (f1 (gr g h0 8) = .inl (gc g 3, 2, .inl ik1)) ∧ (UIq w10 u1 im1 ik1)) A) 0 0 A := by
  refine Met.ofW (cc := cX12_due) (maxL := 6) (ret := (some .int)) (by decide) rfl ?_
  intro p e s m args below meth c s₁ B hml hv
  obtain ⟨rfl, hI, hK, hE⟩ := hv
  have hx := B.exec
  have hb := B.bytes
  have hr := B.returns
  have hts := atoms_spec (ws := wq_c_X12_due) B.pre
  have hown : s.vm.findClass RX12 = some m.cls := findClass_of_methodNamed B.named
  have hlocks := B.notSynchronized
  have hS : va_S A s.heap s.heap [] := va_S.rf
  have hk0 : Kp g [12, 32, 34] f f := Kp.rf
  have hl := lv_entry ([.ref h0, .int p1]) (n := 6) (Nat.le_of_ble_eq_true rfl)
  rw [lg_entry_eq]
  generalize (lg_sl ([.ref h0, .int p1]) ++ List.replicate (6 - (lg_sl ([.ref h0, .int p1])).length) Slot.unset).toArray = ls at hl ⊢
  have hl : lv_has ls 6 [(0, .ref h0), (1, .int p1)] := hl
  have i_1 := kw_12_4 hG i_h0
  have d_2 := rk_hd hc1_ok
  have i_3 := kw_12_5 hG i_h0
  have i_4 := kw_12_7 hG i_h0
  have i_5 := kw_12_8 hG i_h0
  have i_6 := kw_12_6 hG i_h0
  refine lv_aload_n hx hb dX12_due_0 rfl (lv_at hl 0 rfl) ?_
  refine lv_iconst (v := 0) hx hb dX12_due_1 (by decide) ?_
  refine k_put (ci := 12) (v := .int 0) (ty := .int) (C := RX12) (T := TX12) (N := 27) hx hb hts (fun _ h0_ => List.mem_cons_of_mem _ (List.mem_append_right _ (List.mem_append_left _ h0_))) tyX12 tyX12_ok nmX12 hown hK hI hS i_h0.1 hc0 rfl 0 (by decide) (hts (.fieldLink RX12 67 "DeadlineShareModel" "thrown" "I") (List.mem_cons_of_mem _ (List.mem_append_left _ (List.mem_of_getElem? (i := 0) rfl)))) (fun _ h9 => h9) rfl (by decide +kernel) rfl rfl (Nat.le_of_ble_eq_true rfl) rfl (cl_12 i_h0 (by omega) (by omega) (by omega)) dX12_due_2 (fun f_7 H locs e_8 hI hS => ?_)
  have k_10 : f_7 h0 = .inr (12, [.int 0, .int z1, .ref (gr g h0 2), .ref (gr g h0 3), .ref (gr g h0 4), .ref (gr g h0 5), .ref (gr g h0 6), .ref (gr g h0 7), .ref (gr g h0 8), .ref (gr g h0 9), .int z10, .ref (gr g h0 11), .int z12, .int z13, .int z14, .int z15, .long z16, .int z17, .int z18, .ref (gr g h0 19), .ref (gr g h0 20), .ref (gr g h0 21), .ref (gr g h0 22), .int z23, .long z24, .long z25, .long z26]) := by rw [e_8]; exact va_up_self _ _ _
  have k_11 : f_7 (gr g h0 4) = .inl (gc g 1, 906, .inr (.inl q)) := by rw [e_8, va_up_ne _ _ (ik_ne i_1 i_h0 (by decide))]; exact hc1
  have k_12 : f_7 (gr g h0 5) = .inl (gc g 1, 9060, .inr (.inl u)) := by rw [e_8, va_up_ne _ _ (ik_ne i_3 i_h0 (by decide))]; exact hc2
  have k_13 : f_7 (gr g h0 7) = .inl (gc g 1, 1812, .inr (.inl im)) := by rw [e_8, va_up_ne _ _ (ik_ne i_4 i_h0 (by decide))]; exact hc3
  have k_14 : f_7 (gr g h0 8) = .inl (gc g 3, 2, .inl kt) := by rw [e_8, va_up_ne _ _ (ik_ne i_5 i_h0 (by decide))]; exact hc4
  have k_15 : f_7 (gr g h0 6) = .inl (gc g 1, 906, .inr (.inl pp)) := by rw [e_8, va_up_ne _ _ (ik_ne i_6 i_h0 (by decide))]; exact hc5
  have kp_9 := Kp.put hk0 i_h0 (by decide) e_8
  refine lv_aload_n hx hb dX12_due_5 rfl (lv_at hl 0 rfl) ?_
  refine lv_iload_n hx hb dX12_due_6 rfl (lv_at hl 1 rfl) ?_
  refine va_calli (va_runV (As := [.int p1]) (rest := []) ⟨hx, hb, hml, hown, hts⟩ (c_X12_isTask l dC dI g A hG f_7 h0 p1 q i_h0 k_11 hc1_ok) (cwV 1 hts (gi_V (fun w_ h0_ => ⟨List.mem_cons_of_mem _ (List.mem_append_right _ (List.mem_append_right _ (List.mem_append_left _ h0_))), (tb_c_X12_isTask w_ h0_).2⟩) (List.mem_cons_of_mem _ (List.mem_append_left _ (List.mem_of_getElem? (i := 1) rfl))) (List.mem_cons_of_mem _ (List.mem_append_left _ (List.mem_of_getElem? (i := 2) rfl))) (List.mem_cons_of_mem _ (List.mem_append_left _ (List.mem_of_getElem? (i := 3) rfl))) (List.mem_cons_of_mem _ (List.mem_append_left _ (List.mem_of_getElem? (i := 4) rfl)))) rfl rfl rfl (by decide +kernel) ⟨Nat.le_of_ble_eq_true rfl, Nat.le_of_ble_eq_true rfl⟩) ⟨fun a U g mk q => ⟨q.1, q.2.calling rfl rfl⟩, k_recv hK hI i_h0.1 k_10 (ci := 12) rfl, fun U hU hW => ⟨rfl, kIn.of hI hK hE hS hU hW⟩⟩ rfl rfl hl.1 rfl (lv_room (Nat.le_of_ble_eq_true rfl)) dX12_due_7 ⟨Nat.le_of_ble_eq_true rfl, Nat.le_of_ble_eq_true rfl⟩) hS (fun q _ h => h) (fun q h => h) (fun r_17 u t H1 locs ht hvm w_16 hB hz1 hk1 hS => ?_)
  have hI : Iv dC dI g A f_7 t.heap := hB
  rw [ht] at hI
  generalize H1 = H at hI hS ⊢
  refine W.widen (k := 0) (n := 0) (Nat.le_of_ble_eq_true rfl) (Nat.le_of_ble_eq_true rfl) ?_
  have w_16 : (r_17.toInt = 0 ∨ r_17.toInt = 1) ∧ (r_17.toInt = 0 ∨ (0 ≤ p1.toInt ∧ p1.toInt < (q 0).toInt)) := w_16
  refine lv_if_ne (tgt := 15) hx hb dX12_due_10 (by decide) (fun c_18 => ?_) (fun c_18 => ?_)
  · have c_18 := kn_eq rfl (by decide : Int32.toInt 0 = 0) c_18
    refine lv_aload_n hx hb dX12_due_15 rfl (lv_at hl 0 rfl) ?_
    refine va_callv (va_runV (As := []) (rest := []) ⟨hx, hb, hml, hown, hts⟩ (c_X12_begin l dC dI g A hG f_7 h0 q pp i_h0 k_11 hc1_ok k_15) (cwV 0 hts (gi_V (fun w_ h0_ => ⟨List.mem_cons_of_mem _ (List.mem_append_right _ (List.mem_append_right _ (List.mem_append_right _ (List.mem_append_left _ h0_)))), (tb_c_X12_begin w_ h0_).2⟩) (List.mem_cons_of_mem _ (List.mem_append_left _ (List.mem_of_getElem? (i := 5) rfl))) (List.mem_cons_of_mem _ (List.mem_append_left _ (List.mem_of_getElem? (i := 6) rfl))) (List.mem_cons_of_mem _ (List.mem_append_left _ (List.mem_of_getElem? (i := 7) rfl))) (List.mem_cons_of_mem _ (List.mem_append_left _ (List.mem_of_getElem? (i := 4) rfl)))) rfl rfl rfl (by decide +kernel) ⟨Nat.le_of_ble_eq_true rfl, Nat.le_of_ble_eq_true rfl⟩) ⟨fun a U g mk q => ⟨q.1, q.2.calling rfl rfl⟩, k_recv hK hI i_h0.1 k_10 (ci := 12) rfl, fun U hU hW => ⟨rfl, kIn.of hI hK hE hS hU hW⟩⟩ rfl rfl hl.1 rfl (lv_room (Nat.le_of_ble_eq_true rfl)) dX12_due_16 ⟨Nat.le_of_ble_eq_true rfl, Nat.le_of_ble_eq_true rfl⟩) hS (fun q _ h => h) (fun q h => h) (fun u t H1 locs ht hvm _ hB hz1 hk1 hS => ?_)
    obtain ⟨f_19, hI, kc_21, pp1_22, k_23, z_24, z_25, z_26⟩ := hB
    rw [ht] at hI
    have k_27 : f_19 h0 = .inr (12, [.int 0, .int z1, .ref (gr g h0 2), .ref (gr g h0 3), .ref (gr g h0 4), .ref (gr g h0 5), .ref (gr g h0 6), .ref (gr g h0 7), .ref (gr g h0 8), .ref (gr g h0 9), .int z10, .ref (gr g h0 11), .int z12, .int z13, .int z14, .int z15, .long z16, .int z17, .int z18, .ref (gr g h0 19), .ref (gr g h0 20), .ref (gr g h0 21), .ref (gr g h0 22), .int z23, .long z24, .long z25, .long z26]) := Kp.at kc_21 i_h0 (by decide) k_10
    have k_28 : f_19 (gr g h0 4) = .inl (gc g 1, 906, .inr (.inl q)) := Kp.at kc_21 i_1 (by decide) k_11
    have k_29 : f_19 (gr g h0 5) = .inl (gc g 1, 9060, .inr (.inl u)) := Kp.at kc_21 i_3 (by decide) k_12
    have k_30 : f_19 (gr g h0 7) = .inl (gc g 1, 1812, .inr (.inl im)) := Kp.at kc_21 i_4 (by decide) k_13
    have k_31 : f_19 (gr g h0 8) = .inl (gc g 3, 2, .inl kt) := Kp.at kc_21 i_5 (by decide) k_14
    have z_24 : RowOK pp1_22 := z_24
    have d_32 := rk_hd z_24
    have z_25 : (pp1_22 0).toInt = (q 0).toInt := z_25
    have z_26 : (pp1_22 1).toInt = (q 1).toInt := z_26
    have kp_33 := Kp.call kp_9 kc_21 (by decide)
    generalize H1 = H at hI hS ⊢
    refine W.widen (k := 0) (n := 0) (Nat.le_of_ble_eq_true rfl) (Nat.le_of_ble_eq_true rfl) ?_
    refine lv_aload_n hx hb dX12_due_19 rfl (lv_at hl 0 rfl) ?_
    refine k_get (ci := 12) (v := .ref (gr g h0 4)) (C := RX12) (T := TX12) (N := 27) hx hb hts (fun _ h0_ => List.mem_cons_of_mem _ (List.mem_append_right _ (List.mem_append_left _ h0_))) hown hK hI i_h0.1 k_27 rfl 4 (by decide) (hts (.fieldLink RX12 16 "DeadlineShareModel" "row" "[J") (List.mem_cons_of_mem _ (List.mem_append_left _ (List.mem_of_getElem? (i := 8) rfl)))) (fun _ h9 => h9) rfl dX12_due_20 ?_
    obtain ⟨m_36, em_36, tm_36⟩ := k_nat (x := p1) (by omega)
    refine lv_iload_n hx hb dX12_due_23 rfl (lv_at hl 1 rfl) ?_
    refine k_topi (y := nI m_36) em_36 ?_
    refine va_calli (va_runS (As := [.int (nI m_36)]) (rest := [.ref (gr g h0 4)]) ⟨hx, hb, hml, hown, hts⟩ (c_X12_at l dC dI g A hG f_19 m_36) (va_cwS 1 hts (gi_S (fun w_ h0_ => ⟨List.mem_cons_of_mem _ (List.mem_append_right _ (List.mem_append_right _ (List.mem_append_right _ (List.mem_append_right _ (List.mem_append_left _ h0_))))), (tb_c_X12_at w_ h0_).2⟩) (List.mem_cons_of_mem _ (List.mem_append_left _ (List.mem_of_getElem? (i := 9) rfl))) (List.mem_cons_of_mem _ (List.mem_append_left _ (List.mem_of_getElem? (i := 10) rfl))) (List.mem_cons_of_mem _ (List.mem_append_left _ (List.mem_of_getElem? (i := 4) rfl)))) rfl rfl rfl (by decide +kernel) ⟨Nat.le_of_ble_eq_true rfl, Nat.le_of_ble_eq_true rfl⟩) ⟨fun a U g mk q => ⟨q.1, q.2.calling rfl rfl⟩, fun U hU hW => ⟨rfl, kIn.of hI hK hE hS hU hW⟩⟩ rfl rfl hl.1 rfl (lv_room (Nat.le_of_ble_eq_true rfl)) dX12_due_24 ⟨Nat.le_of_ble_eq_true rfl, Nat.le_of_ble_eq_true rfl⟩) hS (fun q _ h => h) (fun q h => h) (fun r_38 u t H1 locs ht hvm w_37 hB hz1 hk1 hS => ?_)
    have hI : Iv dC dI g A f_19 t.heap := hB
    rw [ht] at hI
    generalize H1 = H at hI hS ⊢
    refine W.widen (k := 0) (n := 0) (Nat.le_of_ble_eq_true rfl) (Nat.le_of_ble_eq_true rfl) ?_
    have w_37 : r_38 = nI (6 + 43 * m_36) := w_37
    refine k_topi (y := nI (6 + 43 * m_36)) w_37 ?_
    refine lv_iconst (v := 5) hx hb dX12_due_27 (by decide) ?_
    refine lv_iadd hx hb dX12_due_28 ?_
    refine k_topi (y := nI (6 + 43 * m_36 + 5)) ((nI_add (6 + 43 * m_36) 5).trans (congrArg nI (by omega))) ?_
    refine k_lald hx hb hK hI i_1.1 1 k_28 rfl (vp_in_nI (by omega) (by omega)) dX12_due_29 ?_
    refine k_topl (y := q (6 + 43 * m_36 + 5)) (congrArg q (nI_clamp (by omega))) ?_
    refine lv_lstore_n (lv' := [(2, .long (q (6 + 43 * m_36 + 5))), (0, .ref h0), (1, .int p1)]) hx hb dX12_due_30 rfl hl (by decide) rfl (fun ls hl => ?_)
    refine lv_iconst (v := 0) hx hb dX12_due_31 (by decide) ?_
    refine lv_istore (lv' := [(4, .int 0), (2, .long (q (6 + 43 * m_36 + 5))), (0, .ref h0), (1, .int p1)]) hx hb dX12_due_32 hl (by decide) rfl (fun ls hl => ?_)
    have K_34 : ∀ (nn : Nat) (y_39 : Int32) (q_41 : Nat → Int64) (y_44 : Int64) (f_40 : Nat → va_E) (H : Heap) (locs : List Loc) (ls : Array Slot), (501 - y_39.toInt).toNat < nn → Iv dC dI g A f_40 H → va_S A s.heap H locs → f_40 (gr g h0 4) = .inl (gc g 1, 906, .inr (.inl q_41)) → RowOK q_41 → f_40 h0 = .inr (12, [.int 0, .int z1, .ref (gr g h0 2), .ref (gr g h0 3), .ref (gr g h0 4), .ref (gr g h0 5), .ref (gr g h0 6), .ref (gr g h0 7), .ref (gr g h0 8), .ref (gr g h0 9), .int z10, .ref (gr g h0 11), .int z12, .int z13, .int z14, .int z15, .long z16, .int z17, .int z18, .ref (gr g h0 19), .ref (gr g h0 20), .ref (gr g h0 21), .ref (gr g h0 22), .int z23, .long y_44, .long z25, .long z26]) → f_40 (gr g h0 5) = .inl (gc g 1, 9060, .inr (.inl u)) → f_40 (gr g h0 7) = .inl (gc g 1, 1812, .inr (.inl im)) → f_40 (gr g h0 8) = .inl (gc g 3, 2, .inl kt) → f_40 (gr g h0 6) = .inl (gc g 1, 906, .inr (.inl pp1_22)) → Kp g [12, 32, 34] f f_40 → ((q_41 0).toInt = (q 0).toInt) → (0 ≤ y_39.toInt) → lv_has ls 6 [(4, .int y_39), (2, .long (q (6 + 43 * m_36 + 5))), (0, .ref h0), (1, .int p1)] → W p l e (headSpec wq_c_X12_due ({ frames := 8, cells := 0, slots := 0, locals := 187 } : Room)).room s m ([.ref h0, .int p1].toArray) below meth c H locs 0 0 (MQ below (va_Qi (fun (r : Int32) (_ : Unit) => True) (fun (_ : Unit) t => ∃ f1 : Nat → va_E, Iv dC dI g A f1 t.heap ∧ Kp g [12, 32, 34] f f1 ∧ ∃ (w0 : Int32) (w1 : Int32) (w10 : Int32) (w12 : Int32) (w13 : Int32) (w14 : Int32) (w15 : Int32) (w16 : Int64) (w17 : Int32) (w18 : Int32) (w23 : Int32) (w24 : Int64) (w25 : Int64) (w26 : Int64) (q1 : Nat → Int64) (u1 : Nat → Int64) (im1 : Nat → Int64) (ik1 : Nat → Int32), (f1 h0 = .inr (12, [.int w0, .int w1, .ref (gr g h0 2), .ref (gr g h0 3), .ref (gr g h0 4), .ref (gr g h0 5), .ref (gr g h0 6), .ref (gr g h0 7), .ref (gr g h0 8), .ref (gr g h0 9), .int w10, .ref (gr g h0 11), .int w12, .int w13, .int w14, .int w15, .long w16, .int w17, .int w18, .ref (gr g h0 19), .ref (gr g h0 20), .ref (gr g h0 21), .ref (gr g h0 22), .int w23, .long w24, .long w25, .long w26])) ∧ (0 ≤ w10.toInt ∧ w10.toInt ≤ 10) ∧ (0 ≤ w12.toInt ∧ w12.toInt ≤ 200) ∧ (0 ≤ w23.toInt ∧ w23.toInt ≤ 8) ∧ (f1 (gr g h0 4) = .inl (gc g 1, 906, .inr (.inl q1))) ∧ (RowOK q1) ∧ (f1 (gr g h0 5) = .inl (gc g 1, 9060, .inr (.inl u1))) ∧ (f1 (gr g h0 7) = .inl (gc g 1, 1812, .inr (.inl im1))) ∧ (f1 (gr g h0 8) = .inl (gc g 3, 2, .inl ik1)) ∧ (UIq w10 u1 im1 ik1)) A) ([.ref h0, .int p1].toArray) s 0 0 A) (F0 m 34 ls []) := by
      intro nn
      induction nn with
      | zero => intro y_39 q_41 y_44 f_40 H locs ls m_53; exact absurd m_53 (Nat.not_lt_zero _)
      | succ nn ih =>
        intro y_39 q_41 y_44 f_40 H locs ls m_53 hI hS k_42 ok_43 k_45 k_46 k_47 k_48 k_49 kp_50 t_51 t_52 hl
        have g_54 := Int32.toInt_lt y_39
        have g_55 := Int32.le_toInt y_39
        have d_56 := rk_hd ok_43
        refine lv_iload hx hb dX12_due_34 (lv_at hl 0 rfl) ?_
        refine lv_sipush (v := 500) hx hb dX12_due_36 (by decide) ?_
        have J_83 : ∀ (H : Heap) (locs : List Loc) (ls : Array Slot), Iv dC dI g A f_40 H → va_S A s.heap H locs → lv_has ls 6 [(4, .int y_39), (2, .long (q (6 + 43 * m_36 + 5))), (0, .ref h0), (1, .int p1)] → W p l e (headSpec wq_c_X12_due ({ frames := 8, cells := 0, slots := 0, locals := 187 } : Room)).room s m ([.ref h0, .int p1].toArray) below meth c H locs 0 0 (MQ below (va_Qi (fun (r : Int32) (_ : Unit) => True) (fun (_ : Unit) t => ∃ f1 : Nat → va_E, Iv dC dI g A f1 t.heap ∧ Kp g [12, 32, 34] f f1 ∧ ∃ (w0 : Int32) (w1 : Int32) (w10 : Int32) (w12 : Int32) (w13 : Int32) (w14 : Int32) (w15 : Int32) (w16 : Int64) (w17 : Int32) (w18 : Int32) (w23 : Int32) (w24 : Int64) (w25 : Int64) (w26 : Int64) (q1 : Nat → Int64) (u1 : Nat → Int64) (im1 : Nat → Int64) (ik1 : Nat → Int32), (f1 h0 = .inr (12, [.int w0, .int w1, .ref (gr g h0 2), .ref (gr g h0 3), .ref (gr g h0 4), .ref (gr g h0 5), .ref (gr g h0 6), .ref (gr g h0 7), .ref (gr g h0 8), .ref (gr g h0 9), .int w10, .ref (gr g h0 11), .int w12, .int w13, .int w14, .int w15, .long w16, .int w17, .int w18, .ref (gr g h0 19), .ref (gr g h0 20), .ref (gr g h0 21), .ref (gr g h0 22), .int w23, .long w24, .long w25, .long w26])) ∧ (0 ≤ w10.toInt ∧ w10.toInt ≤ 10) ∧ (0 ≤ w12.toInt ∧ w12.toInt ≤ 200) ∧ (0 ≤ w23.toInt ∧ w23.toInt ≤ 8) ∧ (f1 (gr g h0 4) = .inl (gc g 1, 906, .inr (.inl q1))) ∧ (RowOK q1) ∧ (f1 (gr g h0 5) = .inl (gc g 1, 9060, .inr (.inl u1))) ∧ (f1 (gr g h0 7) = .inl (gc g 1, 1812, .inr (.inl im1))) ∧ (f1 (gr g h0 8) = .inl (gc g 3, 2, .inl ik1)) ∧ (UIq w10 u1 im1 ik1)) A) ([.ref h0, .int p1].toArray) s 0 0 A) (F0 m 83 ls []) := by
          intro H locs ls hI hS  hl
          refine lv_aload_n hx hb dX12_due_83 rfl (lv_at hl 2 rfl) ?_
          refine k_get (ci := 12) (v := .ref (gr g h0 4)) (C := RX12) (T := TX12) (N := 27) hx hb hts (fun _ h0_ => List.mem_cons_of_mem _ (List.mem_append_right _ (List.mem_append_left _ h0_))) hown hK hI i_h0.1 k_45 rfl 4 (by decide) (hts (.fieldLink RX12 16 "DeadlineShareModel" "row" "[J") (List.mem_cons_of_mem _ (List.mem_append_left _ (List.mem_of_getElem? (i := 8) rfl)))) (fun _ h9 => h9) rfl dX12_due_84 ?_
          refine lv_iload_n hx hb dX12_due_87 rfl (lv_at hl 3 rfl) ?_
          refine k_topi (y := nI m_36) em_36 ?_
          refine va_calli (va_runS (As := [.int (nI m_36)]) (rest := [.ref (gr g h0 4)]) ⟨hx, hb, hml, hown, hts⟩ (c_X12_at l dC dI g A hG f_40 m_36) (va_cwS 1 hts (gi_S (fun w_ h0_ => ⟨List.mem_cons_of_mem _ (List.mem_append_right _ (List.mem_append_right _ (List.mem_append_right _ (List.mem_append_right _ (List.mem_append_left _ h0_))))), (tb_c_X12_at w_ h0_).2⟩) (List.mem_cons_of_mem _ (List.mem_append_left _ (List.mem_of_getElem? (i := 9) rfl))) (List.mem_cons_of_mem _ (List.mem_append_left _ (List.mem_of_getElem? (i := 10) rfl))) (List.mem_cons_of_mem _ (List.mem_append_left _ (List.mem_of_getElem? (i := 4) rfl)))) rfl rfl rfl (by decide +kernel) ⟨Nat.le_of_ble_eq_true rfl, Nat.le_of_ble_eq_true rfl⟩) ⟨fun a U g mk q => ⟨q.1, q.2.calling rfl rfl⟩, fun U hU hW => ⟨rfl, kIn.of hI hK hE hS hU hW⟩⟩ rfl rfl hl.1 rfl (lv_room (Nat.le_of_ble_eq_true rfl)) dX12_due_88 ⟨Nat.le_of_ble_eq_true rfl, Nat.le_of_ble_eq_true rfl⟩) hS (fun q _ h => h) (fun q h => h) (fun r_60 u t H1 locs ht hvm w_59 hB hz1 hk1 hS => ?_)
          have hI : Iv dC dI g A f_40 t.heap := hB
          rw [ht] at hI
          generalize H1 = H at hI hS ⊢
          refine W.widen (k := 0) (n := 0) (Nat.le_of_ble_eq_true rfl) (Nat.le_of_ble_eq_true rfl) ?_
          have w_59 : r_60 = nI (6 + 43 * m_36) := w_59
          refine k_topi (y := nI (6 + 43 * m_36)) w_59 ?_
          refine lv_iconst (v := 5) hx hb dX12_due_91 (by decide) ?_
          refine lv_iadd hx hb dX12_due_92 ?_
          refine k_topi (y := nI (6 + 43 * m_36 + 5)) ((nI_add (6 + 43 * m_36) 5).trans (congrArg nI (by omega))) ?_
          refine k_lald hx hb hK hI i_1.1 1 k_42 rfl (vp_in_nI (by omega) (by omega)) dX12_due_93 ?_
          refine k_topl (y := q_41 (6 + 43 * m_36 + 5)) (congrArg q_41 (nI_clamp (by omega))) ?_
          refine lv_lload_n hx hb dX12_due_94 rfl (lv_at hl 1 rfl) ?_
          refine W.lcmp hx hb dX12_due_95 ?_
          have J_105 : ∀ (y_61 : Int32) (H : Heap) (locs : List Loc) (ls : Array Slot), Iv dC dI g A f_40 H → va_S A s.heap H locs → lv_has ls 6 [(4, .int y_39), (2, .long (q (6 + 43 * m_36 + 5))), (0, .ref h0), (1, .int p1)] → W p l e (headSpec wq_c_X12_due ({ frames := 8, cells := 0, slots := 0, locals := 187 } : Room)).room s m ([.ref h0, .int p1].toArray) below meth c H locs 0 0 (MQ below (va_Qi (fun (r : Int32) (_ : Unit) => True) (fun (_ : Unit) t => ∃ f1 : Nat → va_E, Iv dC dI g A f1 t.heap ∧ Kp g [12, 32, 34] f f1 ∧ ∃ (w0 : Int32) (w1 : Int32) (w10 : Int32) (w12 : Int32) (w13 : Int32) (w14 : Int32) (w15 : Int32) (w16 : Int64) (w17 : Int32) (w18 : Int32) (w23 : Int32) (w24 : Int64) (w25 : Int64) (w26 : Int64) (q1 : Nat → Int64) (u1 : Nat → Int64) (im1 : Nat → Int64) (ik1 : Nat → Int32), (f1 h0 = .inr (12, [.int w0, .int w1, .ref (gr g h0 2), .ref (gr g h0 3), .ref (gr g h0 4), .ref (gr g h0 5), .ref (gr g h0 6), .ref (gr g h0 7), .ref (gr g h0 8), .ref (gr g h0 9), .int w10, .ref (gr g h0 11), .int w12, .int w13, .int w14, .int w15, .long w16, .int w17, .int w18, .ref (gr g h0 19), .ref (gr g h0 20), .ref (gr g h0 21), .ref (gr g h0 22), .int w23, .long w24, .long w25, .long w26])) ∧ (0 ≤ w10.toInt ∧ w10.toInt ≤ 10) ∧ (0 ≤ w12.toInt ∧ w12.toInt ≤ 200) ∧ (0 ≤ w23.toInt ∧ w23.toInt ≤ 8) ∧ (f1 (gr g h0 4) = .inl (gc g 1, 906, .inr (.inl q1))) ∧ (RowOK q1) ∧ (f1 (gr g h0 5) = .inl (gc g 1, 9060, .inr (.inl u1))) ∧ (f1 (gr g h0 7) = .inl (gc g 1, 1812, .inr (.inl im1))) ∧ (f1 (gr g h0 8) = .inl (gc g 3, 2, .inl ik1)) ∧ (UIq w10 u1 im1 ik1)) A) ([.ref h0, .int p1].toArray) s 0 0 A) (F0 m 105 ls [.int y_61]) := by
            intro y_61 H locs ls hI hS  hl
            refine lv_istore (lv' := [(5, .int y_61), (4, .int y_39), (2, .long (q (6 + 43 * m_36 + 5))), (0, .ref h0), (1, .int p1)]) hx hb dX12_due_105 hl (by decide) rfl (fun ls hl => ?_)
            refine lv_aload_n hx hb dX12_due_107 rfl (lv_at hl 3 rfl) ?_
            refine va_callv (va_runV (As := []) (rest := []) ⟨hx, hb, hml, hown, hts⟩ (c_X12_over l dC dI g A hG f_40 h0 q_41 pp1_22 i_h0 k_42 k_49 z_24) (cwV 0 hts (gi_V (fun w_ h0_ => ⟨List.mem_cons_of_mem _ (List.mem_append_right _ (List.mem_append_right _ (List.mem_append_right _ (List.mem_append_right _ (List.mem_append_right _ (List.mem_append_left _ h0_)))))), (tb_c_X12_over w_ h0_).2⟩) (List.mem_cons_of_mem _ (List.mem_append_left _ (List.mem_of_getElem? (i := 11) rfl))) (List.mem_cons_of_mem _ (List.mem_append_left _ (List.mem_of_getElem? (i := 12) rfl))) (List.mem_cons_of_mem _ (List.mem_append_left _ (List.mem_of_getElem? (i := 13) rfl))) (List.mem_cons_of_mem _ (List.mem_append_left _ (List.mem_of_getElem? (i := 4) rfl)))) rfl rfl rfl (by decide +kernel) ⟨Nat.le_of_ble_eq_true rfl, Nat.le_of_ble_eq_true rfl⟩) ⟨fun a U g mk q => ⟨q.1, q.2.calling rfl rfl⟩, k_recv hK hI i_h0.1 k_45 (ci := 12) rfl, fun U hU hW => ⟨rfl, kIn.of hI hK hE hS hU hW⟩⟩ rfl rfl hl.1 rfl (lv_room (Nat.le_of_ble_eq_true rfl)) dX12_due_108 ⟨Nat.le_of_ble_eq_true rfl, Nat.le_of_ble_eq_true rfl⟩) hS (fun q _ h => h) (fun q h => h) (fun u t H1 locs ht hvm _ hB hz1 hk1 hS => ?_)
            obtain ⟨f_62, hI, kc_64, q1_65, k_66, z_67, z_68, z_69⟩ := hB
            rw [ht] at hI
            have k_70 : f_62 h0 = .inr (12, [.int 0, .int z1, .ref (gr g h0 2), .ref (gr g h0 3), .ref (gr g h0 4), .ref (gr g h0 5), .ref (gr g h0 6), .ref (gr g h0 7), .ref (gr g h0 8), .ref (gr g h0 9), .int z10, .ref (gr g h0 11), .int z12, .int z13, .int z14, .int z15, .long z16, .int z17, .int z18, .ref (gr g h0 19), .ref (gr g h0 20), .ref (gr g h0 21), .ref (gr g h0 22), .int z23, .long y_44, .long z25, .long z26]) := Kp.at kc_64 i_h0 (by decide) k_45
            have k_71 : f_62 (gr g h0 5) = .inl (gc g 1, 9060, .inr (.inl u)) := Kp.at kc_64 i_3 (by decide) k_46
            have k_72 : f_62 (gr g h0 7) = .inl (gc g 1, 1812, .inr (.inl im)) := Kp.at kc_64 i_4 (by decide) k_47
            have k_73 : f_62 (gr g h0 8) = .inl (gc g 3, 2, .inl kt) := Kp.at kc_64 i_5 (by decide) k_48
            have k_74 : f_62 (gr g h0 6) = .inl (gc g 1, 906, .inr (.inl pp1_22)) := Kp.at kc_64 i_6 (by decide) k_49
            have z_67 : RowOK q1_65 := z_67
            have d_75 := rk_hd z_67
            have z_68 : (q1_65 0).toInt = (pp1_22 0).toInt := z_68
            have z_69 : (q1_65 1).toInt = (pp1_22 1).toInt := z_69
            have kp_76 := Kp.call kp_50 kc_64 (by decide)
            generalize H1 = H at hI hS ⊢
            refine W.widen (k := 0) (n := 0) (Nat.le_of_ble_eq_true rfl) (Nat.le_of_ble_eq_true rfl) ?_
            refine lv_iload hx hb dX12_due_111 (lv_at hl 0 rfl) ?_
            exact W.iret (v := y_61) hx hb hr (fun t ht hW => ⟨⟨y_61, (), rfl, trivial, ⟨f_62, k_ret ht hI, kp_76, 0, z1, z10, z12, z13, z14, z15, z16, z17, z18, z23, y_44, z25, z26, q1_65, u, im, kt, k_70, (by first | omega | decide), (by first | omega | decide), (by first | omega | decide), k_66, z_67, k_71, k_72, k_73, hU⟩⟩, hS.F ht⟩) hS.2.2 dX12_due_113
          refine lv_if_ne (tgt := 103) hx hb dX12_due_96 (by decide) (fun c_77 => ?_) (fun c_77 => ?_)
          · have c_77 := ln_eq rfl rfl (fun h9 => c_77 ((lg_cmp_eq _ _).mpr h9))
            refine lv_iload hx hb dX12_due_103 (lv_at hl 0 rfl) ?_
            exact J_105 y_39 _ _ _ hI hS  (lv_sub hl [0, 1, 2, 3] rfl)
          · have c_77 := lc_eq rfl rfl ((lg_cmp_eq _ _).mp c_77)
            refine lv_iconst (v := (-1)) hx hb dX12_due_99 (by decide) ?_
            refine lv_goto (tgt := 105) hx hb dX12_due_100 (by decide) ?_
            exact J_105 (-1) _ _ _ hI hS  (lv_sub hl [0, 1, 2, 3] rfl)
        refine lv_icmp_ge (tgt := 83) hx hb dX12_due_39 (by decide) (fun c_78 => ?_) (fun c_78 => ?_)
        · have c_78 := kc_le (by decide : Int32.toInt 500 = 500) rfl c_78
          exact J_83  _ _ _ hI hS  (lv_sub hl [0, 1, 2, 3] rfl)
        · have c_78 := kn_le (by decide : Int32.toInt 500 = 500) rfl c_78
          refine lv_aload_n hx hb dX12_due_42 rfl (lv_at hl 2 rfl) ?_
          refine k_get (ci := 12) (v := .ref (gr g h0 4)) (C := RX12) (T := TX12) (N := 27) hx hb hts (fun _ h0_ => List.mem_cons_of_mem _ (List.mem_append_right _ (List.mem_append_left _ h0_))) hown hK hI i_h0.1 k_45 rfl 4 (by decide) (hts (.fieldLink RX12 16 "DeadlineShareModel" "row" "[J") (List.mem_cons_of_mem _ (List.mem_append_left _ (List.mem_of_getElem? (i := 8) rfl)))) (fun _ h9 => h9) rfl dX12_due_43 ?_
          refine lv_iconst (v := 1) hx hb dX12_due_46 (by decide) ?_
          refine k_lald hx hb hK hI i_1.1 1 k_42 rfl (by unfold vp_in; decide) dX12_due_47 ?_
          refine k_topl (y := q_41 1) (congrArg q_41 (show Int32.toNatClampNeg 1 = 1 by decide)) ?_
          refine lv_ldc2 hx hb hown (hts (.constantLong RX12 286 (9999)) (List.mem_cons_of_mem _ (List.mem_append_left _ (List.mem_of_getElem? (i := 14) rfl)))) dX12_due_48 ?_
          refine W.lcmp hx hb dX12_due_51 ?_
          refine lv_if_ge (tgt := 83) hx hb dX12_due_52 (by decide) (fun c_81 => ?_) (fun c_81 => ?_)
          · have c_81 := lc_le (by decide : Int64.toInt 9999 = 9999) rfl ((lg_cmp_ge _ _).mp c_81)
            exact J_83  _ _ _ hI hS  (lv_sub hl [0, 1, 2, 3] rfl)
          · have c_81 := ln_le (by decide : Int64.toInt 9999 = 9999) rfl (fun h9 => c_81 ((lg_cmp_ge _ _).mpr h9))
            refine lv_aload_n hx hb dX12_due_55 rfl (lv_at hl 2 rfl) ?_
            refine k_get (ci := 12) (v := .ref (gr g h0 4)) (C := RX12) (T := TX12) (N := 27) hx hb hts (fun _ h0_ => List.mem_cons_of_mem _ (List.mem_append_right _ (List.mem_append_left _ h0_))) hown hK hI i_h0.1 k_45 rfl 4 (by decide) (hts (.fieldLink RX12 16 "DeadlineShareModel" "row" "[J") (List.mem_cons_of_mem _ (List.mem_append_left _ (List.mem_of_getElem? (i := 8) rfl)))) (fun _ h9 => h9) rfl dX12_due_56 ?_
            refine lv_iload_n hx hb dX12_due_59 rfl (lv_at hl 3 rfl) ?_
            refine k_topi (y := nI m_36) em_36 ?_
            refine va_calli (va_runS (As := [.int (nI m_36)]) (rest := [.ref (gr g h0 4)]) ⟨hx, hb, hml, hown, hts⟩ (c_X12_at l dC dI g A hG f_40 m_36) (va_cwS 1 hts (gi_S (fun w_ h0_ => ⟨List.mem_cons_of_mem _ (List.mem_append_right _ (List.mem_append_right _ (List.mem_append_right _ (List.mem_append_right _ (List.mem_append_left _ h0_))))), (tb_c_X12_at w_ h0_).2⟩) (List.mem_cons_of_mem _ (List.mem_append_left _ (List.mem_of_getElem? (i := 9) rfl))) (List.mem_cons_of_mem _ (List.mem_append_left _ (List.mem_of_getElem? (i := 10) rfl))) (List.mem_cons_of_mem _ (List.mem_append_left _ (List.mem_of_getElem? (i := 4) rfl)))) rfl rfl rfl (by decide +kernel) ⟨Nat.le_of_ble_eq_true rfl, Nat.le_of_ble_eq_true rfl⟩) ⟨fun a U g mk q => ⟨q.1, q.2.calling rfl rfl⟩, fun U hU hW => ⟨rfl, kIn.of hI hK hE hS hU hW⟩⟩ rfl rfl hl.1 rfl (lv_room (Nat.le_of_ble_eq_true rfl)) dX12_due_60 ⟨Nat.le_of_ble_eq_true rfl, Nat.le_of_ble_eq_true rfl⟩) hS (fun q _ h => h) (fun q h => h) (fun r_85 u t H1 locs ht hvm w_84 hB hz1 hk1 hS => ?_)
            have hI : Iv dC dI g A f_40 t.heap := hB
            rw [ht] at hI
            generalize H1 = H at hI hS ⊢
            refine W.widen (k := 0) (n := 0) (Nat.le_of_ble_eq_true rfl) (Nat.le_of_ble_eq_true rfl) ?_
            have w_84 : r_85 = nI (6 + 43 * m_36) := w_84
            refine k_topi (y := nI (6 + 43 * m_36)) w_84 ?_
            refine lv_iconst (v := 5) hx hb dX12_due_63 (by decide) ?_
            refine lv_iadd hx hb dX12_due_64 ?_
            refine k_topi (y := nI (6 + 43 * m_36 + 5)) ((nI_add (6 + 43 * m_36) 5).trans (congrArg nI (by omega))) ?_
            refine k_lald hx hb hK hI i_1.1 1 k_42 rfl (vp_in_nI (by omega) (by omega)) dX12_due_65 ?_
            refine k_topl (y := q_41 (6 + 43 * m_36 + 5)) (congrArg q_41 (nI_clamp (by omega))) ?_
            refine lv_lload_n hx hb dX12_due_66 rfl (lv_at hl 1 rfl) ?_
            refine W.lcmp hx hb dX12_due_67 ?_
            refine lv_if_ne (tgt := 83) hx hb dX12_due_68 (by decide) (fun c_86 => ?_) (fun c_86 => ?_)
            · have c_86 := ln_eq rfl rfl (fun h9 => c_86 ((lg_cmp_eq _ _).mpr h9))
              exact J_83  _ _ _ hI hS  (lv_sub hl [0, 1, 2, 3] rfl)
            · have c_86 := lc_eq rfl rfl ((lg_cmp_eq _ _).mp c_86)
              refine lv_aload_n hx hb dX12_due_71 rfl (lv_at hl 2 rfl) ?_
              refine lv_iconst (v := 0) hx hb dX12_due_72 (by decide) ?_
              refine va_calli (va_runV (As := [.int 0]) (rest := []) ⟨hx, hb, hml, hown, hts⟩ (c_X12_tick l dC dI g A hG f_40 h0 0 0 z1 z10 z12 z13 z14 z15 z16 z17 z18 z23 y_44 z25 z26 q_41 i_h0 k_45 (by first | omega | (simp only [k_c0]; omega)) (by first | omega | (simp only [k_c0]; omega)) (by first | omega | (simp only [k_c0]; omega)) k_42 ok_43 (by decide)) (cwV 1 hts (gi_V (fun w_ h0_ => ⟨List.mem_cons_of_mem _ (List.mem_append_right _ (List.mem_append_right _ (List.mem_append_right _ (List.mem_append_right _ (List.mem_append_right _ (List.mem_append_right _ (List.mem_append_left _ h0_))))))), (tb_c_X12_tick w_ h0_).2⟩) (List.mem_cons_of_mem _ (List.mem_append_left _ (List.mem_of_getElem? (i := 15) rfl))) (List.mem_cons_of_mem _ (List.mem_append_left _ (List.mem_of_getElem? (i := 16) rfl))) (List.mem_cons_of_mem _ (List.mem_append_left _ (List.mem_of_getElem? (i := 17) rfl))) (List.mem_cons_of_mem _ (List.mem_append_left _ (List.mem_of_getElem? (i := 4) rfl)))) rfl rfl rfl (by decide +kernel) ⟨Nat.le_of_ble_eq_true rfl, Nat.le_of_ble_eq_true rfl⟩) ⟨fun a U g mk q => ⟨q.1, q.2.calling rfl rfl⟩, k_recv hK hI i_h0.1 k_45 (ci := 12) rfl, fun U hU hW => ⟨rfl, kIn.of hI hK hE hS hU hW⟩⟩ rfl rfl hl.1 rfl (lv_room (Nat.le_of_ble_eq_true rfl)) dX12_due_73 ⟨Nat.le_of_ble_eq_true rfl, Nat.le_of_ble_eq_true rfl⟩) hS (fun q _ h => h) (fun q h => h) (fun r_89 u t H1 locs ht hvm w_88 hB hz1 hk1 hS => ?_)
              obtain ⟨f_87, hI, kc_90, w24_91, q1_92, k_93, k_94, z_95, z_96, z_97⟩ := hB
              rw [ht] at hI
              have k_98 : f_87 (gr g h0 5) = .inl (gc g 1, 9060, .inr (.inl u)) := Kp.at kc_90 i_3 (by decide) k_46
              have k_99 : f_87 (gr g h0 7) = .inl (gc g 1, 1812, .inr (.inl im)) := Kp.at kc_90 i_4 (by decide) k_47
              have k_100 : f_87 (gr g h0 8) = .inl (gc g 3, 2, .inl kt) := Kp.at kc_90 i_5 (by decide) k_48
              have k_101 : f_87 (gr g h0 6) = .inl (gc g 1, 906, .inr (.inl pp1_22)) := Kp.at kc_90 i_6 (by decide) k_49
              have k_93 : f_87 h0 = .inr (12, [.int (0 : Int32), .int z1, .ref (gr g h0 2), .ref (gr g h0 3), .ref (gr g h0 4), .ref (gr g h0 5), .ref (gr g h0 6), .ref (gr g h0 7), .ref (gr g h0 8), .ref (gr g h0 9), .int z10, .ref (gr g h0 11), .int z12, .int z13, .int z14, .int z15, .long z16, .int z17, .int z18, .ref (gr g h0 19), .ref (gr g h0 20), .ref (gr g h0 21), .ref (gr g h0 22), .int z23, .long w24_91, .long z25, .long z26]) := k_93
              have z_95 : RowOK q1_92 := z_95
              have d_102 := rk_hd z_95
              have z_96 : (q1_92 0).toInt = (q_41 0).toInt := z_96
              have z_97 : (q1_92 1).toInt = (q_41 1).toInt + 1 := z_97
              have kp_103 := Kp.call kp_50 kc_90 (by decide)
              generalize H1 = H at hI hS ⊢
              refine W.widen (k := 0) (n := 0) (Nat.le_of_ble_eq_true rfl) (Nat.le_of_ble_eq_true rfl) ?_
              have w_88 : -1 ≤ r_89.toInt ∧ r_89.toInt < (q_41 0).toInt := w_88
              have g_104 : Int32.toInt (0) = 0 := by decide
              refine lv_pop hx hb dX12_due_76 rfl ?_
              obtain ⟨v_105, ev_105⟩ : ∃ y : Int32, y = y_39 + Int32.ofInt 1 := ⟨_, rfl⟩
              refine lv_iinc (v := v_105) (lv' := [(4, .int v_105), (2, .long (q (6 + 43 * m_36 + 5))), (0, .ref h0), (1, .int p1)]) hx hb dX12_due_77 hl (k := 0) rfl ev_105.symm (by decide) rfl (fun ls hl => ?_)
              have tv_105 := k_inc y_39
              rw [← ev_105] at tv_105
              refine lv_goto (tgt := 34) hx hb dX12_due_80 (by decide) ?_
              exact ih v_105 q1_92 w24_91 f_87 _ _ _ (by omega) hI hS k_94 z_95 k_93 k_98 k_99 k_100 k_101 kp_103 (by first | omega | decide) (by first | omega | decide) (lv_sub hl [0, 1, 2, 3] rfl)
    exact K_34 _ 0 q z24 f_19 _ _ _ (Nat.lt_succ_self _) hI hS k_28 hc1_ok k_27 k_29 k_30 k_31 k_23 kp_33 (by first | omega | decide | (simp only [show Int32.toInt 0 = 0 from by decide]; omega)) (by first | omega | decide | (simp only [show Int32.toInt 0 = 0 from by decide]; omega)) (lv_sub hl [0, 1, 2, 3] rfl)
  · have c_18 := kc_eq rfl (by decide : Int32.toInt 0 = 0) c_18
    refine lv_iconst (v := (-1)) hx hb dX12_due_13 (by decide) ?_
    exact W.iret (v := (-1)) hx hb hr (fun t ht hW => ⟨⟨(-1), (), rfl, trivial, ⟨f_7, k_ret ht hI, kp_9, 0, z1, z10, z12, z13, z14, z15, z16, z17, z18, z23, z24, z25, z26, q, u, im, kt, k_10, (by first | omega | decide), (by first | omega | decide), (by first | omega | decide), k_11, hc1_ok, k_12, k_13, k_14, hU⟩⟩, hS.F ht⟩) hS.2.2 dX12_due_14
theorem tw_991 : q_g (.selects RX12 yX12_runsWith yX12_runsWith) := ⟨(List.mem_append_left _ (List.mem_of_getElem? (i := 64) (by decide +kernel))), good_of_word (by decide +kernel)⟩
theorem tw_992 : q_g (.instanceMethod yX12_runsWith) := ⟨(List.mem_append_right _ (List.mem_of_getElem? (i := 1526) (by decide +kernel))), good_of_word (by decide +kernel)⟩
theorem tw_993 : q_g (.methodLink RX12 316 yX12_runsWith) := ⟨(List.mem_append_right _ (List.mem_of_getElem? (i := 1524) (by decide +kernel))), good_of_word (by decide +kernel)⟩
theorem tw_994 : q_g (.code yX12_least cX12_least 6 (some .int)) := ⟨(List.mem_append_right _ (List.mem_of_getElem? (i := 1523) (by decide +kernel))), good_of_word (by decide +kernel)⟩
def ow_c_X12_least : List Cond := [.fieldLink RX12 67 "DeadlineShareModel" "thrown" "I", .methodLink RX12 142 yX12_isTask, .instanceMethod yX12_isTask, .selects RX12 yX12_isTask yX12_isTask, .initialized RX12, .constantLong RX12 172 (60), .methodLink RX12 83 yX12_in, .static yX12_in, .fieldLink RX12 16 "DeadlineShareModel" "row" "[J", .constantLong RX12 286 (9999), .methodLink RX12 316 yX12_runsWith, .instanceMethod yX12_runsWith, .selects RX12 yX12_runsWith yX12_runsWith]
def wq_c_X12_least : List Cond := .code yX12_least cX12_least 6 (some .int) :: (ow_c_X12_least ++ (u_ws RX12 TX12 27 ++ (wq_c_X12_isTask ++ (wq_c_X12_in ++ (wq_c_X12_runsWith ++ ([] : List Cond))))))
theorem tb_c_X12_least : ∀ w ∈ wq_c_X12_least, q_g w := by
  unfold wq_c_X12_least ow_c_X12_least
  exact q_cons tw_994 (q_app (q_cons tw_927 (q_cons tw_951 (q_cons tw_950 (q_cons tw_949 (q_cons tw_728 (q_cons tw_986 (q_cons tw_730 (q_cons tw_729 (q_cons tw_731 (q_cons tw_985 (q_cons tw_993 (q_cons tw_992 (q_cons tw_991 q_nil))))))))))))) (q_app tu_X12 (q_app tb_c_X12_isTask (q_app tb_c_X12_in (q_app tb_c_X12_runsWith q_nil)))))
set_option maxHeartbeats 4000000 in
set_option maxRecDepth 100000 in
theorem c_X12_least (l : Launch) (dC : Nat → ClassId) (dI : Nat → Nat → Nat) (g : kG) (A : Nat → Prop) (hG : kWf g) (f : Nat → va_E) (h0 : Nat) (p1 : Int32) (p2 : Int32) (p3 : Int32) (z0 : Int32) (z1 : Int32) (z10 : Int32) (z12 : Int32) (z13 : Int32) (z14 : Int32) (z15 : Int32) (z16 : Int64) (z17 : Int32) (z18 : Int32) (z23 : Int32) (z24 : Int64) (z25 : Int64) (z26 : Int64) (q : Nat → Int64) (u : Nat → Int64) (im : Nat → Int64) (kt : Nat → Int32) (pp : Nat → Int64) (i_h0 : ik g 12 h0) (hc0 : f h0 = .inr (12, [.int z0, .int z1, .ref (gr g h0 2), .ref (gr g h0 3), .ref (gr g h0 4), .ref (gr g h0 5), .ref (gr g h0 6), .ref (gr g h0 7), .ref (gr g h0 8), .ref (gr g h0 9), .int z10, .ref (gr g h0 11), .int z12, .int z13, .int z14, .int z15, .long z16, .int z17, .int z18, .ref (gr g h0 19), .ref (gr g h0 20), .ref (gr g h0 21), .ref (gr g h0 22), .int z23, .long z24, .long z25, .long z26])) (hc0_10 : 0 ≤ z10.toInt ∧ z10.toInt ≤ 10) (hc0_12 : 0 ≤ z12.toInt ∧ z12.toInt ≤ 200) (hc0_23 : 0 ≤ z23.toInt ∧ z23.toInt ≤ 8) (hc1 : f (gr g h0 4) = .inl (gc g 1, 906, .inr (.inl q))) (hc1_ok : RowOK q) (hc2 : f (gr g h0 5) = .inl (gc g 1, 9060, .inr (.inl u))) (hc3 : f (gr g h0 7) = .inl (gc g 1, 1812, .inr (.inl im))) (hc4 : f (gr g h0 8) = .inl (gc g 3, 2, .inl kt)) (hc5 : f (gr g h0 6) = .inl (gc g 1, 906, .inr (.inl pp))) (hU : UIq z10 u im kt) : Met l yX12_least wq_c_X12_least ({ frames := 9, cells := 0, slots := 0, locals := 212 } : Room) (va_Pc [.ref h0, .int p1, .int p2, .int p3] (fun U => kIn dC dI g A f U)) (va_Qi (fun (r : Int32) (_ : Unit) => True) (fun (_ : Unit) t => ∃ f1 : Nat → va_E, Iv dC dI g A f1 t.heap ∧ Kp g [12, 32, 34] f f1 ∧ ∃ (w0 : Int32) (w1 : Int32) (w10 : Int32) (w12 : Int32) (w13 : Int32) (w14 : Int32) (w15 : Int32) (w16 : Int64) (w17 : Int32) (w18 : Int32) (w23 : Int32) (w24 : Int64) (w25 : Int64) (w26 : Int64) (q1 : Nat → Int64) (u1 : Nat → Int64) (im1 : Nat → Int64) (ik1 : Nat → Int32), (f1 h0 = .inr (12, [.int w0, .int w1, .ref (gr g h0 2), .ref (gr g h0 3), .ref (gr g h0 4), .ref (gr g h0 5), .ref (gr g h0 6), .ref (gr g h0 7), .ref (gr g h0 8), .ref (gr g h0 9), .int w10, .ref (gr g h0 11), .int w12, .int w13, .int w14, .int w15, .long w16, .int w17, .int w18, .ref (gr g h0 19), .ref (gr g h0 20), .ref (gr g h0 21), .ref (gr g h0 22), .int w23, .long w24, .long w25, .long w26])) ∧ (0 ≤ w10.toInt ∧ w10.toInt ≤ 10) ∧ (0 ≤ w12.toInt ∧ w12.toInt ≤ 200) ∧ (0 ≤ w23.toInt ∧ w23.toInt ≤ 8) ∧ (f1 (gr g h0 4) = .inl (gc g 1, 906, .inr (.inl q1))) ∧ (RowOK q1) ∧ (f1 (gr g h0 5) = .inl (gc g 1, 9060, .inr (.inl u1))) ∧ (f1 (gr g h0 7) = .inl (gc g 1, 1812, .inr (.inl im1))) ∧ (f1 (gr g h0 8) = .inl (gc g 3, 2, .inl ik1)) ∧ (UIq w10 u1 im1 ik1)) A) 0 0 A := by
  refine Met.ofW (cc := cX12_least) (maxL := 6) (ret := (some .int)) (by decide) rfl ?_
  intro p e s m args below meth c s₁ B hml hv
  obtain ⟨rfl, hI, hK, hE⟩ := hv
  have hx := B.exec
  have hb := B.bytes
  have hr := B.returns
  have hts := atoms_spec (ws := wq_c_X12_least) B.pre
  have hown : s.vm.findClass RX12 = some m.cls := findClass_of_methodNamed B.named
  have hlocks := B.notSynchronized
  have hS : va_S A s.heap s.heap [] := va_S.rf
  have hk0 : Kp g [12, 32, 34] f f := Kp.rf
  have hl := lv_entry ([.ref h0, .int p1, .int p2, .int p3]) (n := 6) (Nat.le_of_ble_eq_true rfl)
  rw [lg_entry_eq]
  generalize (lg_sl ([.ref h0, .int p1, .int p2, .int p3]) ++ List.replicate (6 - (lg_sl ([.ref h0, .int p1, .int p2, .int p3])).length) Slot.unset).toArray = ls at hl ⊢
  have hl : lv_has ls 6 [(0, .ref h0), (1, .int p1), (2, .int p2), (3, .int p3)] := hl
  have i_1 := kw_12_4 hG i_h0
  have d_2 := rk_hd hc1_ok
  have i_3 := kw_12_5 hG i_h0
  have i_4 := kw_12_7 hG i_h0
  have i_5 := kw_12_8 hG i_h0
  have i_6 := kw_12_6 hG i_h0
  refine lv_aload_n hx hb dX12_least_0 rfl (lv_at hl 0 rfl) ?_
  refine lv_iconst (v := 0) hx hb dX12_least_1 (by decide) ?_
  refine k_put (ci := 12) (v := .int 0) (ty := .int) (C := RX12) (T := TX12) (N := 27) hx hb hts (fun _ h0_ => List.mem_cons_of_mem _ (List.mem_append_right _ (List.mem_append_left _ h0_))) tyX12 tyX12_ok nmX12 hown hK hI hS i_h0.1 hc0 rfl 0 (by decide) (hts (.fieldLink RX12 67 "DeadlineShareModel" "thrown" "I") (List.mem_cons_of_mem _ (List.mem_append_left _ (List.mem_of_getElem? (i := 0) rfl)))) (fun _ h9 => h9) rfl (by decide +kernel) rfl rfl (Nat.le_of_ble_eq_true rfl) rfl (cl_12 i_h0 (by omega) (by omega) (by omega)) dX12_least_2 (fun f_7 H locs e_8 hI hS => ?_)
  have k_10 : f_7 h0 = .inr (12, [.int 0, .int z1, .ref (gr g h0 2), .ref (gr g h0 3), .ref (gr g h0 4), .ref (gr g h0 5), .ref (gr g h0 6), .ref (gr g h0 7), .ref (gr g h0 8), .ref (gr g h0 9), .int z10, .ref (gr g h0 11), .int z12, .int z13, .int z14, .int z15, .long z16, .int z17, .int z18, .ref (gr g h0 19), .ref (gr g h0 20), .ref (gr g h0 21), .ref (gr g h0 22), .int z23, .long z24, .long z25, .long z26]) := by rw [e_8]; exact va_up_self _ _ _
  have k_11 : f_7 (gr g h0 4) = .inl (gc g 1, 906, .inr (.inl q)) := by rw [e_8, va_up_ne _ _ (ik_ne i_1 i_h0 (by decide))]; exact hc1
  have k_12 : f_7 (gr g h0 5) = .inl (gc g 1, 9060, .inr (.inl u)) := by rw [e_8, va_up_ne _ _ (ik_ne i_3 i_h0 (by decide))]; exact hc2
  have k_13 : f_7 (gr g h0 7) = .inl (gc g 1, 1812, .inr (.inl im)) := by rw [e_8, va_up_ne _ _ (ik_ne i_4 i_h0 (by decide))]; exact hc3
  have k_14 : f_7 (gr g h0 8) = .inl (gc g 3, 2, .inl kt) := by rw [e_8, va_up_ne _ _ (ik_ne i_5 i_h0 (by decide))]; exact hc4
  have k_15 : f_7 (gr g h0 6) = .inl (gc g 1, 906, .inr (.inl pp)) := by rw [e_8, va_up_ne _ _ (ik_ne i_6 i_h0 (by decide))]; exact hc5
  have kp_9 := Kp.put hk0 i_h0 (by decide) e_8
  refine lv_aload_n hx hb dX12_least_5 rfl (lv_at hl 0 rfl) ?_
  refine lv_iload_n hx hb dX12_least_6 rfl (lv_at hl 1 rfl) ?_
  refine va_calli (va_runV (As := [.int p1]) (rest := []) ⟨hx, hb, hml, hown, hts⟩ (c_X12_isTask l dC dI g A hG f_7 h0 p1 q i_h0 k_11 hc1_ok) (cwV 1 hts (gi_V (fun w_ h0_ => ⟨List.mem_cons_of_mem _ (List.mem_append_right _ (List.mem_append_right _ (List.mem_append_left _ h0_))), (tb_c_X12_isTask w_ h0_).2⟩) (List.mem_cons_of_mem _ (List.mem_append_left _ (List.mem_of_getElem? (i := 1) rfl))) (List.mem_cons_of_mem _ (List.mem_append_left _ (List.mem_of_getElem? (i := 2) rfl))) (List.mem_cons_of_mem _ (List.mem_append_left _ (List.mem_of_getElem? (i := 3) rfl))) (List.mem_cons_of_mem _ (List.mem_append_left _ (List.mem_of_getElem? (i := 4) rfl)))) rfl rfl rfl (by decide +kernel) ⟨Nat.le_of_ble_eq_true rfl, Nat.le_of_ble_eq_true rfl⟩) ⟨fun a U g mk q => ⟨q.1, q.2.calling rfl rfl⟩, k_recv hK hI i_h0.1 k_10 (ci := 12) rfl, fun U hU hW => ⟨rfl, kIn.of hI hK hE hS hU hW⟩⟩ rfl rfl hl.1 rfl (lv_room (Nat.le_of_ble_eq_true rfl)) dX12_least_7 ⟨Nat.le_of_ble_eq_true rfl, Nat.le_of_ble_eq_true rfl⟩) hS (fun q _ h => h) (fun q h => h) (fun r_17 u t H1 locs ht hvm w_16 hB hz1 hk1 hS => ?_)
  have hI : Iv dC dI g A f_7 t.heap := hB
  rw [ht] at hI
  generalize H1 = H at hI hS ⊢
  refine W.widen (k := 0) (n := 0) (Nat.le_of_ble_eq_true rfl) (Nat.le_of_ble_eq_true rfl) ?_
  have w_16 : (r_17.toInt = 0 ∨ r_17.toInt = 1) ∧ (r_17.toInt = 0 ∨ (0 ≤ p1.toInt ∧ p1.toInt < (q 0).toInt)) := w_16
  refine lv_if_eq (tgt := 52) hx hb dX12_least_10 (by decide) (fun c_18 => ?_) (fun c_18 => ?_)
  · have c_18 := kc_eq rfl (by decide : Int32.toInt 0 = 0) c_18
    refine lv_iconst (v := (-1)) hx hb dX12_least_52 (by decide) ?_
    exact W.iret (v := (-1)) hx hb hr (fun t ht hW => ⟨⟨(-1), (), rfl, trivial, ⟨f_7, k_ret ht hI, kp_9, 0, z1, z10, z12, z13, z14, z15, z16, z17, z18, z23, z24, z25, z26, q, u, im, kt, k_10, (by first | omega | decide), (by first | omega | decide), (by first | omega | decide), k_11, hc1_ok, k_12, k_13, k_14, hU⟩⟩, hS.F ht⟩) hS.2.2 dX12_least_53
  · have c_18 := kn_eq rfl (by decide : Int32.toInt 0 = 0) c_18
    refine lv_iload_n hx hb dX12_least_13 rfl (lv_at hl 3 rfl) ?_
    refine lv_i2l (v := p3.toInt64) hx hb dX12_least_14 rfl ?_
    have t_19 := Int32.toInt_toInt64 p3
    refine lv_lconst (v := 1) hx hb dX12_least_15 (by decide) ?_
    refine lv_ldc2 hx hb hown (hts (.constantLong RX12 172 (60)) (List.mem_cons_of_mem _ (List.mem_append_left _ (List.mem_of_getElem? (i := 5) rfl)))) dX12_least_16 ?_
    refine va_calli (va_runS (As := [.long p3.toInt64, .long 1, .long 60]) (rest := []) ⟨hx, hb, hml, hown, hts⟩ (c_X12_in l dC dI g A hG f_7 p3.toInt64 1 60) (va_cwS 3 hts (gi_S (fun w_ h0_ => ⟨List.mem_cons_of_mem _ (List.mem_append_right _ (List.mem_append_right _ (List.mem_append_right _ (List.mem_append_left _ h0_)))), (tb_c_X12_in w_ h0_).2⟩) (List.mem_cons_of_mem _ (List.mem_append_left _ (List.mem_of_getElem? (i := 6) rfl))) (List.mem_cons_of_mem _ (List.mem_append_left _ (List.mem_of_getElem? (i := 7) rfl))) (List.mem_cons_of_mem _ (List.mem_append_left _ (List.mem_of_getElem? (i := 4) rfl)))) rfl rfl rfl (by decide +kernel) ⟨Nat.le_of_ble_eq_true rfl, Nat.le_of_ble_eq_true rfl⟩) ⟨fun a U g mk q => ⟨q.1, q.2.calling rfl rfl⟩, fun U hU hW => ⟨rfl, kIn.of hI hK hE hS hU hW⟩⟩ rfl rfl hl.1 rfl (lv_room (Nat.le_of_ble_eq_true rfl)) dX12_least_19 ⟨Nat.le_of_ble_eq_true rfl, Nat.le_of_ble_eq_true rfl⟩) hS (fun q _ h => h) (fun q h => h) (fun r_21 u t H1 locs ht hvm w_20 hB hz1 hk1 hS => ?_)
    have hI : Iv dC dI g A f_7 t.heap := hB
    rw [ht] at hI
    generalize H1 = H at hI hS ⊢
    refine W.widen (k := 0) (n := 0) (Nat.le_of_ble_eq_true rfl) (Nat.le_of_ble_eq_true rfl) ?_
    have w_20 : (r_21.toInt = 0 ∧ (p3.toInt64.toInt < (1 : Int64).toInt ∨ (60 : Int64).toInt < p3.toInt64.toInt)) ∨ (r_21.toInt = 1 ∧ (1 : Int64).toInt ≤ p3.toInt64.toInt ∧ p3.toInt64.toInt ≤ (60 : Int64).toInt) := w_20
    have g_22 : Int64.toInt (1) = 1 := by decide
    have g_23 : Int64.toInt (60) = 60 := by decide
    refine lv_if_eq (tgt := 52) hx hb dX12_least_22 (by decide) (fun c_24 => ?_) (fun c_24 => ?_)
    · have c_24 := kc_eq rfl (by decide : Int32.toInt 0 = 0) c_24
      refine lv_iconst (v := (-1)) hx hb dX12_least_52 (by decide) ?_
      exact W.iret (v := (-1)) hx hb hr (fun t ht hW => ⟨⟨(-1), (), rfl, trivial, ⟨f_7, k_ret ht hI, kp_9, 0, z1, z10, z12, z13, z14, z15, z16, z17, z18, z23, z24, z25, z26, q, u, im, kt, k_10, (by first | omega | decide), (by first | omega | decide), (by first | omega | decide), k_11, hc1_ok, k_12, k_13, k_14, hU⟩⟩, hS.F ht⟩) hS.2.2 dX12_least_53
    · have c_24 := kn_eq rfl (by decide : Int32.toInt 0 = 0) c_24
      refine lv_iload_n hx hb dX12_least_25 rfl (lv_at hl 2 rfl) ?_
      refine lv_i2l (v := p2.toInt64) hx hb dX12_least_26 rfl ?_
      have t_25 := Int32.toInt_toInt64 p2
      refine lv_lconst (v := 0) hx hb dX12_least_27 (by decide) ?_
      refine lv_iload_n hx hb dX12_least_28 rfl (lv_at hl 3 rfl) ?_
      refine lv_i2l (v := p3.toInt64) hx hb dX12_least_29 rfl ?_
      have t_26 := Int32.toInt_toInt64 p3
      refine va_calli (va_runS (As := [.long p2.toInt64, .long 0, .long p3.toInt64]) (rest := []) ⟨hx, hb, hml, hown, hts⟩ (c_X12_in l dC dI g A hG f_7 p2.toInt64 0 p3.toInt64) (va_cwS 3 hts (gi_S (fun w_ h0_ => ⟨List.mem_cons_of_mem _ (List.mem_append_right _ (List.mem_append_right _ (List.mem_append_right _ (List.mem_append_left _ h0_)))), (tb_c_X12_in w_ h0_).2⟩) (List.mem_cons_of_mem _ (List.mem_append_left _ (List.mem_of_getElem? (i := 6) rfl))) (List.mem_cons_of_mem _ (List.mem_append_left _ (List.mem_of_getElem? (i := 7) rfl))) (List.mem_cons_of_mem _ (List.mem_append_left _ (List.mem_of_getElem? (i := 4) rfl)))) rfl rfl rfl (by decide +kernel) ⟨Nat.le_of_ble_eq_true rfl, Nat.le_of_ble_eq_true rfl⟩) ⟨fun a U g mk q => ⟨q.1, q.2.calling rfl rfl⟩, fun U hU hW => ⟨rfl, kIn.of hI hK hE hS hU hW⟩⟩ rfl rfl hl.1 rfl (lv_room (Nat.le_of_ble_eq_true rfl)) dX12_least_30 ⟨Nat.le_of_ble_eq_true rfl, Nat.le_of_ble_eq_true rfl⟩) hS (fun q _ h => h) (fun q h => h) (fun r_28 u t H1 locs ht hvm w_27 hB hz1 hk1 hS => ?_)
      have hI : Iv dC dI g A f_7 t.heap := hB
      rw [ht] at hI
      generalize H1 = H at hI hS ⊢
      refine W.widen (k := 0) (n := 0) (Nat.le_of_ble_eq_true rfl) (Nat.le_of_ble_eq_true rfl) ?_
      have w_27 : (r_28.toInt = 0 ∧ (p2.toInt64.toInt < (0 : Int64).toInt ∨ p3.toInt64.toInt < p2.toInt64.toInt)) ∨ (r_28.toInt = 1 ∧ (0 : Int64).toInt ≤ p2.toInt64.toInt ∧ p2.toInt64.toInt ≤ p3.toInt64.toInt) := w_27
      have g_29 : Int64.toInt (0) = 0 := by decide
      refine lv_if_eq (tgt := 52) hx hb dX12_least_33 (by decide) (fun c_30 => ?_) (fun c_30 => ?_)
      · have c_30 := kc_eq rfl (by decide : Int32.toInt 0 = 0) c_30
        refine lv_iconst (v := (-1)) hx hb dX12_least_52 (by decide) ?_
        exact W.iret (v := (-1)) hx hb hr (fun t ht hW => ⟨⟨(-1), (), rfl, trivial, ⟨f_7, k_ret ht hI, kp_9, 0, z1, z10, z12, z13, z14, z15, z16, z17, z18, z23, z24, z25, z26, q, u, im, kt, k_10, (by first | omega | decide), (by first | omega | decide), (by first | omega | decide), k_11, hc1_ok, k_12, k_13, k_14, hU⟩⟩, hS.F ht⟩) hS.2.2 dX12_least_53
      · have c_30 := kn_eq rfl (by decide : Int32.toInt 0 = 0) c_30
        refine lv_aload_n hx hb dX12_least_36 rfl (lv_at hl 0 rfl) ?_
        refine k_get (ci := 12) (v := .ref (gr g h0 4)) (C := RX12) (T := TX12) (N := 27) hx hb hts (fun _ h0_ => List.mem_cons_of_mem _ (List.mem_append_right _ (List.mem_append_left _ h0_))) hown hK hI i_h0.1 k_10 rfl 4 (by decide) (hts (.fieldLink RX12 16 "DeadlineShareModel" "row" "[J") (List.mem_cons_of_mem _ (List.mem_append_left _ (List.mem_of_getElem? (i := 8) rfl)))) (fun _ h9 => h9) rfl dX12_least_37 ?_
        refine lv_iconst (v := 1) hx hb dX12_least_40 (by decide) ?_
        refine k_lald hx hb hK hI i_1.1 1 k_11 rfl (by unfold vp_in; decide) dX12_least_41 ?_
        refine k_topl (y := q 1) (congrArg q (show Int32.toNatClampNeg 1 = 1 by decide)) ?_
        refine lv_iload_n hx hb dX12_least_42 rfl (lv_at hl 3 rfl) ?_
        refine lv_i2l (v := p3.toInt64) hx hb dX12_least_43 rfl ?_
        have t_33 := Int32.toInt_toInt64 p3
        refine lv_ladd hx hb dX12_least_44 ?_
        refine lv_topl (fun v_34 ev_34 => ?_)
        have tv_34 := l_ad (q 1) p3.toInt64
        rw [← ev_34] at tv_34
        refine lv_ldc2 hx hb hown (hts (.constantLong RX12 286 (9999)) (List.mem_cons_of_mem _ (List.mem_append_left _ (List.mem_of_getElem? (i := 9) rfl)))) dX12_least_45 ?_
        refine W.lcmp hx hb dX12_least_48 ?_
        refine lv_if_le (tgt := 54) hx hb dX12_least_49 (by decide) (fun c_35 => ?_) (fun c_35 => ?_)
        · have c_35 := lc_le rfl (by decide : Int64.toInt 9999 = 9999) ((lg_cmp_le _ _).mp c_35)
          refine lv_iconst (v := (-1)) hx hb dX12_least_54 (by decide) ?_
          refine lv_istore (lv' := [(4, .int (-1)), (0, .ref h0), (1, .int p1), (2, .int p2), (3, .int p3)]) hx hb dX12_least_55 hl (by decide) rfl (fun ls hl => ?_)
          refine lv_bipush (v := 8) hx hb dX12_least_57 (by decide) ?_
          refine lv_istore (lv' := [(5, .int 8), (4, .int (-1)), (0, .ref h0), (1, .int p1), (2, .int p2), (3, .int p3)]) hx hb dX12_least_59 hl (by decide) rfl (fun ls hl => ?_)
          have K_61 : ∀ (nn : Nat) (y_36 : Int32) (y_37 : Int32) (q_39 : Nat → Int64) (q_42 : Nat → Int64) (y_44 : Int64) (f_38 : Nat → va_E) (H : Heap) (locs : List Loc) (ls : Array Slot), y_36.toInt.toNat < nn → Iv dC dI g A f_38 H → va_S A s.heap H locs → f_38 (gr g h0 4) = .inl (gc g 1, 906, .inr (.inl q_39)) → RowOK q_39 → f_38 (gr g h0 6) = .inl (gc g 1, 906, .inr (.inl q_42)) → f_38 h0 = .inr (12, [.int 0, .int z1, .ref (gr g h0 2), .ref (gr g h0 3), .ref (gr g h0 4), .ref (gr g h0 5), .ref (gr g h0 6), .ref (gr g h0 7), .ref (gr g h0 8), .ref (gr g h0 9), .int z10, .ref (gr g h0 11), .int z12, .int z13, .int z14, .int z15, .long z16, .int z17, .int z18, .ref (gr g h0 19), .ref (gr g h0 20), .ref (gr g h0 21), .ref (gr g h0 22), .int z23, .long y_44, .long z25, .long z26]) → f_38 (gr g h0 5) = .inl (gc g 1, 9060, .inr (.inl u)) → f_38 (gr g h0 7) = .inl (gc g 1, 1812, .inr (.inl im)) → f_38 (gr g h0 8) = .inl (gc g 3, 2, .inl kt) → Kp g [12, 32, 34] f f_38 → (0 ≤ y_36.toInt ∧ y_36.toInt ≤ 8) → ((q_39 0).toInt = (q 0).toInt) → ((q_39 1).toInt = (q 1).toInt) → lv_has ls 6 [(5, .int y_36), (4, .int y_37), (0, .ref h0), (1, .int p1), (2, .int p2), (3, .int p3)] → W p l e (headSpec wq_c_X12_least ({ frames := 9, cells := 0, slots := 0, locals := 212 } : Room)).room s m ([.ref h0, .int p1, .int p2, .int p3].toArray) below meth c H locs 0 0 (MQ below (va_Qi (fun (r : Int32) (_ : Unit) => True) (fun (_ : Unit) t => ∃ f1 : Nat → va_E, Iv dC dI g A f1 t.heap ∧ Kp g [12, 32, 34] f f1 ∧ ∃ (w0 : Int32) (w1 : Int32) (w10 : Int32) (w12 : Int32) (w13 : Int32) (w14 : Int32) (w15 : Int32) (w16 : Int64) (w17 : Int32) (w18 : Int32) (w23 : Int32) (w24 : Int64) (w25 : Int64) (w26 : Int64) (q1 : Nat → Int64) (u1 : Nat → Int64) (im1 : Nat → Int64) (ik1 : Nat → Int32), (f1 h0 = .inr (12, [.int w0, .int w1, .ref (gr g h0 2), .ref (gr g h0 3), .ref (gr g h0 4), .ref (gr g h0 5), .ref (gr g h0 6), .ref (gr g h0 7), .ref (gr g h0 8), .ref (gr g h0 9), .int w10, .ref (gr g h0 11), .int w12, .int w13, .int w14, .int w15, .long w16, .int w17, .int w18, .ref (gr g h0 19), .ref (gr g h0 20), .ref (gr g h0 21), .ref (gr g h0 22), .int w23, .long w24, .long w25, .long w26])) ∧ (0 ≤ w10.toInt ∧ w10.toInt ≤ 10) ∧ (0 ≤ w12.toInt ∧ w12.toInt ≤ 200) ∧ (0 ≤ w23.toInt ∧ w23.toInt ≤ 8) ∧ (f1 (gr g h0 4) = .inl (gc g 1, 906, .inr (.inl q1))) ∧ (RowOK q1) ∧ (f1 (gr g h0 5) = .inl (gc g 1, 9060, .inr (.inl u1))) ∧ (f1 (gr g h0 7) = .inl (gc g 1, 1812, .inr (.inl im1))) ∧ (f1 (gr g h0 8) = .inl (gc g 3, 2, .inl ik1)) ∧ (UIq w10 u1 im1 ik1)) A) ([.ref h0, .int p1, .int p2, .int p3].toArray) s 0 0 A) (F0 m 61 ls []) := by
            intro nn
            induction nn with
            | zero => intro y_36 y_37 q_39 q_42 y_44 f_38 H locs ls m_53; exact absurd m_53 (Nat.not_lt_zero _)
            | succ nn ih =>
              intro y_36 y_37 q_39 q_42 y_44 f_38 H locs ls m_53 hI hS k_40 ok_41 k_43 k_45 k_46 k_47 k_48 kp_49 t_52 t_50 t_51 hl
              have g_54 := Int32.toInt_lt y_36
              have g_55 := Int32.le_toInt y_36
              have d_56 := rk_hd ok_41
              refine lv_iload hx hb dX12_least_61 (lv_at hl 0 rfl) ?_
              refine lv_if_le (tgt := 93) hx hb dX12_least_63 (by decide) (fun c_57 => ?_) (fun c_57 => ?_)
              · have c_57 := kc_le rfl (by decide : Int32.toInt 0 = 0) c_57
                refine lv_iload hx hb dX12_least_93 (lv_at hl 1 rfl) ?_
                exact W.iret (v := y_37) hx hb hr (fun t ht hW => ⟨⟨y_37, (), rfl, trivial, ⟨f_38, k_ret ht hI, kp_49, 0, z1, z10, z12, z13, z14, z15, z16, z17, z18, z23, y_44, z25, z26, q_39, u, im, kt, k_45, (by first | omega | decide), (by first | omega | decide), (by first | omega | decide), k_40, ok_41, k_46, k_47, k_48, hU⟩⟩, hS.F ht⟩) hS.2.2 dX12_least_95
              · have c_57 := kn_le rfl (by decide : Int32.toInt 0 = 0) c_57
                refine lv_aload_n hx hb dX12_least_66 rfl (lv_at hl 2 rfl) ?_
                obtain ⟨m_58, em_58, tm_58⟩ := k_nat (x := p1) (by omega)
                refine lv_iload_n hx hb dX12_least_67 rfl (lv_at hl 3 rfl) ?_
                refine k_topi (y := nI m_58) em_58 ?_
                refine lv_iload hx hb dX12_least_68 (lv_at hl 0 rfl) ?_
                refine lv_iload_n hx hb dX12_least_70 rfl (lv_at hl 5 rfl) ?_
                refine va_calli (va_runV (As := [.int (nI m_58), .int y_36, .int p3]) (rest := []) ⟨hx, hb, hml, hown, hts⟩ (c_X12_runsWith l dC dI g A hG f_38 h0 m_58 y_36 p3 0 z1 z10 z12 z13 z14 z15 z16 z17 z18 z23 y_44 z25 z26 q_39 q_42 i_h0 k_45 (by first | omega | (simp only [k_c0]; omega)) (by first | omega | (simp only [k_c0]; omega)) (by first | omega | (simp only [k_c0]; omega)) k_40 ok_41 k_43 (by first | omega | decide | (simp only [k_c0, k_c1, k_cm1]; omega)) (by first | omega | decide | (simp only [k_c0, k_c1, k_cm1]; omega)) (by first | omega | decide | (simp only [k_c0, k_c1, k_cm1]; omega))) (cwV 3 hts (gi_V (fun w_ h0_ => ⟨List.mem_cons_of_mem _ (List.mem_append_right _ (List.mem_append_right _ (List.mem_append_right _ (List.mem_append_right _ (List.mem_append_left _ h0_))))), (tb_c_X12_runsWith w_ h0_).2⟩) (List.mem_cons_of_mem _ (List.mem_append_left _ (List.mem_of_getElem? (i := 10) rfl))) (List.mem_cons_of_mem _ (List.mem_append_left _ (List.mem_of_getElem? (i := 11) rfl))) (List.mem_cons_of_mem _ (List.mem_append_left _ (List.mem_of_getElem? (i := 12) rfl))) (List.mem_cons_of_mem _ (List.mem_append_left _ (List.mem_of_getElem? (i := 4) rfl)))) rfl rfl rfl (by decide +kernel) ⟨Nat.le_of_ble_eq_true rfl, Nat.le_of_ble_eq_true rfl⟩) ⟨fun a U g mk q => ⟨q.1, q.2.calling rfl rfl⟩, k_recv hK hI i_h0.1 k_45 (ci := 12) rfl, fun U hU hW => ⟨rfl, kIn.of hI hK hE hS hU hW⟩⟩ rfl rfl hl.1 rfl (lv_room (Nat.le_of_ble_eq_true rfl)) dX12_least_71 ⟨Nat.le_of_ble_eq_true rfl, Nat.le_of_ble_eq_true rfl⟩) hS (fun q _ h => h) (fun q h => h) (fun r_61 u t H1 locs ht hvm w_60 hB hz1 hk1 hS => ?_)
                obtain ⟨f_59, hI, kc_62, w24_63, q1_64, pp1_65, k_66, k_67, z_68, z_69, z_70, k_71⟩ := hB
                rw [ht] at hI
                have k_72 : f_59 (gr g h0 5) = .inl (gc g 1, 9060, .inr (.inl u)) := Kp.at kc_62 i_3 (by decide) k_46
                have k_73 : f_59 (gr g h0 7) = .inl (gc g 1, 1812, .inr (.inl im)) := Kp.at kc_62 i_4 (by decide) k_47
                have k_74 : f_59 (gr g h0 8) = .inl (gc g 3, 2, .inl kt) := Kp.at kc_62 i_5 (by decide) k_48
                have k_66 : f_59 h0 = .inr (12, [.int (0 : Int32), .int z1, .ref (gr g h0 2), .ref (gr g h0 3), .ref (gr g h0 4), .ref (gr g h0 5), .ref (gr g h0 6), .ref (gr g h0 7), .ref (gr g h0 8), .ref (gr g h0 9), .int z10, .ref (gr g h0 11), .int z12, .int z13, .int z14, .int z15, .long z16, .int z17, .int z18, .ref (gr g h0 19), .ref (gr g h0 20), .ref (gr g h0 21), .ref (gr g h0 22), .int z23, .long w24_63, .long z25, .long z26]) := k_66
                have z_68 : RowOK q1_64 := z_68
                have d_75 := rk_hd z_68
                have z_69 : (q1_64 0).toInt = (q_39 0).toInt := z_69
                have z_70 : (q1_64 1).toInt = (q_39 1).toInt := z_70
                have kp_76 := Kp.call kp_49 kc_62 (by decide)
                generalize H1 = H at hI hS ⊢
                refine W.widen (k := 0) (n := 0) (Nat.le_of_ble_eq_true rfl) (Nat.le_of_ble_eq_true rfl) ?_
                refine lv_iload_n hx hb dX12_least_74 rfl (lv_at hl 4 rfl) ?_
                have J_85 : ∀ (y_77 : Int32) (H : Heap) (locs : List Loc) (ls : Array Slot), Iv dC dI g A f_59 H → va_S A s.heap H locs → lv_has ls 6 [(5, .int y_36), (4, .int y_37), (0, .ref h0), (1, .int p1), (2, .int p2), (3, .int p3)] → W p l e (headSpec wq_c_X12_least ({ frames := 9, cells := 0, slots := 0, locals := 212 } : Room)).room s m ([.ref h0, .int p1, .int p2, .int p3].toArray) below meth c H locs 0 0 (MQ below (va_Qi (fun (r : Int32) (_ : Unit) => True) (fun (_ : Unit) t => ∃ f1 : Nat → va_E, Iv dC dI g A f1 t.heap ∧ Kp g [12, 32, 34] f f1 ∧ ∃ (w0 : Int32) (w1 : Int32) (w10 : Int32) (w12 : Int32) (w13 : Int32) (w14 : Int32) (w15 : Int32) (w16 : Int64) (w17 : Int32) (w18 : Int32) (w23 : Int32) (w24 : Int64) (w25 : Int64) (w26 : Int64) (q1 : Nat → Int64) (u1 : Nat → Int64) (im1 : Nat → Int64) (ik1 : Nat → Int32), (f1 h0 = .inr (12, [.int w0, .int w1, .ref (gr g h0 2), .ref (gr g h0 3), .ref (gr g h0 4), .ref (gr g h0 5), .ref (gr g h0 6), .ref (gr g h0 7), .ref (gr g h0 8), .ref (gr g h0 9), .int w10, .ref (gr g h0 11), .int w12, .int w13, .int w14, .int w15, .long w16, .int w17, .int w18, .ref (gr g h0 19), .ref (gr g h0 20), .ref (gr g h0 21), .ref (gr g h0 22), .int w23, .long w24, .long w25, .long w26])) ∧ (0 ≤ w10.toInt ∧ w10.toInt ≤ 10) ∧ (0 ≤ w12.toInt ∧ w12.toInt ≤ 200) ∧ (0 ≤ w23.toInt ∧ w23.toInt ≤ 8) ∧ (f1 (gr g h0 4) = .inl (gc g 1, 906, .inr (.inl q1))) ∧ (RowOK q1) ∧ (f1 (gr g h0 5) = .inl (gc g 1, 9060, .inr (.inl u1))) ∧ (f1 (gr g h0 7) = .inl (gc g 1, 1812, .inr (.inl im1))) ∧ (f1 (gr g h0 8) = .inl (gc g 3, 2, .inl ik1)) ∧ (UIq w10 u1 im1 ik1)) A) ([.ref h0, .int p1, .int p2, .int p3].toArray) s 0 0 A) (F0 m 85 ls [.int y_77]) := by
                  intro y_77 H locs ls hI hS  hl
                  refine lv_istore (lv' := [(4, .int y_77), (5, .int y_36), (0, .ref h0), (1, .int p1), (2, .int p2), (3, .int p3)]) hx hb dX12_least_85 hl (by decide) rfl (fun ls hl => ?_)
                  obtain ⟨v_78, ev_78⟩ : ∃ y : Int32, y = y_36 + Int32.ofInt (-1) := ⟨_, rfl⟩
                  refine lv_iinc (v := v_78) (lv' := [(5, .int v_78), (4, .int y_77), (0, .ref h0), (1, .int p1), (2, .int p2), (3, .int p3)]) hx hb dX12_least_87 hl (k := 1) rfl ev_78.symm (by decide) rfl (fun ls hl => ?_)
                  have tv_78 := k_dec y_36
                  rw [← ev_78] at tv_78
                  refine lv_goto (tgt := 61) hx hb dX12_least_90 (by decide) ?_
                  exact ih v_78 y_77 q1_64 pp1_65 w24_63 f_59 _ _ _ (by omega) hI hS k_67 z_68 k_71 k_66 k_72 k_73 k_74 kp_76 (by first | omega | decide) (by first | omega | decide) (by first | omega | decide) (lv_sub hl [0, 1, 2, 3, 4, 5] rfl)
                refine lv_icmp_lt (tgt := 83) hx hb dX12_least_75 (by decide) (fun c_79 => ?_) (fun c_79 => ?_)
                · have c_79 := kc_lt rfl rfl c_79
                  refine lv_iload hx hb dX12_least_83 (lv_at hl 1 rfl) ?_
                  exact J_85 y_37 _ _ _ hI hS  (lv_sub hl [0, 1, 2, 3, 4, 5] rfl)
                · have c_79 := kn_lt rfl rfl c_79
                  refine lv_iload hx hb dX12_least_78 (lv_at hl 0 rfl) ?_
                  refine lv_goto (tgt := 85) hx hb dX12_least_80 (by decide) ?_
                  exact J_85 y_36 _ _ _ hI hS  (lv_sub hl [0, 1, 2, 3, 4, 5] rfl)
          exact K_61 _ 8 (-1) q pp z24 f_7 _ _ _ (Nat.lt_succ_self _) hI hS k_11 hc1_ok k_15 k_10 k_12 k_13 k_14 kp_9 (by first | omega | decide | (simp only [show Int32.toInt 8 = 8 from by decide, show Int32.toInt (-1) = (-1) from by decide]; omega)) (by first | omega | decide | (simp only [show Int32.toInt 8 = 8 from by decide, show Int32.toInt (-1) = (-1) from by decide]; omega)) (by first | omega | decide | (simp only [show Int32.toInt 8 = 8 from by decide, show Int32.toInt (-1) = (-1) from by decide]; omega)) (lv_sub hl [0, 1, 2, 3, 4, 5] rfl)
        · have c_35 := ln_le rfl (by decide : Int64.toInt 9999 = 9999) (fun h9 => c_35 ((lg_cmp_le _ _).mpr h9))
          refine lv_iconst (v := (-1)) hx hb dX12_least_52 (by decide) ?_
          exact W.iret (v := (-1)) hx hb hr (fun t ht hW => ⟨⟨(-1), (), rfl, trivial, ⟨f_7, k_ret ht hI, kp_9, 0, z1, z10, z12, z13, z14, z15, z16, z17, z18, z23, z24, z25, z26, q, u, im, kt, k_10, (by first | omega | decide), (by first | omega | decide), (by first | omega | decide), k_11, hc1_ok, k_12, k_13, k_14, hU⟩⟩, hS.F ht⟩) hS.2.2 dX12_least_53
theorem tw_995 : q_g (.selects RX12 yX12_lookAtLags yX12_lookAtLags) := ⟨(List.mem_append_left _ (List.mem_of_getElem? (i := 65) (by decide +kernel))), good_of_word (by decide +kernel)⟩
theorem tw_996 : q_g (.instanceMethod yX12_lookAtLags) := ⟨(List.mem_append_right _ (List.mem_of_getElem? (i := 1535) (by decide +kernel))), good_of_word (by decide +kernel)⟩
theorem tw_997 : q_g (.methodLink RX12 331 yX12_lookAtLags) := ⟨(List.mem_append_right _ (List.mem_of_getElem? (i := 1533) (by decide +kernel))), good_of_word (by decide +kernel)⟩
theorem tw_998 : q_g (.constant RX12 330 (-2147483648)) := ⟨(List.mem_append_right _ (List.mem_of_getElem? (i := 1532) (by decide +kernel))), good_of_word (by decide +kernel)⟩
theorem tw_999 : q_g (.code yX12_would cX12_would 10 (some .int)) := ⟨(List.mem_append_right _ (List.mem_of_getElem? (i := 1531) (by decide +kernel))), good_of_word (by decide +kernel)⟩
def ow_c_X12_would : List Cond := [.fieldLink RX12 67 "DeadlineShareModel" "thrown" "I", .constantLong RX12 227 (4), .methodLink RX12 83 yX12_in, .static yX12_in, .initialized RX12, .constant RX12 330 (-2147483648), .constantLong RX12 172 (60), .constantLong RX12 124 (3), .fieldLink RX12 16 "DeadlineShareModel" "row" "[J", .constantLong RX12 286 (9999), .methodLink RX12 310 yX12_begin, .instanceMethod yX12_begin, .selects RX12 yX12_begin yX12_begin, .fieldLink RX12 13 "DeadlineShareModel" "term" "[I", .fieldLink RX12 249 "DeadlineShareModel" "state" "J", .fieldLink RX12 322 "DeadlineShareModel" "most1" "J", .fieldLink RX12 325 "DeadlineShareModel" "least1" "J", .methodLink RX12 313 yX12_over, .instanceMethod yX12_over, .selects RX12 yX12_over yX12_over, .methodLink RX12 288 yX12_tick, .instanceMethod yX12_tick, .selects RX12 yX12_tick yX12_tick, .methodLink RX12 331 yX12_lookAtLags, .instanceMethod yX12_lookAtLags, .selects RX12 yX12_lookAtLags yX12_lookAtLags]
def wq_c_X12_would : List Cond := .code yX12_would cX12_would 10 (some .int) :: (ow_c_X12_would ++ (u_ws RX12 TX12 27 ++ (wq_c_X12_in ++ (wq_c_X12_begin ++ (wq_c_X12_over ++ (wq_c_X12_tick ++ (wq_c_X12_lookAtLags ++ ([] : List Cond))))))))
theorem tb_c_X12_would : ∀ w ∈ wq_c_X12_would, q_g w := by
  unfold wq_c_X12_would ow_c_X12_would
  exact q_cons tw_999 (q_app (q_cons tw_927 (q_cons tw_820 (q_cons tw_730 (q_cons tw_729 (q_cons tw_728 (q_cons tw_998 (q_cons tw_986 (q_cons tw_854 (q_cons tw_731 (q_cons tw_985 (q_cons tw_925 (q_cons tw_924 (q_cons tw_923 (q_cons tw_762 (q_cons tw_788 (q_cons tw_907 (q_cons tw_906 (q_cons tw_922 (q_cons tw_921 (q_cons tw_920 (q_cons tw_919 (q_cons tw_918 (q_cons tw_917 (q_cons tw_997 (q_cons tw_996 (q_cons tw_995 q_nil)))))))))))))))))))))))))) (q_app tu_X12 (q_app tb_c_X12_in (q_app tb_c_X12_begin (q_app tb_c_X12_over (q_app tb_c_X12_tick (q_app tb_c_X12_lookAtLags q_nil)))))))
set_option maxHeartbeats 4000000 in
set_option maxRecDepth 100000 in
theorem c_X12_would (l : Launch) (dC : Nat → ClassId) (dI : Nat → Nat → Nat) (g : kG) (A : Nat → Prop) (hG : kWf g) (f : Nat → va_E) (h0 : Nat) (p1 : Int32) (p2 : Int32) (p3 : Int32) (z0 : Int32) (z1 : Int32) (z10 : Int32) (z12 : Int32) (z13 : Int32) (z14 : Int32) (z15 : Int32) (z16 : Int64) (z17 : Int32) (z18 : Int32) (z23 : Int32) (z24 : Int64) (z25 : Int64) (z26 : Int64) (q : Nat → Int64) (u : Nat → Int64) (im : Nat → Int64) (kt : Nat → Int32) (pp : Nat → Int64) (i_h0 : ik g 12 h0) (hc0 : f h0 = .inr (12, [.int z0, .int z1, .ref (gr g h0 2), .ref (gr g h0 3), .ref (gr g h0 4), .ref (gr g h0 5), .ref (gr g h0 6), .ref (gr g h0 7), .ref (gr g h0 8), .ref (gr g h0 9), .int z10, .ref (gr g h0 11), .int z12, .int z13, .int z14, .int z15, .long z16, .int z17, .int z18, .ref (gr g h0 19), .ref (gr g h0 20), .ref (gr g h0 21), .ref (gr g h0 22), .int z23, .long z24, .long z25, .long z26])) (hc0_10 : 0 ≤ z10.toInt ∧ z10.toInt ≤ 10) (hc0_12 : 0 ≤ z12.toInt ∧ z12.toInt ≤ 200) (hc0_23 : 0 ≤ z23.toInt ∧ z23.toInt ≤ 8) (hc1 : f (gr g h0 4) = .inl (gc g 1, 906, .inr (.inl q))) (hc1_ok : RowOK q) (hc2 : f (gr g h0 5) = .inl (gc g 1, 9060, .inr (.inl u))) (hc3 : f (gr g h0 7) = .inl (gc g 1, 1812, .inr (.inl im))) (hc4 : f (gr g h0 8) = .inl (gc g 3, 2, .inl kt)) (hc5 : f (gr g h0 6) = .inl (gc g 1, 906, .inr (.inl pp))) (hU : UIq z10 u im kt) : Met l yX12_would wq_c_X12_would ({ frames := 8, cells := 0, slots := 0, locals := 187 } : Room) (va_Pc [.ref h0, .int p1, .int p2, .int p3] (fun U => kIn dC dI g A f U)) (va_Qi (fun (r : Int32) (_ : Unit) => True) (fun (_ : Unit) t => ∃ f1 : Nat → va_E, Iv dC dI g A f1 t.heap ∧ Kp g [12, 32, 34] f f1 ∧ ∃ (w0 : Int32) (w1 : Int32) (w10 : Int32) (w12 : Int32) (w13 : Int32) (w14 : Int32) (w15 : Int32) (w16 : Int64) (w17 : Int32) (w18 : Int32) (w23 : Int32) (w24 : Int64) (w25 : Int64) (w26 : Int64) (q1 : Nat → Int64) (u1 : Nat → Int64) (im1 : Nat → Int64) (ik1 : Nat → Int32), (f1 h0 = .inr (12, [.int w0, .int w1, .ref (gr g h0 2), .ref (gr g h0 3), .ref (gr g h0 4), .ref (gr g h0 5), .ref (gr g h0 6), .ref (gr g h0 7), .ref (gr g h0 8), .ref (gr g h0 9), .int w10, .ref (gr g h0 11), .int w12, .int w13, .int w14, .int w15, .long w16, .int w17, .int w18, .ref (gr g h0 19), .ref (gr g h0 20), .ref (gr g h0 21), .ref (gr g h0 22), .int w23, .long w24, .long w25, .long w26])) ∧ (0 ≤ w10.toInt ∧ w10.toInt ≤ 10) ∧ (0 ≤ w12.toInt ∧ w12.toInt ≤ 200) ∧ (0 ≤ w23.toInt ∧ w23.toInt ≤ 8) ∧ (f1 (gr g h0 4) = .inl (gc g 1, 906, .inr (.inl q1))) ∧ (RowOK q1) ∧ (f1 (gr g h0 5) = .inl (gc g 1, 9060, .inr (.inl u1))) ∧ (f1 (gr g h0 7) = .inl (gc g 1, 1812, .inr (.inl im1))) ∧ (f1 (gr g h0 8) = .inl (gc g 3, 2, .inl ik1)) ∧ (UIq w10 u1 im1 ik1)) A) 0 0 A := by
  refine Met.ofW (cc := cX12_would) (maxL := 10) (ret := (some .int)) (by decide) rfl ?_
  intro p e s m args below meth c s₁ B hml hv
  obtain ⟨rfl, hI, hK, hE⟩ := hv
  have hx := B.exec
  have hb := B.bytes
  have hr := B.returns
  have hts := atoms_spec (ws := wq_c_X12_would) B.pre
  have hown : s.vm.findClass RX12 = some m.cls := findClass_of_methodNamed B.named
  have hlocks := B.notSynchronized
  have hS : va_S A s.heap s.heap [] := va_S.rf
  have hk0 : Kp g [12, 32, 34] f f := Kp.rf
  have hl := lv_entry ([.ref h0, .int p1, .int p2, .int p3]) (n := 10) (Nat.le_of_ble_eq_true rfl)
  rw [lg_entry_eq]
  generalize (lg_sl ([.ref h0, .int p1, .int p2, .int p3]) ++ List.replicate (10 - (lg_sl ([.ref h0, .int p1, .int p2, .int p3])).length) Slot.unset).toArray = ls at hl ⊢
  have hl : lv_has ls 10 [(0, .ref h0), (1, .int p1), (2, .int p2), (3, .int p3)] := hl
  have i_1 := kw_12_4 hG i_h0
  have d_2 := rk_hd hc1_ok
  have i_3 := kw_12_5 hG i_h0
  have i_4 := kw_12_7 hG i_h0
  have i_5 := kw_12_8 hG i_h0
  have i_6 := kw_12_6 hG i_h0
  refine lv_aload_n hx hb dX12_would_0 rfl (lv_at hl 0 rfl) ?_
  refine lv_iconst (v := 0) hx hb dX12_would_1 (by decide) ?_
  refine k_put (ci := 12) (v := .int 0) (ty := .int) (C := RX12) (T := TX12) (N := 27) hx hb hts (fun _ h0_ => List.mem_cons_of_mem _ (List.mem_append_right _ (List.mem_append_left _ h0_))) tyX12 tyX12_ok nmX12 hown hK hI hS i_h0.1 hc0 rfl 0 (by decide) (hts (.fieldLink RX12 67 "DeadlineShareModel" "thrown" "I") (List.mem_cons_of_mem _ (List.mem_append_left _ (List.mem_of_getElem? (i := 0) rfl)))) (fun _ h9 => h9) rfl (by decide +kernel) rfl rfl (Nat.le_of_ble_eq_true rfl) rfl (cl_12 i_h0 (by omega) (by omega) (by omega)) dX12_would_2 (fun f_7 H locs e_8 hI hS => ?_)
  have k_10 : f_7 h0 = .inr (12, [.int 0, .int z1, .ref (gr g h0 2), .ref (gr g h0 3), .ref (gr g h0 4), .ref (gr g h0 5), .ref (gr g h0 6), .ref (gr g h0 7), .ref (gr g h0 8), .ref (gr g h0 9), .int z10, .ref (gr g h0 11), .int z12, .int z13, .int z14, .int z15, .long z16, .int z17, .int z18, .ref (gr g h0 19), .ref (gr g h0 20), .ref (gr g h0 21), .ref (gr g h0 22), .int z23, .long z24, .long z25, .long z26]) := by rw [e_8]; exact va_up_self _ _ _
  have k_11 : f_7 (gr g h0 4) = .inl (gc g 1, 906, .inr (.inl q)) := by rw [e_8, va_up_ne _ _ (ik_ne i_1 i_h0 (by decide))]; exact hc1
  have k_12 : f_7 (gr g h0 5) = .inl (gc g 1, 9060, .inr (.inl u)) := by rw [e_8, va_up_ne _ _ (ik_ne i_3 i_h0 (by decide))]; exact hc2
  have k_13 : f_7 (gr g h0 7) = .inl (gc g 1, 1812, .inr (.inl im)) := by rw [e_8, va_up_ne _ _ (ik_ne i_4 i_h0 (by decide))]; exact hc3
  have k_14 : f_7 (gr g h0 8) = .inl (gc g 3, 2, .inl kt) := by rw [e_8, va_up_ne _ _ (ik_ne i_5 i_h0 (by decide))]; exact hc4
  have k_15 : f_7 (gr g h0 6) = .inl (gc g 1, 906, .inr (.inl pp)) := by rw [e_8, va_up_ne _ _ (ik_ne i_6 i_h0 (by decide))]; exact hc5
  have kp_9 := Kp.put hk0 i_h0 (by decide) e_8
  refine lv_iload_n hx hb dX12_would_5 rfl (lv_at hl 1 rfl) ?_
  refine lv_i2l (v := p1.toInt64) hx hb dX12_would_6 rfl ?_
  have t_16 := Int32.toInt_toInt64 p1
  refine lv_lconst (v := 0) hx hb dX12_would_7 (by decide) ?_
  refine lv_ldc2 hx hb hown (hts (.constantLong RX12 227 (4)) (List.mem_cons_of_mem _ (List.mem_append_left _ (List.mem_of_getElem? (i := 1) rfl)))) dX12_would_8 ?_
  refine va_calli (va_runS (As := [.long p1.toInt64, .long 0, .long 4]) (rest := []) ⟨hx, hb, hml, hown, hts⟩ (c_X12_in l dC dI g A hG f_7 p1.toInt64 0 4) (va_cwS 3 hts (gi_S (fun w_ h0_ => ⟨List.mem_cons_of_mem _ (List.mem_append_right _ (List.mem_append_right _ (List.mem_append_left _ h0_))), (tb_c_X12_in w_ h0_).2⟩) (List.mem_cons_of_mem _ (List.mem_append_left _ (List.mem_of_getElem? (i := 2) rfl))) (List.mem_cons_of_mem _ (List.mem_append_left _ (List.mem_of_getElem? (i := 3) rfl))) (List.mem_cons_of_mem _ (List.mem_append_left _ (List.mem_of_getElem? (i := 4) rfl)))) rfl rfl rfl (by decide +kernel) ⟨Nat.le_of_ble_eq_true rfl, Nat.le_of_ble_eq_true rfl⟩) ⟨fun a U g mk q => ⟨q.1, q.2.calling rfl rfl⟩, fun U hU hW => ⟨rfl, kIn.of hI hK hE hS hU hW⟩⟩ rfl rfl hl.1 rfl (lv_room (Nat.le_of_ble_eq_true rfl)) dX12_would_11 ⟨Nat.le_of_ble_eq_true rfl, Nat.le_of_ble_eq_true rfl⟩) hS (fun q _ h => h) (fun q h => h) (fun r_18 u t H1 locs ht hvm w_17 hB hz1 hk1 hS => ?_)
  have hI : Iv dC dI g A f_7 t.heap := hB
  rw [ht] at hI
  generalize H1 = H at hI hS ⊢
  refine W.widen (k := 0) (n := 0) (Nat.le_of_ble_eq_true rfl) (Nat.le_of_ble_eq_true rfl) ?_
  have w_17 : (r_18.toInt = 0 ∧ (p1.toInt64.toInt < (0 : Int64).toInt ∨ (4 : Int64).toInt < p1.toInt64.toInt)) ∨ (r_18.toInt = 1 ∧ (0 : Int64).toInt ≤ p1.toInt64.toInt ∧ p1.toInt64.toInt ≤ (4 : Int64).toInt) := w_17
  have g_19 : Int64.toInt (0) = 0 := by decide
  have g_20 : Int64.toInt (4) = 4 := by decide
  refine lv_if_eq (tgt := 57) hx hb dX12_would_14 (by decide) (fun c_21 => ?_) (fun c_21 => ?_)
  · have c_21 := kc_eq rfl (by decide : Int32.toInt 0 = 0) c_21
    refine lv_ldcw hx hb hown (hts (.constant RX12 330 (-2147483648)) (List.mem_cons_of_mem _ (List.mem_append_left _ (List.mem_of_getElem? (i := 5) rfl)))) dX12_would_57 ?_
    exact W.iret (v := (-2147483648)) hx hb hr (fun t ht hW => ⟨⟨(-2147483648), (), rfl, trivial, ⟨f_7, k_ret ht hI, kp_9, 0, z1, z10, z12, z13, z14, z15, z16, z17, z18, z23, z24, z25, z26, q, u, im, kt, k_10, (by first | omega | decide), (by first | omega | decide), (by first | omega | decide), k_11, hc1_ok, k_12, k_13, k_14, hU⟩⟩, hS.F ht⟩) hS.2.2 dX12_would_60
  · have c_21 := kn_eq rfl (by decide : Int32.toInt 0 = 0) c_21
    refine lv_iload_n hx hb dX12_would_17 rfl (lv_at hl 2 rfl) ?_
    refine lv_i2l (v := p2.toInt64) hx hb dX12_would_18 rfl ?_
    have t_22 := Int32.toInt_toInt64 p2
    refine lv_lconst (v := 1) hx hb dX12_would_19 (by decide) ?_
    refine lv_ldc2 hx hb hown (hts (.constantLong RX12 172 (60)) (List.mem_cons_of_mem _ (List.mem_append_left _ (List.mem_of_getElem? (i := 6) rfl)))) dX12_would_20 ?_
    refine va_calli (va_runS (As := [.long p2.toInt64, .long 1, .long 60]) (rest := []) ⟨hx, hb, hml, hown, hts⟩ (c_X12_in l dC dI g A hG f_7 p2.toInt64 1 60) (va_cwS 3 hts (gi_S (fun w_ h0_ => ⟨List.mem_cons_of_mem _ (List.mem_append_right _ (List.mem_append_right _ (List.mem_append_left _ h0_))), (tb_c_X12_in w_ h0_).2⟩) (List.mem_cons_of_mem _ (List.mem_append_left _ (List.mem_of_getElem? (i := 2) rfl))) (List.mem_cons_of_mem _ (List.mem_append_left _ (List.mem_of_getElem? (i := 3) rfl))) (List.mem_cons_of_mem _ (List.mem_append_left _ (List.mem_of_getElem? (i := 4) rfl)))) rfl rfl rfl (by decide +kernel) ⟨Nat.le_of_ble_eq_true rfl, Nat.le_of_ble_eq_true rfl⟩) ⟨fun a U g mk q => ⟨q.1, q.2.calling rfl rfl⟩, fun U hU hW => ⟨rfl, kIn.of hI hK hE hS hU hW⟩⟩ rfl rfl hl.1 rfl (lv_room (Nat.le_of_ble_eq_true rfl)) dX12_would_23 ⟨Nat.le_of_ble_eq_true rfl, Nat.le_of_ble_eq_true rfl⟩) hS (fun q _ h => h) (fun q h => h) (fun r_24 u t H1 locs ht hvm w_23 hB hz1 hk1 hS => ?_)
    have hI : Iv dC dI g A f_7 t.heap := hB
    rw [ht] at hI
    generalize H1 = H at hI hS ⊢
    refine W.widen (k := 0) (n := 0) (Nat.le_of_ble_eq_true rfl) (Nat.le_of_ble_eq_true rfl) ?_
    have w_23 : (r_24.toInt = 0 ∧ (p2.toInt64.toInt < (1 : Int64).toInt ∨ (60 : Int64).toInt < p2.toInt64.toInt)) ∨ (r_24.toInt = 1 ∧ (1 : Int64).toInt ≤ p2.toInt64.toInt ∧ p2.toInt64.toInt ≤ (60 : Int64).toInt) := w_23
    have g_25 : Int64.toInt (1) = 1 := by decide
    have g_26 : Int64.toInt (60) = 60 := by decide
    refine lv_if_eq (tgt := 57) hx hb dX12_would_26 (by decide) (fun c_27 => ?_) (fun c_27 => ?_)
    · have c_27 := kc_eq rfl (by decide : Int32.toInt 0 = 0) c_27
      refine lv_ldcw hx hb hown (hts (.constant RX12 330 (-2147483648)) (List.mem_cons_of_mem _ (List.mem_append_left _ (List.mem_of_getElem? (i := 5) rfl)))) dX12_would_57 ?_
      exact W.iret (v := (-2147483648)) hx hb hr (fun t ht hW => ⟨⟨(-2147483648), (), rfl, trivial, ⟨f_7, k_ret ht hI, kp_9, 0, z1, z10, z12, z13, z14, z15, z16, z17, z18, z23, z24, z25, z26, q, u, im, kt, k_10, (by first | omega | decide), (by first | omega | decide), (by first | omega | decide), k_11, hc1_ok, k_12, k_13, k_14, hU⟩⟩, hS.F ht⟩) hS.2.2 dX12_would_60
    · have c_27 := kn_eq rfl (by decide : Int32.toInt 0 = 0) c_27
      refine lv_iload_n hx hb dX12_would_29 rfl (lv_at hl 3 rfl) ?_
      refine lv_i2l (v := p3.toInt64) hx hb dX12_would_30 rfl ?_
      have t_28 := Int32.toInt_toInt64 p3
      refine lv_lconst (v := 0) hx hb dX12_would_31 (by decide) ?_
      refine lv_ldc2 hx hb hown (hts (.constantLong RX12 124 (3)) (List.mem_cons_of_mem _ (List.mem_append_left _ (List.mem_of_getElem? (i := 7) rfl)))) dX12_would_32 ?_
      refine va_calli (va_runS (As := [.long p3.toInt64, .long 0, .long 3]) (rest := []) ⟨hx, hb, hml, hown, hts⟩ (c_X12_in l dC dI g A hG f_7 p3.toInt64 0 3) (va_cwS 3 hts (gi_S (fun w_ h0_ => ⟨List.mem_cons_of_mem _ (List.mem_append_right _ (List.mem_append_right _ (List.mem_append_left _ h0_))), (tb_c_X12_in w_ h0_).2⟩) (List.mem_cons_of_mem _ (List.mem_append_left _ (List.mem_of_getElem? (i := 2) rfl))) (List.mem_cons_of_mem _ (List.mem_append_left _ (List.mem_of_getElem? (i := 3) rfl))) (List.mem_cons_of_mem _ (List.mem_append_left _ (List.mem_of_getElem? (i := 4) rfl)))) rfl rfl rfl (by decide +kernel) ⟨Nat.le_of_ble_eq_true rfl, Nat.le_of_ble_eq_true rfl⟩) ⟨fun a U g mk q => ⟨q.1, q.2.calling rfl rfl⟩, fun U hU hW => ⟨rfl, kIn.of hI hK hE hS hU hW⟩⟩ rfl rfl hl.1 rfl (lv_room (Nat.le_of_ble_eq_true rfl)) dX12_would_35 ⟨Nat.le_of_ble_eq_true rfl, Nat.le_of_ble_eq_true rfl⟩) hS (fun q _ h => h) (fun q h => h) (fun r_30 u t H1 locs ht hvm w_29 hB hz1 hk1 hS => ?_)
      have hI : Iv dC dI g A f_7 t.heap := hB
      rw [ht] at hI
      generalize H1 = H at hI hS ⊢
      refine W.widen (k := 0) (n := 0) (Nat.le_of_ble_eq_true rfl) (Nat.le_of_ble_eq_true rfl) ?_
      have w_29 : (r_30.toInt = 0 ∧ (p3.toInt64.toInt < (0 : Int64).toInt ∨ (3 : Int64).toInt < p3.toInt64.toInt)) ∨ (r_30.toInt = 1 ∧ (0 : Int64).toInt ≤ p3.toInt64.toInt ∧ p3.toInt64.toInt ≤ (3 : Int64).toInt) := w_29
      have g_31 : Int64.toInt (0) = 0 := by decide
      have g_32 : Int64.toInt (3) = 3 := by decide
      refine lv_if_eq (tgt := 57) hx hb dX12_would_38 (by decide) (fun c_33 => ?_) (fun c_33 => ?_)
      · have c_33 := kc_eq rfl (by decide : Int32.toInt 0 = 0) c_33
        refine lv_ldcw hx hb hown (hts (.constant RX12 330 (-2147483648)) (List.mem_cons_of_mem _ (List.mem_append_left _ (List.mem_of_getElem? (i := 5) rfl)))) dX12_would_57 ?_
        exact W.iret (v := (-2147483648)) hx hb hr (fun t ht hW => ⟨⟨(-2147483648), (), rfl, trivial, ⟨f_7, k_ret ht hI, kp_9, 0, z1, z10, z12, z13, z14, z15, z16, z17, z18, z23, z24, z25, z26, q, u, im, kt, k_10, (by first | omega | decide), (by first | omega | decide), (by first | omega | decide), k_11, hc1_ok, k_12, k_13, k_14, hU⟩⟩, hS.F ht⟩) hS.2.2 dX12_would_60
      · have c_33 := kn_eq rfl (by decide : Int32.toInt 0 = 0) c_33
        refine lv_aload_n hx hb dX12_would_41 rfl (lv_at hl 0 rfl) ?_
        refine k_get (ci := 12) (v := .ref (gr g h0 4)) (C := RX12) (T := TX12) (N := 27) hx hb hts (fun _ h0_ => List.mem_cons_of_mem _ (List.mem_append_right _ (List.mem_append_left _ h0_))) hown hK hI i_h0.1 k_10 rfl 4 (by decide) (hts (.fieldLink RX12 16 "DeadlineShareModel" "row" "[J") (List.mem_cons_of_mem _ (List.mem_append_left _ (List.mem_of_getElem? (i := 8) rfl)))) (fun _ h9 => h9) rfl dX12_would_42 ?_
        refine lv_iconst (v := 1) hx hb dX12_would_45 (by decide) ?_
        refine k_lald hx hb hK hI i_1.1 1 k_11 rfl (by unfold vp_in; decide) dX12_would_46 ?_
        refine k_topl (y := q 1) (congrArg q (show Int32.toNatClampNeg 1 = 1 by decide)) ?_
        refine lv_iload_n hx hb dX12_would_47 rfl (lv_at hl 2 rfl) ?_
        refine lv_i2l (v := p2.toInt64) hx hb dX12_would_48 rfl ?_
        have t_36 := Int32.toInt_toInt64 p2
        refine lv_ladd hx hb dX12_would_49 ?_
        refine lv_topl (fun v_37 ev_37 => ?_)
        have tv_37 := l_ad (q 1) p2.toInt64
        rw [← ev_37] at tv_37
        refine lv_ldc2 hx hb hown (hts (.constantLong RX12 286 (9999)) (List.mem_cons_of_mem _ (List.mem_append_left _ (List.mem_of_getElem? (i := 9) rfl)))) dX12_would_50 ?_
        refine W.lcmp hx hb dX12_would_53 ?_
        refine lv_if_le (tgt := 61) hx hb dX12_would_54 (by decide) (fun c_38 => ?_) (fun c_38 => ?_)
        · have c_38 := lc_le rfl (by decide : Int64.toInt 9999 = 9999) ((lg_cmp_le _ _).mp c_38)
          refine lv_aload_n hx hb dX12_would_61 rfl (lv_at hl 0 rfl) ?_
          refine va_callv (va_runV (As := []) (rest := []) ⟨hx, hb, hml, hown, hts⟩ (c_X12_begin l dC dI g A hG f_7 h0 q pp i_h0 k_11 hc1_ok k_15) (cwV 0 hts (gi_V (fun w_ h0_ => ⟨List.mem_cons_of_mem _ (List.mem_append_right _ (List.mem_append_right _ (List.mem_append_right _ (List.mem_append_left _ h0_)))), (tb_c_X12_begin w_ h0_).2⟩) (List.mem_cons_of_mem _ (List.mem_append_left _ (List.mem_of_getElem? (i := 10) rfl))) (List.mem_cons_of_mem _ (List.mem_append_left _ (List.mem_of_getElem? (i := 11) rfl))) (List.mem_cons_of_mem _ (List.mem_append_left _ (List.mem_of_getElem? (i := 12) rfl))) (List.mem_cons_of_mem _ (List.mem_append_left _ (List.mem_of_getElem? (i := 4) rfl)))) rfl rfl rfl (by decide +kernel) ⟨Nat.le_of_ble_eq_true rfl, Nat.le_of_ble_eq_true rfl⟩) ⟨fun a U g mk q => ⟨q.1, q.2.calling rfl rfl⟩, k_recv hK hI i_h0.1 k_10 (ci := 12) rfl, fun U hU hW => ⟨rfl, kIn.of hI hK hE hS hU hW⟩⟩ rfl rfl hl.1 rfl (lv_room (Nat.le_of_ble_eq_true rfl)) dX12_would_62 ⟨Nat.le_of_ble_eq_true rfl, Nat.le_of_ble_eq_true rfl⟩) hS (fun q _ h => h) (fun q h => h) (fun u t H1 locs ht hvm _ hB hz1 hk1 hS => ?_)
          obtain ⟨f_39, hI, kc_41, pp1_42, k_43, z_44, z_45, z_46⟩ := hB
          rw [ht] at hI
          have k_47 : f_39 h0 = .inr (12, [.int 0, .int z1, .ref (gr g h0 2), .ref (gr g h0 3), .ref (gr g h0 4), .ref (gr g h0 5), .ref (gr g h0 6), .ref (gr g h0 7), .ref (gr g h0 8), .ref (gr g h0 9), .int z10, .ref (gr g h0 11), .int z12, .int z13, .int z14, .int z15, .long z16, .int z17, .int z18, .ref (gr g h0 19), .ref (gr g h0 20), .ref (gr g h0 21), .ref (gr g h0 22), .int z23, .long z24, .long z25, .long z26]) := Kp.at kc_41 i_h0 (by decide) k_10
          have k_48 : f_39 (gr g h0 4) = .inl (gc g 1, 906, .inr (.inl q)) := Kp.at kc_41 i_1 (by decide) k_11
          have k_49 : f_39 (gr g h0 5) = .inl (gc g 1, 9060, .inr (.inl u)) := Kp.at kc_41 i_3 (by decide) k_12
          have k_50 : f_39 (gr g h0 7) = .inl (gc g 1, 1812, .inr (.inl im)) := Kp.at kc_41 i_4 (by decide) k_13
          have k_51 : f_39 (gr g h0 8) = .inl (gc g 3, 2, .inl kt) := Kp.at kc_41 i_5 (by decide) k_14
          have z_44 : RowOK pp1_42 := z_44
          have d_52 := rk_hd z_44
          have z_45 : (pp1_42 0).toInt = (q 0).toInt := z_45
          have z_46 : (pp1_42 1).toInt = (q 1).toInt := z_46
          have kp_53 := Kp.call kp_9 kc_41 (by decide)
          generalize H1 = H at hI hS ⊢
          refine W.widen (k := 0) (n := 0) (Nat.le_of_ble_eq_true rfl) (Nat.le_of_ble_eq_true rfl) ?_
          refine lv_aload_n hx hb dX12_would_65 rfl (lv_at hl 0 rfl) ?_
          refine lv_aload_n hx hb dX12_would_66 rfl (lv_at hl 0 rfl) ?_
          refine k_get (ci := 12) (v := .ref (gr g h0 3)) (C := RX12) (T := TX12) (N := 27) hx hb hts (fun _ h0_ => List.mem_cons_of_mem _ (List.mem_append_right _ (List.mem_append_left _ h0_))) hown hK hI i_h0.1 k_47 rfl 3 (by decide) (hts (.fieldLink RX12 13 "DeadlineShareModel" "term" "[I") (List.mem_cons_of_mem _ (List.mem_append_left _ (List.mem_of_getElem? (i := 13) rfl)))) (fun _ h9 => h9) rfl dX12_would_67 ?_
          have i_55 := kw_12_3 hG i_h0
          refine lv_iconst (v := 2) hx hb dX12_would_70 (by decide) ?_
          obtain ⟨q_57, k_56⟩ := op_31 hI i_55
          refine k_iald hx hb hK hI i_55.1 0 k_56 rfl (by unfold vp_in; decide) dX12_would_71 ?_
          refine k_topi (y := q_57 2) (congrArg q_57 (show Int32.toNatClampNeg 2 = 2 by decide)) ?_
          refine lv_i2l (v := (q_57 2).toInt64) hx hb dX12_would_72 rfl ?_
          have t_58 := Int32.toInt_toInt64 (q_57 2)
          refine k_put (ci := 12) (v := .long ((q_57 2).toInt64)) (ty := .long) (C := RX12) (T := TX12) (N := 27) hx hb hts (fun _ h0_ => List.mem_cons_of_mem _ (List.mem_append_right _ (List.mem_append_left _ h0_))) tyX12 tyX12_ok nmX12 hown hK hI hS i_h0.1 k_47 rfl 24 (by decide) (hts (.fieldLink RX12 249 "DeadlineShareModel" "state" "J") (List.mem_cons_of_mem _ (List.mem_append_left _ (List.mem_of_getElem? (i := 14) rfl)))) (fun _ h9 => h9) rfl (by decide +kernel) rfl rfl (Nat.le_of_ble_eq_true rfl) rfl (cl_12 i_h0 (by omega) (by omega) (by omega)) dX12_would_73 (fun f_59 H locs e_60 hI hS => ?_)
          have k_62 : f_59 h0 = .inr (12, [.int 0, .int z1, .ref (gr g h0 2), .ref (gr g h0 3), .ref (gr g h0 4), .ref (gr g h0 5), .ref (gr g h0 6), .ref (gr g h0 7), .ref (gr g h0 8), .ref (gr g h0 9), .int z10, .ref (gr g h0 11), .int z12, .int z13, .int z14, .int z15, .long z16, .int z17, .int z18, .ref (gr g h0 19), .ref (gr g h0 20), .ref (gr g h0 21), .ref (gr g h0 22), .int z23, .long ((q_57 2).toInt64), .long z25, .long z26]) := by rw [e_60]; exact va_up_self _ _ _
          have k_63 : f_59 (gr g h0 4) = .inl (gc g 1, 906, .inr (.inl q)) := by rw [e_60, va_up_ne _ _ (ik_ne i_1 i_h0 (by decide))]; exact k_48
          have k_64 : f_59 (gr g h0 5) = .inl (gc g 1, 9060, .inr (.inl u)) := by rw [e_60, va_up_ne _ _ (ik_ne i_3 i_h0 (by decide))]; exact k_49
          have k_65 : f_59 (gr g h0 7) = .inl (gc g 1, 1812, .inr (.inl im)) := by rw [e_60, va_up_ne _ _ (ik_ne i_4 i_h0 (by decide))]; exact k_50
          have k_66 : f_59 (gr g h0 8) = .inl (gc g 3, 2, .inl kt) := by rw [e_60, va_up_ne _ _ (ik_ne i_5 i_h0 (by decide))]; exact k_51
          have k_67 : f_59 (gr g h0 6) = .inl (gc g 1, 906, .inr (.inl pp1_42)) := by rw [e_60, va_up_ne _ _ (ik_ne i_6 i_h0 (by decide))]; exact k_43
          have k_68 : f_59 (gr g h0 3) = .inl (gc g 0, 3, .inl q_57) := by rw [e_60, va_up_ne _ _ (ik_ne i_55 i_h0 (by decide))]; exact k_56
          have kp_61 := Kp.put kp_53 i_h0 (by decide) e_60
          refine lv_aload_n hx hb dX12_would_76 rfl (lv_at hl 0 rfl) ?_
          refine lv_lconst (v := 0) hx hb dX12_would_77 (by decide) ?_
          refine k_put (ci := 12) (v := .long 0) (ty := .long) (C := RX12) (T := TX12) (N := 27) hx hb hts (fun _ h0_ => List.mem_cons_of_mem _ (List.mem_append_right _ (List.mem_append_left _ h0_))) tyX12 tyX12_ok nmX12 hown hK hI hS i_h0.1 k_62 rfl 25 (by decide) (hts (.fieldLink RX12 322 "DeadlineShareModel" "most1" "J") (List.mem_cons_of_mem _ (List.mem_append_left _ (List.mem_of_getElem? (i := 15) rfl)))) (fun _ h9 => h9) rfl (by decide +kernel) rfl rfl (Nat.le_of_ble_eq_true rfl) rfl (cl_12 i_h0 (by omega) (by omega) (by omega)) dX12_would_78 (fun f_69 H locs e_70 hI hS => ?_)
          have k_72 : f_69 h0 = .inr (12, [.int 0, .int z1, .ref (gr g h0 2), .ref (gr g h0 3), .ref (gr g h0 4), .ref (gr g h0 5), .ref (gr g h0 6), .ref (gr g h0 7), .ref (gr g h0 8), .ref (gr g h0 9), .int z10, .ref (gr g h0 11), .int z12, .int z13, .int z14, .int z15, .long z16, .int z17, .int z18, .ref (gr g h0 19), .ref (gr g h0 20), .ref (gr g h0 21), .ref (gr g h0 22), .int z23, .long ((q_57 2).toInt64), .long 0, .long z26]) := by rw [e_70]; exact va_up_self _ _ _
          have k_73 : f_69 (gr g h0 4) = .inl (gc g 1, 906, .inr (.inl q)) := by rw [e_70, va_up_ne _ _ (ik_ne i_1 i_h0 (by decide))]; exact k_63
          have k_74 : f_69 (gr g h0 5) = .inl (gc g 1, 9060, .inr (.inl u)) := by rw [e_70, va_up_ne _ _ (ik_ne i_3 i_h0 (by decide))]; exact k_64
          have k_75 : f_69 (gr g h0 7) = .inl (gc g 1, 1812, .inr (.inl im)) := by rw [e_70, va_up_ne _ _ (ik_ne i_4 i_h0 (by decide))]; exact k_65
          have k_76 : f_69 (gr g h0 8) = .inl (gc g 3, 2, .inl kt) := by rw [e_70, va_up_ne _ _ (ik_ne i_5 i_h0 (by decide))]; exact k_66
          have k_77 : f_69 (gr g h0 6) = .inl (gc g 1, 906, .inr (.inl pp1_42)) := by rw [e_70, va_up_ne _ _ (ik_ne i_6 i_h0 (by decide))]; exact k_67
          have k_78 : f_69 (gr g h0 3) = .inl (gc g 0, 3, .inl q_57) := by rw [e_70, va_up_ne _ _ (ik_ne i_55 i_h0 (by decide))]; exact k_68
          have kp_71 := Kp.put kp_61 i_h0 (by decide) e_70
          refine lv_aload_n hx hb dX12_would_81 rfl (lv_at hl 0 rfl) ?_
          refine lv_lconst (v := 0) hx hb dX12_would_82 (by decide) ?_
          refine k_put (ci := 12) (v := .long 0) (ty := .long) (C := RX12) (T := TX12) (N := 27) hx hb hts (fun _ h0_ => List.mem_cons_of_mem _ (List.mem_append_right _ (List.mem_append_left _ h0_))) tyX12 tyX12_ok nmX12 hown hK hI hS i_h0.1 k_72 rfl 26 (by decide) (hts (.fieldLink RX12 325 "DeadlineShareModel" "least1" "J") (List.mem_cons_of_mem _ (List.mem_append_left _ (List.mem_of_getElem? (i := 16) rfl)))) (fun _ h9 => h9) rfl (by decide +kernel) rfl rfl (Nat.le_of_ble_eq_true rfl) rfl (cl_12 i_h0 (by omega) (by omega) (by omega)) dX12_would_83 (fun f_79 H locs e_80 hI hS => ?_)
          have k_82 : f_79 h0 = .inr (12, [.int 0, .int z1, .ref (gr g h0 2), .ref (gr g h0 3), .ref (gr g h0 4), .ref (gr g h0 5), .ref (gr g h0 6), .ref (gr g h0 7), .ref (gr g h0 8), .ref (gr g h0 9), .int z10, .ref (gr g h0 11), .int z12, .int z13, .int z14, .int z15, .long z16, .int z17, .int z18, .ref (gr g h0 19), .ref (gr g h0 20), .ref (gr g h0 21), .ref (gr g h0 22), .int z23, .long ((q_57 2).toInt64), .long 0, .long 0]) := by rw [e_80]; exact va_up_self _ _ _
          have k_83 : f_79 (gr g h0 4) = .inl (gc g 1, 906, .inr (.inl q)) := by rw [e_80, va_up_ne _ _ (ik_ne i_1 i_h0 (by decide))]; exact k_73
          have k_84 : f_79 (gr g h0 5) = .inl (gc g 1, 9060, .inr (.inl u)) := by rw [e_80, va_up_ne _ _ (ik_ne i_3 i_h0 (by decide))]; exact k_74
          have k_85 : f_79 (gr g h0 7) = .inl (gc g 1, 1812, .inr (.inl im)) := by rw [e_80, va_up_ne _ _ (ik_ne i_4 i_h0 (by decide))]; exact k_75
          have k_86 : f_79 (gr g h0 8) = .inl (gc g 3, 2, .inl kt) := by rw [e_80, va_up_ne _ _ (ik_ne i_5 i_h0 (by decide))]; exact k_76
          have k_87 : f_79 (gr g h0 6) = .inl (gc g 1, 906, .inr (.inl pp1_42)) := by rw [e_80, va_up_ne _ _ (ik_ne i_6 i_h0 (by decide))]; exact k_77
          have k_88 : f_79 (gr g h0 3) = .inl (gc g 0, 3, .inl q_57) := by rw [e_80, va_up_ne _ _ (ik_ne i_55 i_h0 (by decide))]; exact k_78
          have kp_81 := Kp.put kp_71 i_h0 (by decide) e_80
          refine lv_iconst (v := 0) hx hb dX12_would_86 (by decide) ?_
          refine lv_istore (lv' := [(4, .int 0), (0, .ref h0), (1, .int p1), (2, .int p2), (3, .int p3)]) hx hb dX12_would_87 hl (by decide) rfl (fun ls hl => ?_)
          refine lv_iconst (v := 0) hx hb dX12_would_89 (by decide) ?_
          refine lv_istore (lv' := [(5, .int 0), (4, .int 0), (0, .ref h0), (1, .int p1), (2, .int p2), (3, .int p3)]) hx hb dX12_would_90 hl (by decide) rfl (fun ls hl => ?_)
          refine lv_iconst (v := 0) hx hb dX12_would_92 (by decide) ?_
          refine lv_istore (lv' := [(6, .int 0), (5, .int 0), (4, .int 0), (0, .ref h0), (1, .int p1), (2, .int p2), (3, .int p3)]) hx hb dX12_would_93 hl (by decide) rfl (fun ls hl => ?_)
          have K_95 : ∀ (nn : Nat) (y_89 : Int32) (y_90 : Int32) (y_91 : Int32) (q_93 : Nat → Int64) (y_96 : Int64) (y_97 : Int64) (y_98 : Int64) (f_92 : Nat → va_E) (H : Heap) (locs : List Loc) (ls : Array Slot), (p2.toInt - y_89.toInt).toNat < nn → Iv dC dI g A f_92 H → va_S A s.heap H locs → f_92 (gr g h0 4) = .inl (gc g 1, 906, .inr (.inl q_93)) → RowOK q_93 → f_92 h0 = .inr (12, [.int 0, .int z1, .ref (gr g h0 2), .ref (gr g h0 3), .ref (gr g h0 4), .ref (gr g h0 5), .ref (gr g h0 6), .ref (gr g h0 7), .ref (gr g h0 8), .ref (gr g h0 9), .int z10, .ref (gr g h0 11), .int z12, .int z13, .int z14, .int z15, .long z16, .int z17, .int z18, .ref (gr g h0 19), .ref (gr g h0 20), .ref (gr g h0 21), .ref (gr g h0 22), .int z23, .long y_96, .long y_97, .long y_98]) → f_92 (gr g h0 5) = .inl (gc g 1, 9060, .inr (.inl u)) → f_92 (gr g h0 7) = .inl (gc g 1, 1812, .inr (.inl im)) → f_92 (gr g h0 8) = .inl (gc g 3, 2, .inl kt) → f_92 (gr g h0 6) = .inl (gc g 1, 906, .inr (.inl pp1_42)) → f_92 (gr g h0 3) = .inl (gc g 0, 3, .inl q_57) → Kp g [12, 32, 34] f f_92 → ((q_93 0).toInt = (q 0).toInt) → ((q_93 1).toInt = (q 1).toInt + y_89.toInt) → (0 ≤ y_89.toInt) → lv_has ls 10 [(6, .int y_89), (5, .int y_90), (4, .int y_91), (0, .ref h0), (1, .int p1), (2, .int p2), (3, .int p3)] → W p l e (headSpec wq_c_X12_would ({ frames := 8, cells := 0, slots := 0, locals := 187 } : Room)).room s m ([.ref h0, .int p1, .int p2, .int p3].toArray) below meth c H locs 0 0 (MQ below (va_Qi (fun (r : Int32) (_ : Unit) => True) (fun (_ : Unit) t => ∃ f1 : Nat → va_E, Iv dC dI g A f1 t.heap ∧ Kp g [12, 32, 34] f f1 ∧ ∃ (w0 : Int32) (w1 : Int32) (w10 : Int32) (w12 : Int32) (w13 : Int32) (w14 : Int32) (w15 : Int32) (w16 : Int64) (w17 : Int32) (w18 : Int32) (w23 : Int32) (w24 : Int64) (w25 : Int64) (w26 : Int64) (q1 : Nat → Int64) (u1 : Nat → Int64) (im1 : Nat → Int64) (ik1 : Nat → Int32), (f1 h0 = .inr (12, [.int w0, .int w1, .ref (gr g h0 2), .ref (gr g h0 3), .ref (gr g h0 4), .ref (gr g h0 5), .ref (gr g h0 6), .ref (gr g h0 7), .ref (gr g h0 8), .ref (gr g h0 9), .int w10, .ref (gr g h0 11), .int w12, .int w13, .int w14, .int w15, .long w16, .int w17, .int w18, .ref (gr g h0 19), .ref (gr g h0 20), .ref (gr g h0 21), .ref (gr g h0 22), .int w23, .long w24, .long w25, .long w26])) ∧ (0 ≤ w10.toInt ∧ w10.toInt ≤ 10) ∧ (0 ≤ w12.toInt ∧ w12.toInt ≤ 200) ∧ (0 ≤ w23.toInt ∧ w23.toInt ≤ 8) ∧ (f1 (gr g h0 4) = .inl (gc g 1, 906, .inr (.inl q1))) ∧ (RowOK q1) ∧ (f1 (gr g h0 5) = .inl (gc g 1, 9060, .inr (.inl u1))) ∧ (f1 (gr g h0 7) = .inl (gc g 1, 1812, .inr (.inl im1))) ∧ (f1 (gr g h0 8) = .inl (gc g 3, 2, .inl ik1)) ∧ (UIq w10 u1 im1 ik1)) A) ([.ref h0, .int p1, .int p2, .int p3].toArray) s 0 0 A) (F0 m 95 ls []) := by
            intro nn
            induction nn with
            | zero => intro y_89 y_90 y_91 q_93 y_96 y_97 y_98 f_92 H locs ls m_109; exact absurd m_109 (Nat.not_lt_zero _)
            | succ nn ih =>
              intro y_89 y_90 y_91 q_93 y_96 y_97 y_98 f_92 H locs ls m_109 hI hS k_94 ok_95 k_99 k_100 k_101 k_102 k_103 k_104 kp_105 t_106 t_107 t_108 hl
              have g_110 := Int32.toInt_lt p2
              have g_111 := Int32.le_toInt p2
              have g_112 := Int32.toInt_lt y_89
              have g_113 := Int32.le_toInt y_89
              have d_114 := rk_hd ok_95
              refine lv_iload hx hb dX12_would_95 (lv_at hl 0 rfl) ?_
              refine lv_iload_n hx hb dX12_would_97 rfl (lv_at hl 5 rfl) ?_
              refine lv_icmp_ge (tgt := 167) hx hb dX12_would_98 (by decide) (fun c_115 => ?_) (fun c_115 => ?_)
              · have c_115 := kc_le rfl rfl c_115
                refine lv_aload_n hx hb dX12_would_167 rfl (lv_at hl 3 rfl) ?_
                refine va_callv (va_runV (As := []) (rest := []) ⟨hx, hb, hml, hown, hts⟩ (c_X12_over l dC dI g A hG f_92 h0 q_93 pp1_42 i_h0 k_94 k_103 z_44) (cwV 0 hts (gi_V (fun w_ h0_ => ⟨List.mem_cons_of_mem _ (List.mem_append_right _ (List.mem_append_right _ (List.mem_append_right _ (List.mem_append_right _ (List.mem_append_left _ h0_))))), (tb_c_X12_over w_ h0_).2⟩) (List.mem_cons_of_mem _ (List.mem_append_left _ (List.mem_of_getElem? (i := 17) rfl))) (List.mem_cons_of_mem _ (List.mem_append_left _ (List.mem_of_getElem? (i := 18) rfl))) (List.mem_cons_of_mem _ (List.mem_append_left _ (List.mem_of_getElem? (i := 19) rfl))) (List.mem_cons_of_mem _ (List.mem_append_left _ (List.mem_of_getElem? (i := 4) rfl)))) rfl rfl rfl (by decide +kernel) ⟨Nat.le_of_ble_eq_true rfl, Nat.le_of_ble_eq_true rfl⟩) ⟨fun a U g mk q => ⟨q.1, q.2.calling rfl rfl⟩, k_recv hK hI i_h0.1 k_99 (ci := 12) rfl, fun U hU hW => ⟨rfl, kIn.of hI hK hE hS hU hW⟩⟩ rfl rfl hl.1 rfl (lv_room (Nat.le_of_ble_eq_true rfl)) dX12_would_168 ⟨Nat.le_of_ble_eq_true rfl, Nat.le_of_ble_eq_true rfl⟩) hS (fun q _ h => h) (fun q h => h) (fun u t H1 locs ht hvm _ hB hz1 hk1 hS => ?_)
                obtain ⟨f_116, hI, kc_118, q1_119, k_120, z_121, z_122, z_123⟩ := hB
                rw [ht] at hI
                have k_124 : f_116 h0 = .inr (12, [.int 0, .int z1, .ref (gr g h0 2), .ref (gr g h0 3), .ref (gr g h0 4), .ref (gr g h0 5), .ref (gr g h0 6), .ref (gr g h0 7), .ref (gr g h0 8), .ref (gr g h0 9), .int z10, .ref (gr g h0 11), .int z12, .int z13, .int z14, .int z15, .long z16, .int z17, .int z18, .ref (gr g h0 19), .ref (gr g h0 20), .ref (gr g h0 21), .ref (gr g h0 22), .int z23, .long y_96, .long y_97, .long y_98]) := Kp.at kc_118 i_h0 (by decide) k_99
                have k_125 : f_116 (gr g h0 5) = .inl (gc g 1, 9060, .inr (.inl u)) := Kp.at kc_118 i_3 (by decide) k_100
                have k_126 : f_116 (gr g h0 7) = .inl (gc g 1, 1812, .inr (.inl im)) := Kp.at kc_118 i_4 (by decide) k_101
                have k_127 : f_116 (gr g h0 8) = .inl (gc g 3, 2, .inl kt) := Kp.at kc_118 i_5 (by decide) k_102
                have k_128 : f_116 (gr g h0 6) = .inl (gc g 1, 906, .inr (.inl pp1_42)) := Kp.at kc_118 i_6 (by decide) k_103
                have k_129 : f_116 (gr g h0 3) = .inl (gc g 0, 3, .inl q_57) := Kp.at kc_118 i_55 (by decide) k_104
                have z_121 : RowOK q1_119 := z_121
                have d_130 := rk_hd z_121
                have z_122 : (q1_119 0).toInt = (pp1_42 0).toInt := z_122
                have z_123 : (q1_119 1).toInt = (pp1_42 1).toInt := z_123
                have kp_131 := Kp.call kp_105 kc_118 (by decide)
                generalize H1 = H at hI hS ⊢
                refine W.widen (k := 0) (n := 0) (Nat.le_of_ble_eq_true rfl) (Nat.le_of_ble_eq_true rfl) ?_
                refine lv_iload_n hx hb dX12_would_171 rfl (lv_at hl 6 rfl) ?_
                refine lv_if_ne (tgt := 183) hx hb dX12_would_172 (by decide) (fun c_132 => ?_) (fun c_132 => ?_)
                · have c_132 := kn_eq rfl (by decide : Int32.toInt 0 = 0) c_132
                  refine lv_iload_n hx hb dX12_would_183 rfl (lv_at hl 6 rfl) ?_
                  refine lv_iconst (v := 1) hx hb dX12_would_184 (by decide) ?_
                  refine lv_icmp_ne (tgt := 196) hx hb dX12_would_185 (by decide) (fun c_133 => ?_) (fun c_133 => ?_)
                  · have c_133 := kn_eq rfl (by decide : Int32.toInt 1 = 1) c_133
                    refine lv_iload_n hx hb dX12_would_196 rfl (lv_at hl 6 rfl) ?_
                    refine lv_iconst (v := 2) hx hb dX12_would_197 (by decide) ?_
                    refine lv_icmp_ne (tgt := 206) hx hb dX12_would_198 (by decide) (fun c_134 => ?_) (fun c_134 => ?_)
                    · have c_134 := kn_eq rfl (by decide : Int32.toInt 2 = 2) c_134
                      refine lv_iload hx hb dX12_would_206 (lv_at hl 1 rfl) ?_
                      exact W.iret (v := y_90) hx hb hr (fun t ht hW => ⟨⟨y_90, (), rfl, trivial, ⟨f_116, k_ret ht hI, kp_131, 0, z1, z10, z12, z13, z14, z15, z16, z17, z18, z23, y_96, y_97, y_98, q1_119, u, im, kt, k_124, (by first | omega | decide), (by first | omega | decide), (by first | omega | decide), k_120, z_121, k_125, k_126, k_127, hU⟩⟩, hS.F ht⟩) hS.2.2 dX12_would_208
                    · have c_134 := kc_eq rfl (by decide : Int32.toInt 2 = 2) c_134
                      refine lv_iload hx hb dX12_would_201 (lv_at hl 2 rfl) ?_
                      refine lv_goto (tgt := 208) hx hb dX12_would_203 (by decide) ?_
                      exact W.iret (v := y_91) hx hb hr (fun t ht hW => ⟨⟨y_91, (), rfl, trivial, ⟨f_116, k_ret ht hI, kp_131, 0, z1, z10, z12, z13, z14, z15, z16, z17, z18, z23, y_96, y_97, y_98, q1_119, u, im, kt, k_124, (by first | omega | decide), (by first | omega | decide), (by first | omega | decide), k_120, z_121, k_125, k_126, k_127, hU⟩⟩, hS.F ht⟩) hS.2.2 dX12_would_208
                  · have c_133 := kc_eq rfl (by decide : Int32.toInt 1 = 1) c_133
                    refine lv_aload_n hx hb dX12_would_188 rfl (lv_at hl 3 rfl) ?_
                    refine k_get (ci := 12) (v := .long y_98) (C := RX12) (T := TX12) (N := 27) hx hb hts (fun _ h0_ => List.mem_cons_of_mem _ (List.mem_append_right _ (List.mem_append_left _ h0_))) hown hK hI i_h0.1 k_124 rfl 26 (by decide) (hts (.fieldLink RX12 325 "DeadlineShareModel" "least1" "J") (List.mem_cons_of_mem _ (List.mem_append_left _ (List.mem_of_getElem? (i := 16) rfl)))) (fun _ h9 => h9) rfl dX12_would_189 ?_
                    refine lv_l2i (v := y_98.toInt32) hx hb dX12_would_192 rfl ?_
                    refine lv_topi (fun v_135 ev_135 => ?_)
                    have tv_135 := k_l2i y_98
                    rw [← ev_135] at tv_135
                    refine lv_goto (tgt := 208) hx hb dX12_would_193 (by decide) ?_
                    exact W.iret (v := v_135) hx hb hr (fun t ht hW => ⟨⟨v_135, (), rfl, trivial, ⟨f_116, k_ret ht hI, kp_131, 0, z1, z10, z12, z13, z14, z15, z16, z17, z18, z23, y_96, y_97, y_98, q1_119, u, im, kt, k_124, (by first | omega | decide), (by first | omega | decide), (by first | omega | decide), k_120, z_121, k_125, k_126, k_127, hU⟩⟩, hS.F ht⟩) hS.2.2 dX12_would_208
                · have c_132 := kc_eq rfl (by decide : Int32.toInt 0 = 0) c_132
                  refine lv_aload_n hx hb dX12_would_175 rfl (lv_at hl 3 rfl) ?_
                  refine k_get (ci := 12) (v := .long y_97) (C := RX12) (T := TX12) (N := 27) hx hb hts (fun _ h0_ => List.mem_cons_of_mem _ (List.mem_append_right _ (List.mem_append_left _ h0_))) hown hK hI i_h0.1 k_124 rfl 25 (by decide) (hts (.fieldLink RX12 322 "DeadlineShareModel" "most1" "J") (List.mem_cons_of_mem _ (List.mem_append_left _ (List.mem_of_getElem? (i := 15) rfl)))) (fun _ h9 => h9) rfl dX12_would_176 ?_
                  refine lv_l2i (v := y_97.toInt32) hx hb dX12_would_179 rfl ?_
                  refine lv_topi (fun v_136 ev_136 => ?_)
                  have tv_136 := k_l2i y_97
                  rw [← ev_136] at tv_136
                  refine lv_goto (tgt := 208) hx hb dX12_would_180 (by decide) ?_
                  exact W.iret (v := v_136) hx hb hr (fun t ht hW => ⟨⟨v_136, (), rfl, trivial, ⟨f_116, k_ret ht hI, kp_131, 0, z1, z10, z12, z13, z14, z15, z16, z17, z18, z23, y_96, y_97, y_98, q1_119, u, im, kt, k_124, (by first | omega | decide), (by first | omega | decide), (by first | omega | decide), k_120, z_121, k_125, k_126, k_127, hU⟩⟩, hS.F ht⟩) hS.2.2 dX12_would_208
              · have c_115 := kn_le rfl rfl c_115
                refine lv_aload_n hx hb dX12_would_101 rfl (lv_at hl 3 rfl) ?_
                refine k_get (ci := 12) (v := .ref (gr g h0 4)) (C := RX12) (T := TX12) (N := 27) hx hb hts (fun _ h0_ => List.mem_cons_of_mem _ (List.mem_append_right _ (List.mem_append_left _ h0_))) hown hK hI i_h0.1 k_99 rfl 4 (by decide) (hts (.fieldLink RX12 16 "DeadlineShareModel" "row" "[J") (List.mem_cons_of_mem _ (List.mem_append_left _ (List.mem_of_getElem? (i := 8) rfl)))) (fun _ h9 => h9) rfl dX12_would_102 ?_
                refine lv_iconst (v := 3) hx hb dX12_would_105 (by decide) ?_
                refine k_lald hx hb hK hI i_1.1 1 k_94 rfl (by unfold vp_in; decide) dX12_would_106 ?_
                refine k_topl (y := q_93 3) (congrArg q_93 (show Int32.toNatClampNeg 3 = 3 by decide)) ?_
                refine lv_lstore (lv' := [(7, .long (q_93 3)), (6, .int y_89), (5, .int y_90), (4, .int y_91), (0, .ref h0), (1, .int p1), (2, .int p2), (3, .int p3)]) hx hb dX12_would_107 hl (by decide) rfl (fun ls hl => ?_)
                refine lv_aload_n hx hb dX12_would_109 rfl (lv_at hl 4 rfl) ?_
                refine lv_iload_n hx hb dX12_would_110 rfl (lv_at hl 5 rfl) ?_
                refine va_calli (va_runV (As := [.int p1]) (rest := []) ⟨hx, hb, hml, hown, hts⟩ (c_X12_tick l dC dI g A hG f_92 h0 p1 0 z1 z10 z12 z13 z14 z15 z16 z17 z18 z23 y_96 y_97 y_98 q_93 i_h0 k_99 (by first | omega | (simp only [k_c0]; omega)) (by first | omega | (simp only [k_c0]; omega)) (by first | omega | (simp only [k_c0]; omega)) k_94 ok_95 (by first | omega | decide | (simp only [k_c0, k_c1, k_cm1]; omega))) (cwV 1 hts (gi_V (fun w_ h0_ => ⟨List.mem_cons_of_mem _ (List.mem_append_right _ (List.mem_append_right _ (List.mem_append_right _ (List.mem_append_right _ (List.mem_append_right _ (List.mem_append_left _ h0_)))))), (tb_c_X12_tick w_ h0_).2⟩) (List.mem_cons_of_mem _ (List.mem_append_left _ (List.mem_of_getElem? (i := 20) rfl))) (List.mem_cons_of_mem _ (List.mem_append_left _ (List.mem_of_getElem? (i := 21) rfl))) (List.mem_cons_of_mem _ (List.mem_append_left _ (List.mem_of_getElem? (i := 22) rfl))) (List.mem_cons_of_mem _ (List.mem_append_left _ (List.mem_of_getElem? (i := 4) rfl)))) rfl rfl rfl (by decide +kernel) ⟨Nat.le_of_ble_eq_true rfl, Nat.le_of_ble_eq_true rfl⟩) ⟨fun a U g mk q => ⟨q.1, q.2.calling rfl rfl⟩, k_recv hK hI i_h0.1 k_99 (ci := 12) rfl, fun U hU hW => ⟨rfl, kIn.of hI hK hE hS hU hW⟩⟩ rfl rfl hl.1 rfl (lv_room (Nat.le_of_ble_eq_true rfl)) dX12_would_111 ⟨Nat.le_of_ble_eq_true rfl, Nat.le_of_ble_eq_true rfl⟩) hS (fun q _ h => h) (fun q h => h) (fun r_141 u t H1 locs ht hvm w_140 hB hz1 hk1 hS => ?_)
                obtain ⟨f_139, hI, kc_142, w24_143, q1_144, k_145, k_146, z_147, z_148, z_149⟩ := hB
                rw [ht] at hI
                have k_150 : f_139 (gr g h0 5) = .inl (gc g 1, 9060, .inr (.inl u)) := Kp.at kc_142 i_3 (by decide) k_100
                have k_151 : f_139 (gr g h0 7) = .inl (gc g 1, 1812, .inr (.inl im)) := Kp.at kc_142 i_4 (by decide) k_101
                have k_152 : f_139 (gr g h0 8) = .inl (gc g 3, 2, .inl kt) := Kp.at kc_142 i_5 (by decide) k_102
                have k_153 : f_139 (gr g h0 6) = .inl (gc g 1, 906, .inr (.inl pp1_42)) := Kp.at kc_142 i_6 (by decide) k_103
                have k_154 : f_139 (gr g h0 3) = .inl (gc g 0, 3, .inl q_57) := Kp.at kc_142 i_55 (by decide) k_104
                have k_145 : f_139 h0 = .inr (12, [.int (0 : Int32), .int z1, .ref (gr g h0 2), .ref (gr g h0 3), .ref (gr g h0 4), .ref (gr g h0 5), .ref (gr g h0 6), .ref (gr g h0 7), .ref (gr g h0 8), .ref (gr g h0 9), .int z10, .ref (gr g h0 11), .int z12, .int z13, .int z14, .int z15, .long z16, .int z17, .int z18, .ref (gr g h0 19), .ref (gr g h0 20), .ref (gr g h0 21), .ref (gr g h0 22), .int z23, .long w24_143, .long y_97, .long y_98]) := k_145
                have z_147 : RowOK q1_144 := z_147
                have d_155 := rk_hd z_147
                have z_148 : (q1_144 0).toInt = (q_93 0).toInt := z_148
                have z_149 : (q1_144 1).toInt = (q_93 1).toInt + 1 := z_149
                have kp_156 := Kp.call kp_105 kc_142 (by decide)
                generalize H1 = H at hI hS ⊢
                refine W.widen (k := 0) (n := 0) (Nat.le_of_ble_eq_true rfl) (Nat.le_of_ble_eq_true rfl) ?_
                have w_140 : -1 ≤ r_141.toInt ∧ r_141.toInt < (q_93 0).toInt := w_140
                refine lv_istore (lv' := [(9, .int r_141), (7, .long (q_93 3)), (6, .int y_89), (5, .int y_90), (4, .int y_91), (0, .ref h0), (1, .int p1), (2, .int p2), (3, .int p3)]) hx hb dX12_would_114 hl (by decide) rfl (fun ls hl => ?_)
                refine lv_iload hx hb dX12_would_116 (lv_at hl 3 rfl) ?_
                refine lv_iload hx hb dX12_would_118 (lv_at hl 0 rfl) ?_
                refine lv_iconst (v := (-1)) hx hb dX12_would_120 (by decide) ?_
                have J_129 : ∀ (y_157 : Int32) (H : Heap) (locs : List Loc) (ls : Array Slot), Iv dC dI g A f_139 H → va_S A s.heap H locs → lv_has ls 10 [(9, .int r_141), (7, .long (q_93 3)), (6, .int y_89), (5, .int y_90), (4, .int y_91), (0, .ref h0), (1, .int p1), (2, .int p2), (3, .int p3)] → W p l e (headSpec wq_c_X12_would ({ frames := 8, cells := 0, slots := 0, locals := 187 } : Room)).room s m ([.ref h0, .int p1, .int p2, .int p3].toArray) below meth c H locs 0 0 (MQ below (va_Qi (fun (r : Int32) (_ : Unit) => True) (fun (_ : Unit) t => ∃ f1 : Nat → va_E, Iv dC dI g A f1 t.heap ∧ Kp g [12, 32, 34] f f1 ∧ ∃ (w0 : Int32) (w1 : Int32) (w10 : Int32) (w12 : Int32) (w13 : Int32) (w14 : Int32) (w15 : Int32) (w16 : Int64) (w17 : Int32) (w18 : Int32) (w23 : Int32) (w24 : Int64) (w25 : Int64) (w26 : Int64) (q1 : Nat → Int64) (u1 : Nat → Int64) (im1 : Nat → Int64) (ik1 : Nat → Int32), (f1 h0 = .inr (12, [.int w0, .int w1, .ref (gr g h0 2), .ref (gr g h0 3), .ref (gr g h0 4), .ref (gr g h0 5), .ref (gr g h0 6), .ref (gr g h0 7), .ref (gr g h0 8), .ref (gr g h0 9), .int w10, .ref (gr g h0 11), .int w12, .int w13, .int w14, .int w15, .long w16, .int w17, .int w18, .ref (gr g h0 19), .ref (gr g h0 20), .ref (gr g h0 21), .ref (gr g h0 22), .int w23, .long w24, .long w25, .long w26])) ∧ (0 ≤ w10.toInt ∧ w10.toInt ≤ 10) ∧ (0 ≤ w12.toInt ∧ w12.toInt ≤ 200) ∧ (0 ≤ w23.toInt ∧ w23.toInt ≤ 8) ∧ (f1 (gr g h0 4) = .inl (gc g 1, 906, .inr (.inl q1))) ∧ (RowOK q1) ∧ (f1 (gr g h0 5) = .inl (gc g 1, 9060, .inr (.inl u1))) ∧ (f1 (gr g h0 7) = .inl (gc g 1, 1812, .inr (.inl im1))) ∧ (f1 (gr g h0 8) = .inl (gc g 3, 2, .inl ik1)) ∧ (UIq w10 u1 im1 ik1)) A) ([.ref h0, .int p1, .int p2, .int p3].toArray) s 0 0 A) (F0 m 129 ls [.int y_157, .int y_90]) := by
                  intro y_157 H locs ls hI hS  hl
                  refine lv_iadd hx hb dX12_would_129 ?_
                  refine lv_topi (fun v_158 ev_158 => ?_)
                  have tv_158 := k_ad y_90 y_157
                  rw [← ev_158] at tv_158
                  refine lv_istore (lv' := [(5, .int v_158), (9, .int r_141), (7, .long (q_93 3)), (6, .int y_89), (4, .int y_91), (0, .ref h0), (1, .int p1), (2, .int p2), (3, .int p3)]) hx hb dX12_would_130 hl (by decide) rfl (fun ls hl => ?_)
                  refine lv_iload hx hb dX12_would_132 (lv_at hl 4 rfl) ?_
                  refine lv_iload hx hb dX12_would_134 (lv_at hl 1 rfl) ?_
                  refine lv_iconst (v := (-1)) hx hb dX12_would_136 (by decide) ?_
                  have J_154 : ∀ (y_159 : Int32) (H : Heap) (locs : List Loc) (ls : Array Slot), Iv dC dI g A f_139 H → va_S A s.heap H locs → lv_has ls 10 [(5, .int v_158), (9, .int r_141), (7, .long (q_93 3)), (6, .int y_89), (4, .int y_91), (0, .ref h0), (1, .int p1), (2, .int p2), (3, .int p3)] → W p l e (headSpec wq_c_X12_would ({ frames := 8, cells := 0, slots := 0, locals := 187 } : Room)).room s m ([.ref h0, .int p1, .int p2, .int p3].toArray) below meth c H locs 0 0 (MQ below (va_Qi (fun (r : Int32) (_ : Unit) => True) (fun (_ : Unit) t => ∃ f1 : Nat → va_E, Iv dC dI g A f1 t.heap ∧ Kp g [12, 32, 34] f f1 ∧ ∃ (w0 : Int32) (w1 : Int32) (w10 : Int32) (w12 : Int32) (w13 : Int32) (w14 : Int32) (w15 : Int32) (w16 : Int64) (w17 : Int32) (w18 : Int32) (w23 : Int32) (w24 : Int64) (w25 : Int64) (w26 : Int64) (q1 : Nat → Int64) (u1 : Nat → Int64) (im1 : Nat → Int64) (ik1 : Nat → Int32), (f1 h0 = .inr (12, [.int w0, .int w1, .ref (gr g h0 2), .ref (gr g h0 3), .ref (gr g h0 4), .ref (gr g h0 5), .ref (gr g h0 6), .ref (gr g h0 7), .ref (gr g h0 8), .ref (gr g h0 9), .int w10, .ref (gr g h0 11), .int w12, .int w13, .int w14, .int w15, .long w16, .int w17, .int w18, .ref (gr g h0 19), .ref (gr g h0 20), .ref (gr g h0 21), .ref (gr g h0 22), .int w23, .long w24, .long w25, .long w26])) ∧ (0 ≤ w10.toInt ∧ w10.toInt ≤ 10) ∧ (0 ≤ w12.toInt ∧ w12.toInt ≤ 200) ∧ (0 ≤ w23.toInt ∧ w23.toInt ≤ 8) ∧ (f1 (gr g h0 4) = .inl (gc g 1, 906, .inr (.inl q1))) ∧ (RowOK q1) ∧ (f1 (gr g h0 5) = .inl (gc g 1, 9060, .inr (.inl u1))) ∧ (f1 (gr g h0 7) = .inl (gc g 1, 1812, .inr (.inl im1))) ∧ (f1 (gr g h0 8) = .inl (gc g 3, 2, .inl ik1)) ∧ (UIq w10 u1 im1 ik1)) A) ([.ref h0, .int p1, .int p2, .int p3].toArray) s 0 0 A) (F0 m 154 ls [.int y_159, .int y_91]) := by
                    intro y_159 H locs ls hI hS  hl
                    refine lv_iadd hx hb dX12_would_154 ?_
                    refine lv_topi (fun v_160 ev_160 => ?_)
                    have tv_160 := k_ad y_91 y_159
                    rw [← ev_160] at tv_160
                    refine lv_istore (lv' := [(4, .int v_160), (5, .int v_158), (9, .int r_141), (7, .long (q_93 3)), (6, .int y_89), (0, .ref h0), (1, .int p1), (2, .int p2), (3, .int p3)]) hx hb dX12_would_155 hl (by decide) rfl (fun ls hl => ?_)
                    refine lv_aload_n hx hb dX12_would_157 rfl (lv_at hl 5 rfl) ?_
                    refine va_callv (va_runV (As := []) (rest := []) ⟨hx, hb, hml, hown, hts⟩ (c_X12_lookAtLags l dC dI g A hG f_139 h0 (0 : Int32) z1 z10 z12 z13 z14 z15 z16 z17 z18 z23 w24_143 y_97 y_98 q1_144 i_h0 k_145 (by first | omega | (simp only [k_c0]; omega)) (by first | omega | (simp only [k_c0]; omega)) (by first | omega | (simp only [k_c0]; omega)) k_146 z_147) (cwV 0 hts (gi_V (fun w_ h0_ => ⟨List.mem_cons_of_mem _ (List.mem_append_right _ (List.mem_append_right _ (List.mem_append_right _ (List.mem_append_right _ (List.mem_append_right _ (List.mem_append_right _ (List.mem_append_left _ h0_))))))), (tb_c_X12_lookAtLags w_ h0_).2⟩) (List.mem_cons_of_mem _ (List.mem_append_left _ (List.mem_of_getElem? (i := 23) rfl))) (List.mem_cons_of_mem _ (List.mem_append_left _ (List.mem_of_getElem? (i := 24) rfl))) (List.mem_cons_of_mem _ (List.mem_append_left _ (List.mem_of_getElem? (i := 25) rfl))) (List.mem_cons_of_mem _ (List.mem_append_left _ (List.mem_of_getElem? (i := 4) rfl)))) rfl rfl rfl (by decide +kernel) ⟨Nat.le_of_ble_eq_true rfl, Nat.le_of_ble_eq_true rfl⟩) ⟨fun a U g mk q => ⟨q.1, q.2.calling rfl rfl⟩, k_recv hK hI i_h0.1 k_145 (ci := 12) rfl, fun U hU hW => ⟨rfl, kIn.of hI hK hE hS hU hW⟩⟩ rfl rfl hl.1 rfl (lv_room (Nat.le_of_ble_eq_true rfl)) dX12_would_158 ⟨Nat.le_of_ble_eq_true rfl, Nat.le_of_ble_eq_true rfl⟩) hS (fun q _ h => h) (fun q h => h) (fun u t H1 locs ht hvm _ hB hz1 hk1 hS => ?_)
                    obtain ⟨f_161, hI, kc_163, w25_164, w26_165, k_166⟩ := hB
                    rw [ht] at hI
                    have k_167 : f_161 (gr g h0 5) = .inl (gc g 1, 9060, .inr (.inl u)) := Kp.at kc_163 i_3 (by decide) k_150
                    have k_168 : f_161 (gr g h0 7) = .inl (gc g 1, 1812, .inr (.inl im)) := Kp.at kc_163 i_4 (by decide) k_151
                    have k_169 : f_161 (gr g h0 8) = .inl (gc g 3, 2, .inl kt) := Kp.at kc_163 i_5 (by decide) k_152
                    have k_170 : f_161 (gr g h0 6) = .inl (gc g 1, 906, .inr (.inl pp1_42)) := Kp.at kc_163 i_6 (by decide) k_153
                    have k_171 : f_161 (gr g h0 3) = .inl (gc g 0, 3, .inl q_57) := Kp.at kc_163 i_55 (by decide) k_154
                    have k_172 : f_161 (gr g h0 4) = .inl (gc g 1, 906, .inr (.inl q1_144)) := Kp.at kc_163 i_1 (by decide) k_146
                    have k_166 : f_161 h0 = .inr (12, [.int (0 : Int32), .int z1, .ref (gr g h0 2), .ref (gr g h0 3), .ref (gr g h0 4), .ref (gr g h0 5), .ref (gr g h0 6), .ref (gr g h0 7), .ref (gr g h0 8), .ref (gr g h0 9), .int z10, .ref (gr g h0 11), .int z12, .int z13, .int z14, .int z15, .long z16, .int z17, .int z18, .ref (gr g h0 19), .ref (gr g h0 20), .ref (gr g h0 21), .ref (gr g h0 22), .int z23, .long w24_143, .long w25_164, .long w26_165]) := k_166
                    have kp_173 := Kp.call kp_156 kc_163 (by decide)
                    generalize H1 = H at hI hS ⊢
                    refine W.widen (k := 0) (n := 0) (Nat.le_of_ble_eq_true rfl) (Nat.le_of_ble_eq_true rfl) ?_
                    obtain ⟨v_174, ev_174⟩ : ∃ y : Int32, y = y_89 + Int32.ofInt 1 := ⟨_, rfl⟩
                    refine lv_iinc (v := v_174) (lv' := [(6, .int v_174), (4, .int v_160), (5, .int v_158), (9, .int r_141), (7, .long (q_93 3)), (0, .ref h0), (1, .int p1), (2, .int p2), (3, .int p3)]) hx hb dX12_would_161 hl (k := 4) rfl ev_174.symm (by decide) rfl (fun ls hl => ?_)
                    have tv_174 := k_inc y_89
                    rw [← ev_174] at tv_174
                    refine lv_goto (tgt := 95) hx hb dX12_would_164 (by decide) ?_
                    exact ih v_174 v_158 v_160 q1_144 w24_143 w25_164 w26_165 f_161 _ _ _ (by omega) hI hS k_172 z_147 k_166 k_167 k_168 k_169 k_170 k_171 kp_173 (by first | omega | decide) (by first | omega | decide) (by first | omega | decide) (lv_sub hl [0, 2, 1, 5, 6, 7, 8] rfl)
                  have J_153 : ∀ (H : Heap) (locs : List Loc) (ls : Array Slot), Iv dC dI g A f_139 H → va_S A s.heap H locs → lv_has ls 10 [(5, .int v_158), (9, .int r_141), (7, .long (q_93 3)), (6, .int y_89), (4, .int y_91), (0, .ref h0), (1, .int p1), (2, .int p2), (3, .int p3)] → W p l e (headSpec wq_c_X12_would ({ frames := 8, cells := 0, slots := 0, locals := 187 } : Room)).room s m ([.ref h0, .int p1, .int p2, .int p3].toArray) below meth c H locs 0 0 (MQ below (va_Qi (fun (r : Int32) (_ : Unit) => True) (fun (_ : Unit) t => ∃ f1 : Nat → va_E, Iv dC dI g A f1 t.heap ∧ Kp g [12, 32, 34] f f1 ∧ ∃ (w0 : Int32) (w1 : Int32) (w10 : Int32) (w12 : Int32) (w13 : Int32) (w14 : Int32) (w15 : Int32) (w16 : Int64) (w17 : Int32) (w18 : Int32) (w23 : Int32) (w24 : Int64) (w25 : Int64) (w26 : Int64) (q1 : Nat → Int64) (u1 : Nat → Int64) (im1 : Nat → Int64) (ik1 : Nat → Int32), (f1 h0 = .inr (12, [.int w0, .int w1, .ref (gr g h0 2), .ref (gr g h0 3), .ref (gr g h0 4), .ref (gr g h0 5), .ref (gr g h0 6), .ref (gr g h0 7), .ref (gr g h0 8), .ref (gr g h0 9), .int w10, .ref (gr g h0 11), .int w12, .int w13, .int w14, .int w15, .long w16, .int w17, .int w18, .ref (gr g h0 19), .ref (gr g h0 20), .ref (gr g h0 21), .ref (gr g h0 22), .int w23, .long w24, .long w25, .long w26])) ∧ (0 ≤ w10.toInt ∧ w10.toInt ≤ 10) ∧ (0 ≤ w12.toInt ∧ w12.toInt ≤ 200) ∧ (0 ≤ w23.toInt ∧ w23.toInt ≤ 8) ∧ (f1 (gr g h0 4) = .inl (gc g 1, 906, .inr (.inl q1))) ∧ (RowOK q1) ∧ (f1 (gr g h0 5) = .inl (gc g 1, 9060, .inr (.inl u1))) ∧ (f1 (gr g h0 7) = .inl (gc g 1, 1812, .inr (.inl im1))) ∧ (f1 (gr g h0 8) = .inl (gc g 3, 2, .inl ik1)) ∧ (UIq w10 u1 im1 ik1)) A) ([.ref h0, .int p1, .int p2, .int p3].toArray) s 0 0 A) (F0 m 153 ls [.int y_91]) := by
                    intro H locs ls hI hS  hl
                    refine lv_iconst (v := 0) hx hb dX12_would_153 (by decide) ?_
                    exact J_154 0 _ _ _ hI hS  (lv_sub hl [0, 1, 2, 3, 4, 5, 6, 7, 8] rfl)
                  refine lv_icmp_eq (tgt := 153) hx hb dX12_would_137 (by decide) (fun c_175 => ?_) (fun c_175 => ?_)
                  · have c_175 := kc_eq rfl (by decide : Int32.toInt (-1) = (-1)) c_175
                    exact J_153  _ _ _ hI hS  (lv_sub hl [0, 1, 2, 3, 4, 5, 6, 7, 8] rfl)
                  · have c_175 := kn_eq rfl (by decide : Int32.toInt (-1) = (-1)) c_175
                    refine lv_lload hx hb dX12_would_140 (lv_at hl 2 rfl) ?_
                    refine lv_iload hx hb dX12_would_142 (lv_at hl 1 rfl) ?_
                    refine lv_i2l (v := r_141.toInt64) hx hb dX12_would_144 rfl ?_
                    have t_176 := Int32.toInt_toInt64 r_141
                    refine W.lcmp hx hb dX12_would_145 ?_
                    refine lv_if_eq (tgt := 153) hx hb dX12_would_146 (by decide) (fun c_177 => ?_) (fun c_177 => ?_)
                    · have c_177 := lc_eq rfl rfl ((lg_cmp_eq _ _).mp c_177)
                      exact J_153  _ _ _ hI hS  (lv_sub hl [0, 1, 2, 3, 4, 5, 6, 7, 8] rfl)
                    · have c_177 := ln_eq rfl rfl (fun h9 => c_177 ((lg_cmp_eq _ _).mpr h9))
                      refine lv_iconst (v := 1) hx hb dX12_would_149 (by decide) ?_
                      refine lv_goto (tgt := 154) hx hb dX12_would_150 (by decide) ?_
                      exact J_154 1 _ _ _ hI hS  (lv_sub hl [0, 1, 2, 3, 4, 5, 6, 7, 8] rfl)
                refine lv_icmp_ne (tgt := 128) hx hb dX12_would_121 (by decide) (fun c_178 => ?_) (fun c_178 => ?_)
                · have c_178 := kn_eq rfl (by decide : Int32.toInt (-1) = (-1)) c_178
                  refine lv_iconst (v := 0) hx hb dX12_would_128 (by decide) ?_
                  exact J_129 0 _ _ _ hI hS  (lv_sub hl [0, 1, 2, 3, 4, 5, 6, 7, 8] rfl)
                · have c_178 := kc_eq rfl (by decide : Int32.toInt (-1) = (-1)) c_178
                  refine lv_iconst (v := 1) hx hb dX12_would_124 (by decide) ?_
                  refine lv_goto (tgt := 129) hx hb dX12_would_125 (by decide) ?_
                  exact J_129 1 _ _ _ hI hS  (lv_sub hl [0, 1, 2, 3, 4, 5, 6, 7, 8] rfl)
          exact K_95 _ 0 0 0 q ((q_57 2).toInt64) 0 0 f_79 _ _ _ (Nat.lt_succ_self _) hI hS k_83 hc1_ok k_82 k_84 k_85 k_86 k_87 k_88 kp_81 (by first | omega | decide | (simp only [show Int32.toInt 0 = 0 from by decide, show Int32.toInt 0 = 0 from by decide, show Int32.toInt 0 = 0 from by decide, show Int64.toInt 0 = 0 from by decide, show Int64.toInt 0 = 0 from by decide]; omega)) (by first | omega | decide | (simp only [show Int32.toInt 0 = 0 from by decide, show Int32.toInt 0 = 0 from by decide, show Int32.toInt 0 = 0 from by decide, show Int64.toInt 0 = 0 from by decide, show Int64.toInt 0 = 0 from by decide]; omega)) (by first | omega | decide | (simp only [show Int32.toInt 0 = 0 from by decide, show Int32.toInt 0 = 0 from by decide, show Int32.toInt 0 = 0 from by decide, show Int64.toInt 0 = 0 from by decide, show Int64.toInt 0 = 0 from by decide]; omega)) (lv_sub hl [0, 1, 2, 3, 4, 5, 6] rfl)
        · have c_38 := ln_le rfl (by decide : Int64.toInt 9999 = 9999) (fun h9 => c_38 ((lg_cmp_le _ _).mpr h9))
          refine lv_ldcw hx hb hown (hts (.constant RX12 330 (-2147483648)) (List.mem_cons_of_mem _ (List.mem_append_left _ (List.mem_of_getElem? (i := 5) rfl)))) dX12_would_57 ?_
          exact W.iret (v := (-2147483648)) hx hb hr (fun t ht hW => ⟨⟨(-2147483648), (), rfl, trivial, ⟨f_7, k_ret ht hI, kp_9, 0, z1, z10, z12, z13, z14, z15, z16, z17, z18, z23, z24, z25, z26, q, u, im, kt, k_10, (by first | omega | decide), (by first | omega | decide), (by first | omega | decide), k_11, hc1_ok, k_12, k_13, k_14, hU⟩⟩, hS.F ht⟩) hS.2.2 dX12_would_60
theorem tw_1000 : q_g (.constantLong RX12 242 (9)) := ⟨(List.mem_append_right _ (List.mem_of_getElem? (i := 1387) (by decide +kernel))), good_of_word (by decide +kernel)⟩
theorem tw_1001 : q_g (.selects RX12 yX12_putWord yX12_putWord) := ⟨(List.mem_append_left _ (List.mem_of_getElem? (i := 47) (by decide +kernel))), good_of_word (by decide +kernel)⟩
theorem tw_1002 : q_g (.instanceMethod yX12_putWord) := ⟨(List.mem_append_right _ (List.mem_of_getElem? (i := 1384) (by decide +kernel))), good_of_word (by decide +kernel)⟩
theorem tw_1003 : q_g (.methodLink RX12 238 yX12_putWord) := ⟨(List.mem_append_right _ (List.mem_of_getElem? (i := 1382) (by decide +kernel))), good_of_word (by decide +kernel)⟩
theorem tw_1004 : q_g (.code yX12_listing cX12_listing 6 (some .int)) := ⟨(List.mem_append_right _ (List.mem_of_getElem? (i := 1377) (by decide +kernel))), good_of_word (by decide +kernel)⟩
def ow_c_X12_listing : List Cond := [.fieldLink RX12 67 "DeadlineShareModel" "thrown" "I", .methodLink RX12 142 yX12_isTask, .instanceMethod yX12_isTask, .selects RX12 yX12_isTask yX12_isTask, .initialized RX12, .methodLink RX12 87 yX12_at, .static yX12_at, .fieldLink RX12 16 "DeadlineShareModel" "row" "[J", .fieldLink RX12 128 "DeadlineShareModel" "taped" "I", .methodLink RX12 80 yX12_tell, .instanceMethod yX12_tell, .selects RX12 yX12_tell yX12_tell, .fieldLink RX12 53 "DeadlineShareModel" "words" "[J", .methodLink RX12 238 yX12_putWord, .instanceMethod yX12_putWord, .selects RX12 yX12_putWord yX12_putWord, .methodLink RX12 235 yX12_put, .instanceMethod yX12_put, .selects RX12 yX12_put yX12_put, .constantLong RX12 242 (9), .constantLong RX12 197 (10), .methodLink RX12 76 yX12_refuse, .instanceMethod yX12_refuse, .selects RX12 yX12_refuse yX12_refuse]
def wq_c_X12_listing : List Cond := .code yX12_listing cX12_listing 6 (some .int) :: (ow_c_X12_listing ++ (u_ws RX12 TX12 27 ++ (wq_c_X12_isTask ++ (wq_c_X12_at ++ (wq_c_X12_tell ++ (wq_c_X12_putWord ++ (wq_c_X12_put ++ (wq_c_X12_refuse ++ ([] : List Cond)))))))))
theorem tb_c_X12_listing : ∀ w ∈ wq_c_X12_listing, q_g w := by
  unfold wq_c_X12_listing ow_c_X12_listing
  exact q_cons tw_1004 (q_app (q_cons tw_927 (q_cons tw_951 (q_cons tw_950 (q_cons tw_949 (q_cons tw_728 (q_cons tw_734 (q_cons tw_733 (q_cons tw_731 (q_cons tw_809 (q_cons tw_960 (q_cons tw_959 (q_cons tw_958 (q_cons tw_885 (q_cons tw_1003 (q_cons tw_1002 (q_cons tw_1001 (q_cons tw_815 (q_cons tw_814 (q_cons tw_813 (q_cons tw_1000 (q_cons tw_870 (q_cons tw_966 (q_cons tw_965 (q_cons tw_964 q_nil)))))))))))))))))))))))) (q_app tu_X12 (q_app tb_c_X12_isTask (q_app tb_c_X12_at (q_app tb_c_X12_tell (q_app tb_c_X12_putWord (q_app tb_c_X12_put (q_app tb_c_X12_refuse q_nil))))))))
set_option maxHeartbeats 4000000 in
set_option maxRecDepth 100000 in
theorem c_X12_listing (l : Launch) (dC : Nat → ClassId) (dI : Nat → Nat → Nat) (g : kG) (A : Nat → Prop) (hG : kWf g) (f : Nat → va_E) (h0 : Nat) (p1 : Int32) (z0 : Int32) (z1 : Int32) (z10 : Int32) (z12 : Int32) (z13 : Int32) (z14 : Int32) (z15 : Int32) (z16 : Int64) (z17 : Int32) (z18 : Int32) (z23 : Int32) (z24 : Int64) (z25 : Int64) (z26 : Int64) (q : Nat → Int64) (u : Nat → Int64) (im : Nat → Int64) (kt : Nat → Int32) (i_h0 : ik g 12 h0) (hc0 : f h0 = .inr (12, [.int z0, .int z1, .ref (gr g h0 2), .ref (gr g h0 3), .ref (gr g h0 4), .ref (gr g h0 5), .ref (gr g h0 6), .ref (gr g h0 7), .ref (gr g h0 8), .ref (gr g h0 9), .int z10, .ref (gr g h0 11), .int z12, .int z13, .int z14, .int z15, .long z16, .int z17, .int z18, .ref (gr g h0 19), .ref (gr g h0 20), .ref (gr g h0 21), .ref (gr g h0 22), .int z23, .long z24, .long z25, .long z26])) (hc0_10 : 0 ≤ z10.toInt ∧ z10.toInt ≤ 10) (hc0_12 : 0 ≤ z12.toInt ∧ z12.toInt ≤ 200) (hc0_23 : 0 ≤ z23.toInt ∧ z23.toInt ≤ 8) (hc1 : f (gr g h0 4) = .inl (gc g 1, 906, .inr (.inl q))) (hc1_ok : RowOK q) (hc2 : f (gr g h0 5) = .inl (gc g 1, 9060, .inr (.inl u))) (hc3 : f (gr g h0 7) = .inl (gc g 1, 1812, .inr (.inl im))) (hc4 : f (gr g h0 8) = .inl (gc g 3, 2, .inl kt)) (hU : UIq z10 u im kt) : Met l yX12_listing wq_c_X12_listing ({ frames := 2, cells := 0, slots := 0, locals := 46 } : Room) (va_Pc [.ref h0, .int p1] (fun U => kIn dC dI g A f U)) (va_Qi (fun (r : Int32) (_ : Unit) => True) (fun (_ : Unit) t => ∃ f1 : Nat → va_E, Iv dC dI g A f1 t.heap ∧ Kp g [12, 30, 38] f f1 ∧ ∃ (w0 : Int32) (w1 : Int32) (w10 : Int32) (w12 : Int32) (w13 : Int32) (w14 : Int32) (w15 : Int32) (w16 : Int64) (w17 : Int32) (w18 : Int32) (w23 : Int32) (w24 : Int64) (w25 : Int64) (w26 : Int64) (q1 : Nat → Int64) (u1 : Nat → Int64) (im1 : Nat → Int64) (ik1 : Nat → Int32), (f1 h0 = .inr (12, [.int w0, .int w1, .ref (gr g h0 2), .ref (gr g h0 3), .ref (gr g h0 4), .ref (gr g h0 5), .ref (gr g h0 6), .ref (gr g h0 7), .ref (gr g h0 8), .ref (gr g h0 9), .int w10, .ref (gr g h0 11), .int w12, .int w13, .int w14, .int w15, .long w16, .int w17, .int w18, .ref (gr g h0 19), .ref (gr g h0 20), .ref (gr g h0 21), .ref (gr g h0 22), .int w23, .long w24, .long w25, .long w26])) ∧ (0 ≤ w10.toInt ∧ w10.toInt ≤ 10) ∧ (0 ≤ w12.toInt ∧ w12.toInt ≤ 200) ∧ (0 ≤ w23.toInt ∧ w23.toInt ≤ 8) ∧ (f1 (gr g h0 4) = .inl (gc g 1, 906, .inr (.inl q1))) ∧ (RowOK q1) ∧ (f1 (gr g h0 5) = .inl (gc g 1, 9060, .inr (.inl u1))) ∧ (f1 (gr g h0 7) = .inl (gc g 1, 1812, .inr (.inl im1))) ∧ (f1 (gr g h0 8) = .inl (gc g 3, 2, .inl ik1)) ∧ (UIq w10 u1 im1 ik1)) A) 0 0 A := by
  refine Met.ofW (cc := cX12_listing) (maxL := 6) (ret := (some .int)) (by decide) rfl ?_
  intro p e s m args below meth c s₁ B hml hv
  obtain ⟨rfl, hI, hK, hE⟩ := hv
  have hx := B.exec
  have hb := B.bytes
  have hr := B.returns
  have hts := atoms_spec (ws := wq_c_X12_listing) B.pre
  have hown : s.vm.findClass RX12 = some m.cls := findClass_of_methodNamed B.named
  have hlocks := B.notSynchronized
  have hS : va_S A s.heap s.heap [] := va_S.rf
  have hk0 : Kp g [12, 30, 38] f f := Kp.rf
  have hl := lv_entry ([.ref h0, .int p1]) (n := 6) (Nat.le_of_ble_eq_true rfl)
  rw [lg_entry_eq]
  generalize (lg_sl ([.ref h0, .int p1]) ++ List.replicate (6 - (lg_sl ([.ref h0, .int p1])).length) Slot.unset).toArray = ls at hl ⊢
  have hl : lv_has ls 6 [(0, .ref h0), (1, .int p1)] := hl
  have i_1 := kw_12_4 hG i_h0
  have d_2 := rk_hd hc1_ok
  have i_3 := kw_12_5 hG i_h0
  have i_4 := kw_12_7 hG i_h0
  have i_5 := kw_12_8 hG i_h0
  refine lv_aload_n hx hb dX12_listing_0 rfl (lv_at hl 0 rfl) ?_
  refine lv_iconst (v := 0) hx hb dX12_listing_1 (by decide) ?_
  refine k_put (ci := 12) (v := .int 0) (ty := .int) (C := RX12) (T := TX12) (N := 27) hx hb hts (fun _ h0_ => List.mem_cons_of_mem _ (List.mem_append_right _ (List.mem_append_left _ h0_))) tyX12 tyX12_ok nmX12 hown hK hI hS i_h0.1 hc0 rfl 0 (by decide) (hts (.fieldLink RX12 67 "DeadlineShareModel" "thrown" "I") (List.mem_cons_of_mem _ (List.mem_append_left _ (List.mem_of_getElem? (i := 0) rfl)))) (fun _ h9 => h9) rfl (by decide +kernel) rfl rfl (Nat.le_of_ble_eq_true rfl) rfl (cl_12 i_h0 (by omega) (by omega) (by omega)) dX12_listing_2 (fun f_6 H locs e_7 hI hS => ?_)
  have k_9 : f_6 h0 = .inr (12, [.int 0, .int z1, .ref (gr g h0 2), .ref (gr g h0 3), .ref (gr g h0 4), .ref (gr g h0 5), .ref (gr g h0 6), .ref (gr g h0 7), .ref (gr g h0 8), .ref (gr g h0 9), .int z10, .ref (gr g h0 11), .int z12, .int z13, .int z14, .int z15, .long z16, .int z17, .int z18, .ref (gr g h0 19), .ref (gr g h0 20), .ref (gr g h0 21), .ref (gr g h0 22), .int z23, .long z24, .long z25, .long z26]) := by rw [e_7]; exact va_up_self _ _ _
  have k_10 : f_6 (gr g h0 4) = .inl (gc g 1, 906, .inr (.inl q)) := by rw [e_7, va_up_ne _ _ (ik_ne i_1 i_h0 (by decide))]; exact hc1
  have k_11 : f_6 (gr g h0 5) = .inl (gc g 1, 9060, .inr (.inl u)) := by rw [e_7, va_up_ne _ _ (ik_ne i_3 i_h0 (by decide))]; exact hc2
  have k_12 : f_6 (gr g h0 7) = .inl (gc g 1, 1812, .inr (.inl im)) := by rw [e_7, va_up_ne _ _ (ik_ne i_4 i_h0 (by decide))]; exact hc3
  have k_13 : f_6 (gr g h0 8) = .inl (gc g 3, 2, .inl kt) := by rw [e_7, va_up_ne _ _ (ik_ne i_5 i_h0 (by decide))]; exact hc4
  have kp_8 := Kp.put hk0 i_h0 (by decide) e_7
  refine lv_aload_n hx hb dX12_listing_5 rfl (lv_at hl 0 rfl) ?_
  refine lv_iload_n hx hb dX12_listing_6 rfl (lv_at hl 1 rfl) ?_
  refine va_calli (va_runV (As := [.int p1]) (rest := []) ⟨hx, hb, hml, hown, hts⟩ (c_X12_isTask l dC dI g A hG f_6 h0 p1 q i_h0 k_10 hc1_ok) (cwV 1 hts (gi_V (fun w_ h0_ => ⟨List.mem_cons_of_mem _ (List.mem_append_right _ (List.mem_append_right _ (List.mem_append_left _ h0_))), (tb_c_X12_isTask w_ h0_).2⟩) (List.mem_cons_of_mem _ (List.mem_append_left _ (List.mem_of_getElem? (i := 1) rfl))) (List.mem_cons_of_mem _ (List.mem_append_left _ (List.mem_of_getElem? (i := 2) rfl))) (List.mem_cons_of_mem _ (List.mem_append_left _ (List.mem_of_getElem? (i := 3) rfl))) (List.mem_cons_of_mem _ (List.mem_append_left _ (List.mem_of_getElem? (i := 4) rfl)))) rfl rfl rfl (by decide +kernel) ⟨Nat.le_of_ble_eq_true rfl, Nat.le_of_ble_eq_true rfl⟩) ⟨fun a U g mk q => ⟨q.1, q.2.calling rfl rfl⟩, k_recv hK hI i_h0.1 k_9 (ci := 12) rfl, fun U hU hW => ⟨rfl, kIn.of hI hK hE hS hU hW⟩⟩ rfl rfl hl.1 rfl (lv_room (Nat.le_of_ble_eq_true rfl)) dX12_listing_7 ⟨Nat.le_of_ble_eq_true rfl, Nat.le_of_ble_eq_true rfl⟩) hS (fun q _ h => h) (fun q h => h) (fun r_15 u t H1 locs ht hvm w_14 hB hz1 hk1 hS => ?_)
  have hI : Iv dC dI g A f_6 t.heap := hB
  rw [ht] at hI
  generalize H1 = H at hI hS ⊢
  refine W.widen (k := 0) (n := 0) (Nat.le_of_ble_eq_true rfl) (Nat.le_of_ble_eq_true rfl) ?_
  have w_14 : (r_15.toInt = 0 ∨ r_15.toInt = 1) ∧ (r_15.toInt = 0 ∨ (0 ≤ p1.toInt ∧ p1.toInt < (q 0).toInt)) := w_14
  refine lv_if_ne (tgt := 20) hx hb dX12_listing_10 (by decide) (fun c_16 => ?_) (fun c_16 => ?_)
  · have c_16 := kn_eq rfl (by decide : Int32.toInt 0 = 0) c_16
    obtain ⟨m_17, em_17, tm_17⟩ := k_nat (x := p1) (by omega)
    refine lv_iload_n hx hb dX12_listing_20 rfl (lv_at hl 1 rfl) ?_
    refine k_topi (y := nI m_17) em_17 ?_
    refine va_calli (va_runS (As := [.int (nI m_17)]) (rest := []) ⟨hx, hb, hml, hown, hts⟩ (c_X12_at l dC dI g A hG f_6 m_17) (va_cwS 1 hts (gi_S (fun w_ h0_ => ⟨List.mem_cons_of_mem _ (List.mem_append_right _ (List.mem_append_right _ (List.mem_append_right _ (List.mem_append_left _ h0_)))), (tb_c_X12_at w_ h0_).2⟩) (List.mem_cons_of_mem _ (List.mem_append_left _ (List.mem_of_getElem? (i := 5) rfl))) (List.mem_cons_of_mem _ (List.mem_append_left _ (List.mem_of_getElem? (i := 6) rfl))) (List.mem_cons_of_mem _ (List.mem_append_left _ (List.mem_of_getElem? (i := 4) rfl)))) rfl rfl rfl (by decide +kernel) ⟨Nat.le_of_ble_eq_true rfl, Nat.le_of_ble_eq_true rfl⟩) ⟨fun a U g mk q => ⟨q.1, q.2.calling rfl rfl⟩, fun U hU hW => ⟨rfl, kIn.of hI hK hE hS hU hW⟩⟩ rfl rfl hl.1 rfl (lv_room (Nat.le_of_ble_eq_true rfl)) dX12_listing_21 ⟨Nat.le_of_ble_eq_true rfl, Nat.le_of_ble_eq_true rfl⟩) hS (fun q _ h => h) (fun q h => h) (fun r_19 u t H1 locs ht hvm w_18 hB hz1 hk1 hS => ?_)
    have hI : Iv dC dI g A f_6 t.heap := hB
    rw [ht] at hI
    generalize H1 = H at hI hS ⊢
    refine W.widen (k := 0) (n := 0) (Nat.le_of_ble_eq_true rfl) (Nat.le_of_ble_eq_true rfl) ?_
    have w_18 : r_19 = nI (6 + 43 * m_17) := w_18
    refine k_topi (y := nI (6 + 43 * m_17)) w_18 ?_
    refine lv_istore_n (lv' := [(2, .int (nI (6 + 43 * m_17))), (0, .ref h0), (1, .int p1)]) hx hb dX12_listing_24 rfl hl (by decide) rfl (fun ls hl => ?_)
    refine lv_aload_n hx hb dX12_listing_25 rfl (lv_at hl 1 rfl) ?_
    refine k_get (ci := 12) (v := .ref (gr g h0 4)) (C := RX12) (T := TX12) (N := 27) hx hb hts (fun _ h0_ => List.mem_cons_of_mem _ (List.mem_append_right _ (List.mem_append_left _ h0_))) hown hK hI i_h0.1 k_9 rfl 4 (by decide) (hts (.fieldLink RX12 16 "DeadlineShareModel" "row" "[J") (List.mem_cons_of_mem _ (List.mem_append_left _ (List.mem_of_getElem? (i := 7) rfl)))) (fun _ h9 => h9) rfl dX12_listing_26 ?_
    refine lv_iload_n hx hb dX12_listing_29 rfl (lv_at hl 0 rfl) ?_
    refine lv_bipush (v := 13) hx hb dX12_listing_30 (by decide) ?_
    refine lv_iadd hx hb dX12_listing_32 ?_
    refine k_topi (y := nI (6 + 43 * m_17 + 13)) ((nI_add (6 + 43 * m_17) 13).trans (congrArg nI (by omega))) ?_
    refine k_lald hx hb hK hI i_1.1 1 k_10 rfl (vp_in_nI (by omega) (by omega)) dX12_listing_33 ?_
    refine k_topl (y := q (6 + 43 * m_17 + 13)) (congrArg q (nI_clamp (by omega))) ?_
    have d_22 := rk_13 hc1_ok (t := m_17) (by omega)
    refine lv_lconst (v := 0) hx hb dX12_listing_34 (by decide) ?_
    refine W.lcmp hx hb dX12_listing_35 ?_
    refine lv_if_ne (tgt := 46) hx hb dX12_listing_36 (by decide) (fun c_23 => ?_) (fun c_23 => ?_)
    · have c_23 := ln_eq rfl (by decide : Int64.toInt 0 = 0) (fun h9 => c_23 ((lg_cmp_eq _ _).mpr h9))
      refine lv_aload_n hx hb dX12_listing_46 rfl (lv_at hl 1 rfl) ?_
      refine lv_iconst (v := 0) hx hb dX12_listing_47 (by decide) ?_
      have b_24 : 0 ≤ Int32.toInt 0 ∧ Int32.toInt 0 ≤ 200 := (by decide)
      refine k_put (ci := 12) (v := .int 0) (ty := .int) (C := RX12) (T := TX12) (N := 27) hx hb hts (fun _ h0_ => List.mem_cons_of_mem _ (List.mem_append_right _ (List.mem_append_left _ h0_))) tyX12 tyX12_ok nmX12 hown hK hI hS i_h0.1 k_9 rfl 12 (by decide) (hts (.fieldLink RX12 128 "DeadlineShareModel" "taped" "I") (List.mem_cons_of_mem _ (List.mem_append_left _ (List.mem_of_getElem? (i := 8) rfl)))) (fun _ h9 => h9) rfl (by decide +kernel) rfl rfl (Nat.le_of_ble_eq_true rfl) rfl (cl_12 i_h0 (by omega) b_24 (by omega)) dX12_listing_48 (fun f_25 H locs e_26 hI hS => ?_)
      have k_28 : f_25 h0 = .inr (12, [.int 0, .int z1, .ref (gr g h0 2), .ref (gr g h0 3), .ref (gr g h0 4), .ref (gr g h0 5), .ref (gr g h0 6), .ref (gr g h0 7), .ref (gr g h0 8), .ref (gr g h0 9), .int z10, .ref (gr g h0 11), .int 0, .int z13, .int z14, .int z15, .long z16, .int z17, .int z18, .ref (gr g h0 19), .ref (gr g h0 20), .ref (gr g h0 21), .ref (gr g h0 22), .int z23, .long z24, .long z25, .long z26]) := by rw [e_26]; exact va_up_self _ _ _
      have k_29 : f_25 (gr g h0 4) = .inl (gc g 1, 906, .inr (.inl q)) := by rw [e_26, va_up_ne _ _ (ik_ne i_1 i_h0 (by decide))]; exact k_10
      have k_30 : f_25 (gr g h0 5) = .inl (gc g 1, 9060, .inr (.inl u)) := by rw [e_26, va_up_ne _ _ (ik_ne i_3 i_h0 (by decide))]; exact k_11
      have k_31 : f_25 (gr g h0 7) = .inl (gc g 1, 1812, .inr (.inl im)) := by rw [e_26, va_up_ne _ _ (ik_ne i_4 i_h0 (by decide))]; exact k_12
      have k_32 : f_25 (gr g h0 8) = .inl (gc g 3, 2, .inl kt) := by rw [e_26, va_up_ne _ _ (ik_ne i_5 i_h0 (by decide))]; exact k_13
      have kp_27 := Kp.put kp_8 i_h0 (by decide) e_26
      refine lv_iconst (v := 0) hx hb dX12_listing_51 (by decide) ?_
      refine lv_istore_n (lv' := [(3, .int 0), (2, .int (nI (6 + 43 * m_17))), (0, .ref h0), (1, .int p1)]) hx hb dX12_listing_52 rfl hl (by decide) rfl (fun ls hl => ?_)
      have K_53 : ∀ (nn : Nat) (y_33 : Nat) (y_35 : Int32) (f_34 : Nat → va_E) (H : Heap) (locs : List Loc) (ls : Array Slot), 8 - y_33 < nn → Iv dC dI g A f_34 H → va_S A s.heap H locs → f_34 h0 = .inr (12, [.int 0, .int z1, .ref (gr g h0 2), .ref (gr g h0 3), .ref (gr g h0 4), .ref (gr g h0 5), .ref (gr g h0 6), .ref (gr g h0 7), .ref (gr g h0 8), .ref (gr g h0 9), .int z10, .ref (gr g h0 11), .int y_35, .int z13, .int z14, .int z15, .long z16, .int z17, .int z18, .ref (gr g h0 19), .ref (gr g h0 20), .ref (gr g h0 21), .ref (gr g h0 22), .int z23, .long z24, .long z25, .long z26]) → f_34 (gr g h0 4) = .inl (gc g 1, 906, .inr (.inl q)) → f_34 (gr g h0 5) = .inl (gc g 1, 9060, .inr (.inl u)) → f_34 (gr g h0 7) = .inl (gc g 1, 1812, .inr (.inl im)) → f_34 (gr g h0 8) = .inl (gc g 3, 2, .inl kt) → Kp g [12, 30, 38] f f_34 → (y_33 ≤ 8) → (0 ≤ y_35.toInt ∧ y_35.toInt ≤ 9 * (y_33 : Int) + 0) → lv_has ls 6 [(3, .int (nI y_33)), (2, .int (nI (6 + 43 * m_17))), (0, .ref h0), (1, .int p1)] → W p l e (headSpec wq_c_X12_listing ({ frames := 2, cells := 0, slots := 0, locals := 46 } : Room)).room s m ([.ref h0, .int p1].toArray) below meth c H locs 0 0 (MQ below (va_Qi (fun (r : Int32) (_ : Unit) => True) (fun (_ : Unit) t => ∃ f1 : Nat → va_E, Iv dC dI g A f1 t.heap ∧ Kp g [12, 30, 38] f f1 ∧ ∃ (w0 : Int32) (w1 : Int32) (w10 : Int32) (w12 : Int32) (w13 : Int32) (w14 : Int32) (w15 : Int32) (w16 : Int64) (w17 : Int32) (w18 : Int32) (w23 : Int32) (w24 : Int64) (w25 : Int64) (w26 : Int64) (q1 : Nat → Int64) (u1 : Nat → Int64) (im1 : Nat → Int64) (ik1 : Nat → Int32), (f1 h0 = .inr (12, [.int w0, .int w1, .ref (gr g h0 2), .ref (gr g h0 3), .ref (gr g h0 4), .ref (gr g h0 5), .ref (gr g h0 6), .ref (gr g h0 7), .ref (gr g h0 8), .ref (gr g h0 9), .int w10, .ref (gr g h0 11), .int w12, .int w13, .int w14, .int w15, .long w16, .int w17, .int w18, .ref (gr g h0 19), .ref (gr g h0 20), .ref (gr g h0 21), .ref (gr g h0 22), .int w23, .long w24, .long w25, .long w26])) ∧ (0 ≤ w10.toInt ∧ w10.toInt ≤ 10) ∧ (0 ≤ w12.toInt ∧ w12.toInt ≤ 200) ∧ (0 ≤ w23.toInt ∧ w23.toInt ≤ 8) ∧ (f1 (gr g h0 4) = .inl (gc g 1, 906, .inr (.inl q1))) ∧ (RowOK q1) ∧ (f1 (gr g h0 5) = .inl (gc g 1, 9060, .inr (.inl u1))) ∧ (f1 (gr g h0 7) = .inl (gc g 1, 1812, .inr (.inl im1))) ∧ (f1 (gr g h0 8) = .inl (gc g 3, 2, .inl ik1)) ∧ (UIq w10 u1 im1 ik1)) A) ([.ref h0, .int p1].toArray) s 0 0 A) (F0 m 53 ls []) := by
        intro nn
        induction nn with
        | zero => intro y_33 y_35 f_34 H locs ls m_44; exact absurd m_44 (Nat.not_lt_zero _)
        | succ nn ih =>
          intro y_33 y_35 f_34 H locs ls m_44 hI hS k_36 k_37 k_38 k_39 k_40 kp_41 t_42 t_43 hl
          refine lv_iload_n hx hb dX12_listing_53 rfl (lv_at hl 0 rfl) ?_
          refine lv_i2l (v := lN (y_33)) hx hb dX12_listing_54 (nI_l (by omega)) ?_
          refine lv_aload_n hx hb dX12_listing_55 rfl (lv_at hl 2 rfl) ?_
          refine k_get (ci := 12) (v := .ref (gr g h0 4)) (C := RX12) (T := TX12) (N := 27) hx hb hts (fun _ h0_ => List.mem_cons_of_mem _ (List.mem_append_right _ (List.mem_append_left _ h0_))) hown hK hI i_h0.1 k_36 rfl 4 (by decide) (hts (.fieldLink RX12 16 "DeadlineShareModel" "row" "[J") (List.mem_cons_of_mem _ (List.mem_append_left _ (List.mem_of_getElem? (i := 7) rfl)))) (fun _ h9 => h9) rfl dX12_listing_56 ?_
          refine lv_iload_n hx hb dX12_listing_59 rfl (lv_at hl 1 rfl) ?_
          refine lv_bipush (v := 13) hx hb dX12_listing_60 (by decide) ?_
          refine lv_iadd hx hb dX12_listing_62 ?_
          refine k_topi (y := nI (6 + 43 * m_17 + 13)) ((nI_add (6 + 43 * m_17) 13).trans (congrArg nI (by omega))) ?_
          refine k_lald hx hb hK hI i_1.1 1 k_37 rfl (vp_in_nI (by omega) (by omega)) dX12_listing_63 ?_
          refine k_topl (y := q (6 + 43 * m_17 + 13)) (congrArg q (nI_clamp (by omega))) ?_
          have d_47 := rk_13 hc1_ok (t := m_17) (by omega)
          refine W.lcmp hx hb dX12_listing_64 ?_
          refine lv_if_ge (tgt := 161) hx hb dX12_listing_65 (by decide) (fun c_48 => ?_) (fun c_48 => ?_)
          · have c_48 := lc_le rfl (lN_toInt (n := y_33) (by omega)) ((lg_cmp_ge _ _).mp c_48)
            refine lv_aload_n hx hb dX12_listing_161 rfl (lv_at hl 2 rfl) ?_
            refine lv_aload_n hx hb dX12_listing_162 rfl (lv_at hl 2 rfl) ?_
            refine k_get (ci := 12) (v := .int y_35) (C := RX12) (T := TX12) (N := 27) hx hb hts (fun _ h0_ => List.mem_cons_of_mem _ (List.mem_append_right _ (List.mem_append_left _ h0_))) hown hK hI i_h0.1 k_36 rfl 12 (by decide) (hts (.fieldLink RX12 128 "DeadlineShareModel" "taped" "I") (List.mem_cons_of_mem _ (List.mem_append_left _ (List.mem_of_getElem? (i := 8) rfl)))) (fun _ h9 => h9) rfl dX12_listing_163 ?_
            refine va_calli (va_runV (As := [.int y_35]) (rest := []) ⟨hx, hb, hml, hown, hts⟩ (c_X12_tell l dC dI g A hG f_34 h0 y_35 0 z1 z10 y_35 z13 z14 z15 z16 z17 z18 z23 z24 z25 z26 i_h0 k_36 (by first | omega | (simp only [k_c0]; omega)) (by first | omega | (simp only [k_c0]; omega)) (by first | omega | (simp only [k_c0]; omega))) (cwV 1 hts (gi_V (fun w_ h0_ => ⟨List.mem_cons_of_mem _ (List.mem_append_right _ (List.mem_append_right _ (List.mem_append_right _ (List.mem_append_right _ (List.mem_append_left _ h0_))))), (tb_c_X12_tell w_ h0_).2⟩) (List.mem_cons_of_mem _ (List.mem_append_left _ (List.mem_of_getElem? (i := 9) rfl))) (List.mem_cons_of_mem _ (List.mem_append_left _ (List.mem_of_getElem? (i := 10) rfl))) (List.mem_cons_of_mem _ (List.mem_append_left _ (List.mem_of_getElem? (i := 11) rfl))) (List.mem_cons_of_mem _ (List.mem_append_left _ (List.mem_of_getElem? (i := 4) rfl)))) rfl rfl rfl (by decide +kernel) ⟨Nat.le_of_ble_eq_true rfl, Nat.le_of_ble_eq_true rfl⟩) ⟨fun a U g mk q => ⟨q.1, q.2.calling rfl rfl⟩, k_recv hK hI i_h0.1 k_36 (ci := 12) rfl, fun U hU hW => ⟨rfl, kIn.of hI hK hE hS hU hW⟩⟩ rfl rfl hl.1 rfl (lv_room (Nat.le_of_ble_eq_true rfl)) dX12_listing_166 ⟨Nat.le_of_ble_eq_true rfl, Nat.le_of_ble_eq_true rfl⟩) hS (fun q _ h => h) (fun q h => h) (fun r_51 u t H1 locs ht hvm w_50 hB hz1 hk1 hS => ?_)
            obtain ⟨f_49, hI, kc_52, k_53⟩ := hB
            rw [ht] at hI
            have k_54 : f_49 (gr g h0 4) = .inl (gc g 1, 906, .inr (.inl q)) := Kp.at kc_52 i_1 (by decide) k_37
            have k_55 : f_49 (gr g h0 5) = .inl (gc g 1, 9060, .inr (.inl u)) := Kp.at kc_52 i_3 (by decide) k_38
            have k_56 : f_49 (gr g h0 7) = .inl (gc g 1, 1812, .inr (.inl im)) := Kp.at kc_52 i_4 (by decide) k_39
            have k_57 : f_49 (gr g h0 8) = .inl (gc g 3, 2, .inl kt) := Kp.at kc_52 i_5 (by decide) k_40
            have k_53 : f_49 h0 = .inr (12, [.int (0 : Int32), .int 0, .ref (gr g h0 2), .ref (gr g h0 3), .ref (gr g h0 4), .ref (gr g h0 5), .ref (gr g h0 6), .ref (gr g h0 7), .ref (gr g h0 8), .ref (gr g h0 9), .int z10, .ref (gr g h0 11), .int y_35, .int z13, .int z14, .int z15, .long z16, .int z17, .int z18, .ref (gr g h0 19), .ref (gr g h0 20), .ref (gr g h0 21), .ref (gr g h0 22), .int z23, .long z24, .long z25, .long z26]) := k_53
            have kp_58 := Kp.call kp_41 kc_52 (by decide)
            generalize H1 = H at hI hS ⊢
            refine W.widen (k := 0) (n := 0) (Nat.le_of_ble_eq_true rfl) (Nat.le_of_ble_eq_true rfl) ?_
            have w_50 : r_51.toInt = y_35.toInt := w_50
            exact W.iret (v := r_51) hx hb hr (fun t ht hW => ⟨⟨r_51, (), rfl, trivial, ⟨f_49, k_ret ht hI, kp_58, (0 : Int32), 0, z10, y_35, z13, z14, z15, z16, z17, z18, z23, z24, z25, z26, q, u, im, kt, k_53, (by first | omega | decide), (by first | omega | decide), (by first | omega | decide), k_54, hc1_ok, k_55, k_56, k_57, hU⟩⟩, hS.F ht⟩) hS.2.2 dX12_listing_169
          · have c_48 := ln_le rfl (lN_toInt (n := y_33) (by omega)) (fun h9 => c_48 ((lg_cmp_ge _ _).mpr h9))
            refine lv_iload_n hx hb dX12_listing_68 rfl (lv_at hl 0 rfl) ?_
            have J_78 : ∀ (y_60 : Int32) (f_59 : Nat → va_E) (H : Heap) (locs : List Loc) (ls : Array Slot), Iv dC dI g A f_59 H → va_S A s.heap H locs → f_59 h0 = .inr (12, [.int 0, .int z1, .ref (gr g h0 2), .ref (gr g h0 3), .ref (gr g h0 4), .ref (gr g h0 5), .ref (gr g h0 6), .ref (gr g h0 7), .ref (gr g h0 8), .ref (gr g h0 9), .int z10, .ref (gr g h0 11), .int y_60, .int z13, .int z14, .int z15, .long z16, .int z17, .int z18, .ref (gr g h0 19), .ref (gr g h0 20), .ref (gr g h0 21), .ref (gr g h0 22), .int z23, .long z24, .long z25, .long z26]) → f_59 (gr g h0 4) = .inl (gc g 1, 906, .inr (.inl q)) → f_59 (gr g h0 5) = .inl (gc g 1, 9060, .inr (.inl u)) → f_59 (gr g h0 7) = .inl (gc g 1, 1812, .inr (.inl im)) → f_59 (gr g h0 8) = .inl (gc g 3, 2, .inl kt) → Kp g [12, 30, 38] f f_59 → (0 ≤ y_60.toInt ∧ y_60.toInt ≤ 9 * (y_33 : Int) + 1) → lv_has ls 6 [(3, .int (nI y_33)), (2, .int (nI (6 + 43 * m_17))), (0, .ref h0), (1, .int p1)] → W p l e (headSpec wq_c_X12_listing ({ frames := 2, cells := 0, slots := 0, locals := 46 } : Room)).room s m ([.ref h0, .int p1].toArray) below meth c H locs 0 0 (MQ below (va_Qi (fun (r : Int32) (_ : Unit) => True) (fun (_ : Unit) t => ∃ f1 : Nat → va_E, Iv dC dI g A f1 t.heap ∧ Kp g [12, 30, 38] f f1 ∧ ∃ (w0 : Int32) (w1 : Int32) (w10 : Int32) (w12 : Int32) (w13 : Int32) (w14 : Int32) (w15 : Int32) (w16 : Int64) (w17 : Int32) (w18 : Int32) (w23 : Int32) (w24 : Int64) (w25 : Int64) (w26 : Int64) (q1 : Nat → Int64) (u1 : Nat → Int64) (im1 : Nat → Int64) (ik1 : Nat → Int32), (f1 h0 = .inr (12, [.int w0, .int w1, .ref (gr g h0 2), .ref (gr g h0 3), .ref (gr g h0 4), .ref (gr g h0 5), .ref (gr g h0 6), .ref (gr g h0 7), .ref (gr g h0 8), .ref (gr g h0 9), .int w10, .ref (gr g h0 11), .int w12, .int w13, .int w14, .int w15, .long w16, .int w17, .int w18, .ref (gr g h0 19), .ref (gr g h0 20), .ref (gr g h0 21), .ref (gr g h0 22), .int w23, .long w24, .long w25, .long w26])) ∧ (0 ≤ w10.toInt ∧ w10.toInt ≤ 10) ∧ (0 ≤ w12.toInt ∧ w12.toInt ≤ 200) ∧ (0 ≤ w23.toInt ∧ w23.toInt ≤ 8) ∧ (f1 (gr g h0 4) = .inl (gc g 1, 906, .inr (.inl q1))) ∧ (RowOK q1) ∧ (f1 (gr g h0 5) = .inl (gc g 1, 9060, .inr (.inl u1))) ∧ (f1 (gr g h0 7) = .inl (gc g 1, 1812, .inr (.inl im1))) ∧ (f1 (gr g h0 8) = .inl (gc g 3, 2, .inl ik1)) ∧ (UIq w10 u1 im1 ik1)) A) ([.ref h0, .int p1].toArray) s 0 0 A) (F0 m 78 ls []) := by
              intro y_60 f_59 H locs ls hI hS k_61 k_62 k_63 k_64 k_65 kp_66 t_67 hl
              refine lv_aload_n hx hb dX12_listing_78 rfl (lv_at hl 2 rfl) ?_
              refine lv_aload_n hx hb dX12_listing_79 rfl (lv_at hl 2 rfl) ?_
              refine k_get (ci := 12) (v := .ref (gr g h0 19)) (C := RX12) (T := TX12) (N := 27) hx hb hts (fun _ h0_ => List.mem_cons_of_mem _ (List.mem_append_right _ (List.mem_append_left _ h0_))) hown hK hI i_h0.1 k_61 rfl 19 (by decide) (hts (.fieldLink RX12 53 "DeadlineShareModel" "words" "[J") (List.mem_cons_of_mem _ (List.mem_append_left _ (List.mem_of_getElem? (i := 12) rfl)))) (fun _ h9 => h9) rfl dX12_listing_80 ?_
              have i_69 := kw_12_19 hG i_h0
              refine lv_aload_n hx hb dX12_listing_83 rfl (lv_at hl 2 rfl) ?_
              refine k_get (ci := 12) (v := .ref (gr g h0 4)) (C := RX12) (T := TX12) (N := 27) hx hb hts (fun _ h0_ => List.mem_cons_of_mem _ (List.mem_append_right _ (List.mem_append_left _ h0_))) hown hK hI i_h0.1 k_61 rfl 4 (by decide) (hts (.fieldLink RX12 16 "DeadlineShareModel" "row" "[J") (List.mem_cons_of_mem _ (List.mem_append_left _ (List.mem_of_getElem? (i := 7) rfl)))) (fun _ h9 => h9) rfl dX12_listing_84 ?_
              refine lv_iload_n hx hb dX12_listing_87 rfl (lv_at hl 1 rfl) ?_
              refine lv_bipush (v := 16) hx hb dX12_listing_88 (by decide) ?_
              refine lv_iadd hx hb dX12_listing_90 ?_
              refine k_topi (y := nI (6 + 43 * m_17 + 16)) ((nI_add (6 + 43 * m_17) 16).trans (congrArg nI (by omega))) ?_
              refine lv_iload_n hx hb dX12_listing_91 rfl (lv_at hl 0 rfl) ?_
              refine lv_iadd hx hb dX12_listing_92 ?_
              refine k_topi (y := nI (6 + 43 * m_17 + 16 + y_33)) ((nI_add (6 + 43 * m_17 + 16) y_33).trans (congrArg nI (by omega))) ?_
              refine k_lald hx hb hK hI i_1.1 1 k_62 rfl (vp_in_nI (by omega) (by omega)) dX12_listing_93 ?_
              refine k_topl (y := q (6 + 43 * m_17 + 16 + y_33)) (congrArg q (nI_clamp (by omega))) ?_
              have d_72 := rk_k hc1_ok (t := m_17) (k := y_33) (by omega) (by omega)
              refine lv_l2i (v := (q (6 + 43 * m_17 + 16 + y_33)).toInt32) hx hb dX12_listing_94 rfl ?_
              refine lv_topi (fun v_73 ev_73 => ?_)
              have tv_73 := k_l2i (q (6 + 43 * m_17 + 16 + y_33))
              rw [← ev_73] at tv_73
              obtain ⟨m_74, em_74, tm_74⟩ := k_nat (x := v_73) (by omega)
              refine k_topi (y := nI m_74) em_74 ?_
              obtain ⟨q_76, k_75, b_77⟩ := op_39 hI i_69
              refine k_lald hx hb hK hI i_69.1 1 k_75 rfl (vp_in_nI (by omega) (by omega)) dX12_listing_95 ?_
              refine k_topl (y := q_76 m_74) (congrArg q_76 (nI_clamp (by omega))) ?_
              have d_78 := b_77 m_74 (by omega)
              refine va_callv (va_runV (As := [.long (q_76 m_74)]) (rest := []) ⟨hx, hb, hml, hown, hts⟩ (c_X12_putWord l dC dI g A hG f_59 h0 (q_76 m_74) 0 z1 z10 y_60 z13 z14 z15 z16 z17 z18 z23 z24 z25 z26 i_h0 k_61 (by first | omega | (simp only [k_c0]; omega)) (by first | omega | (simp only [k_c0]; omega)) (by first | omega | (simp only [k_c0]; omega)) (by first | omega | decide | (simp only [k_c0, k_c1, k_cm1]; omega)) (by first | omega | decide | (simp only [k_c0, k_c1, k_cm1]; omega))) (cwV 1 hts (gi_V (fun w_ h0_ => ⟨List.mem_cons_of_mem _ (List.mem_append_right _ (List.mem_append_right _ (List.mem_append_right _ (List.mem_append_right _ (List.mem_append_right _ (List.mem_append_left _ h0_)))))), (tb_c_X12_putWord w_ h0_).2⟩) (List.mem_cons_of_mem _ (List.mem_append_left _ (List.mem_of_getElem? (i := 13) rfl))) (List.mem_cons_of_mem _ (List.mem_append_left _ (List.mem_of_getElem? (i := 14) rfl))) (List.mem_cons_of_mem _ (List.mem_append_left _ (List.mem_of_getElem? (i := 15) rfl))) (List.mem_cons_of_mem _ (List.mem_append_left _ (List.mem_of_getElem? (i := 4) rfl)))) rfl rfl rfl (by decide +kernel) ⟨Nat.le_of_ble_eq_true rfl, Nat.le_of_ble_eq_true rfl⟩) ⟨fun a U g mk q => ⟨q.1, q.2.calling rfl rfl⟩, k_recv hK hI i_h0.1 k_61 (ci := 12) rfl, fun U hU hW => ⟨rfl, kIn.of hI hK hE hS hU hW⟩⟩ rfl rfl hl.1 rfl (lv_room (Nat.le_of_ble_eq_true rfl)) dX12_listing_96 ⟨Nat.le_of_ble_eq_true rfl, Nat.le_of_ble_eq_true rfl⟩) hS (fun q _ h => h) (fun q h => h) (fun u t H1 locs ht hvm _ hB hz1 hk1 hS => ?_)
              obtain ⟨f_79, hI, kc_81, w12_82, k_83, z_84⟩ := hB
              rw [ht] at hI
              have k_85 : f_79 (gr g h0 4) = .inl (gc g 1, 906, .inr (.inl q)) := Kp.at kc_81 i_1 (by decide) k_62
              have k_86 : f_79 (gr g h0 5) = .inl (gc g 1, 9060, .inr (.inl u)) := Kp.at kc_81 i_3 (by decide) k_63
              have k_87 : f_79 (gr g h0 7) = .inl (gc g 1, 1812, .inr (.inl im)) := Kp.at kc_81 i_4 (by decide) k_64
              have k_88 : f_79 (gr g h0 8) = .inl (gc g 3, 2, .inl kt) := Kp.at kc_81 i_5 (by decide) k_65
              have k_89 : f_79 (gr g h0 19) = .inl (gc g 1, 5, .inr (.inl q_76)) := Kp.at kc_81 i_69 (by decide) k_75
              have k_83 : f_79 h0 = .inr (12, [.int (0 : Int32), .int z1, .ref (gr g h0 2), .ref (gr g h0 3), .ref (gr g h0 4), .ref (gr g h0 5), .ref (gr g h0 6), .ref (gr g h0 7), .ref (gr g h0 8), .ref (gr g h0 9), .int z10, .ref (gr g h0 11), .int w12_82, .int z13, .int z14, .int z15, .long z16, .int z17, .int z18, .ref (gr g h0 19), .ref (gr g h0 20), .ref (gr g h0 21), .ref (gr g h0 22), .int z23, .long z24, .long z25, .long z26]) := k_83
              have z_84 : y_60.toInt ≤ w12_82.toInt ∧ w12_82.toInt ≤ y_60.toInt + 5 := z_84
              have kp_90 := Kp.call kp_66 kc_81 (by decide)
              generalize H1 = H at hI hS ⊢
              refine W.widen (k := 0) (n := 0) (Nat.le_of_ble_eq_true rfl) (Nat.le_of_ble_eq_true rfl) ?_
              refine lv_aload_n hx hb dX12_listing_99 rfl (lv_at hl 2 rfl) ?_
              refine lv_bipush (v := 32) hx hb dX12_listing_100 (by decide) ?_
              refine va_callv (va_runV (As := [.int 32]) (rest := []) ⟨hx, hb, hml, hown, hts⟩ (c_X12_put l dC dI g A hG f_79 h0 32 (0 : Int32) z1 z10 w12_82 z13 z14 z15 z16 z17 z18 z23 z24 z25 z26 i_h0 k_83 (by first | omega | (simp only [k_c0]; omega)) (by first | omega | (simp only [k_c0]; omega)) (by first | omega | (simp only [k_c0]; omega)) (by decide)) (cwV 1 hts (gi_V (fun w_ h0_ => ⟨List.mem_cons_of_mem _ (List.mem_append_right _ (List.mem_append_right _ (List.mem_append_right _ (List.mem_append_right _ (List.mem_append_right _ (List.mem_append_right _ (List.mem_append_left _ h0_))))))), (tb_c_X12_put w_ h0_).2⟩) (List.mem_cons_of_mem _ (List.mem_append_left _ (List.mem_of_getElem? (i := 16) rfl))) (List.mem_cons_of_mem _ (List.mem_append_left _ (List.mem_of_getElem? (i := 17) rfl))) (List.mem_cons_of_mem _ (List.mem_append_left _ (List.mem_of_getElem? (i := 18) rfl))) (List.mem_cons_of_mem _ (List.mem_append_left _ (List.mem_of_getElem? (i := 4) rfl)))) rfl rfl rfl (by decide +kernel) ⟨Nat.le_of_ble_eq_true rfl, Nat.le_of_ble_eq_true rfl⟩) ⟨fun a U g mk q => ⟨q.1, q.2.calling rfl rfl⟩, k_recv hK hI i_h0.1 k_83 (ci := 12) rfl, fun U hU hW => ⟨rfl, kIn.of hI hK hE hS hU hW⟩⟩ rfl rfl hl.1 rfl (lv_room (Nat.le_of_ble_eq_true rfl)) dX12_listing_102 ⟨Nat.le_of_ble_eq_true rfl, Nat.le_of_ble_eq_true rfl⟩) hS (fun q _ h => h) (fun q h => h) (fun u t H1 locs ht hvm _ hB hz1 hk1 hS => ?_)
              obtain ⟨f_91, hI, kc_93, w12_94, k_95, z_96⟩ := hB
              rw [ht] at hI
              have k_97 : f_91 (gr g h0 4) = .inl (gc g 1, 906, .inr (.inl q)) := Kp.at kc_93 i_1 (by decide) k_85
              have k_98 : f_91 (gr g h0 5) = .inl (gc g 1, 9060, .inr (.inl u)) := Kp.at kc_93 i_3 (by decide) k_86
              have k_99 : f_91 (gr g h0 7) = .inl (gc g 1, 1812, .inr (.inl im)) := Kp.at kc_93 i_4 (by decide) k_87
              have k_100 : f_91 (gr g h0 8) = .inl (gc g 3, 2, .inl kt) := Kp.at kc_93 i_5 (by decide) k_88
              have k_101 : f_91 (gr g h0 19) = .inl (gc g 1, 5, .inr (.inl q_76)) := Kp.at kc_93 i_69 (by decide) k_89
              have k_95 : f_91 h0 = .inr (12, [.int (0 : Int32), .int z1, .ref (gr g h0 2), .ref (gr g h0 3), .ref (gr g h0 4), .ref (gr g h0 5), .ref (gr g h0 6), .ref (gr g h0 7), .ref (gr g h0 8), .ref (gr g h0 9), .int z10, .ref (gr g h0 11), .int w12_94, .int z13, .int z14, .int z15, .long z16, .int z17, .int z18, .ref (gr g h0 19), .ref (gr g h0 20), .ref (gr g h0 21), .ref (gr g h0 22), .int z23, .long z24, .long z25, .long z26]) := k_95
              have z_96 : w12_94.toInt = w12_82.toInt + 1 := z_96
              have kp_102 := Kp.call kp_90 kc_93 (by decide)
              generalize H1 = H at hI hS ⊢
              refine W.widen (k := 0) (n := 0) (Nat.le_of_ble_eq_true rfl) (Nat.le_of_ble_eq_true rfl) ?_
              refine lv_aload_n hx hb dX12_listing_105 rfl (lv_at hl 2 rfl) ?_
              refine k_get (ci := 12) (v := .ref (gr g h0 4)) (C := RX12) (T := TX12) (N := 27) hx hb hts (fun _ h0_ => List.mem_cons_of_mem _ (List.mem_append_right _ (List.mem_append_left _ h0_))) hown hK hI i_h0.1 k_95 rfl 4 (by decide) (hts (.fieldLink RX12 16 "DeadlineShareModel" "row" "[J") (List.mem_cons_of_mem _ (List.mem_append_left _ (List.mem_of_getElem? (i := 7) rfl)))) (fun _ h9 => h9) rfl dX12_listing_106 ?_
              refine lv_iload_n hx hb dX12_listing_109 rfl (lv_at hl 1 rfl) ?_
              refine lv_bipush (v := 24) hx hb dX12_listing_110 (by decide) ?_
              refine lv_iadd hx hb dX12_listing_112 ?_
              refine k_topi (y := nI (6 + 43 * m_17 + 24)) ((nI_add (6 + 43 * m_17) 24).trans (congrArg nI (by omega))) ?_
              refine lv_iload_n hx hb dX12_listing_113 rfl (lv_at hl 0 rfl) ?_
              refine lv_iadd hx hb dX12_listing_114 ?_
              refine k_topi (y := nI (6 + 43 * m_17 + 24 + y_33)) ((nI_add (6 + 43 * m_17 + 24) y_33).trans (congrArg nI (by omega))) ?_
              refine k_lald hx hb hK hI i_1.1 1 k_97 rfl (vp_in_nI (by omega) (by omega)) dX12_listing_115 ?_
              refine k_topl (y := q (6 + 43 * m_17 + 24 + y_33)) (congrArg q (nI_clamp (by omega))) ?_
              have d_105 := rk_k hc1_ok (t := m_17) (k := y_33) (by omega) (by omega)
              refine lv_lstore (lv' := [(4, .long (q (6 + 43 * m_17 + 24 + y_33))), (3, .int (nI y_33)), (2, .int (nI (6 + 43 * m_17))), (0, .ref h0), (1, .int p1)]) hx hb dX12_listing_116 hl (by decide) rfl (fun ls hl => ?_)
              refine lv_lload hx hb dX12_listing_118 (lv_at hl 0 rfl) ?_
              refine lv_ldc2 hx hb hown (hts (.constantLong RX12 242 (9)) (List.mem_cons_of_mem _ (List.mem_append_left _ (List.mem_of_getElem? (i := 19) rfl)))) dX12_listing_120 ?_
              refine W.lcmp hx hb dX12_listing_123 ?_
              have J_141 : ∀ (y_107 : Int32) (f_106 : Nat → va_E) (H : Heap) (locs : List Loc) (ls : Array Slot), Iv dC dI g A f_106 H → va_S A s.heap H locs → f_106 h0 = .inr (12, [.int (0 : Int32), .int z1, .ref (gr g h0 2), .ref (gr g h0 3), .ref (gr g h0 4), .ref (gr g h0 5), .ref (gr g h0 6), .ref (gr g h0 7), .ref (gr g h0 8), .ref (gr g h0 9), .int z10, .ref (gr g h0 11), .int y_107, .int z13, .int z14, .int z15, .long z16, .int z17, .int z18, .ref (gr g h0 19), .ref (gr g h0 20), .ref (gr g h0 21), .ref (gr g h0 22), .int z23, .long z24, .long z25, .long z26]) → f_106 (gr g h0 4) = .inl (gc g 1, 906, .inr (.inl q)) → f_106 (gr g h0 5) = .inl (gc g 1, 9060, .inr (.inl u)) → f_106 (gr g h0 7) = .inl (gc g 1, 1812, .inr (.inl im)) → f_106 (gr g h0 8) = .inl (gc g 3, 2, .inl kt) → f_106 (gr g h0 19) = .inl (gc g 1, 5, .inr (.inl q_76)) → Kp g [12, 30, 38] f f_106 → (0 ≤ y_107.toInt ∧ y_107.toInt ≤ 9 * (y_33 : Int) + 8) → lv_has ls 6 [(4, .long (q (6 + 43 * m_17 + 24 + y_33))), (3, .int (nI y_33)), (2, .int (nI (6 + 43 * m_17))), (0, .ref h0), (1, .int p1)] → W p l e (headSpec wq_c_X12_listing ({ frames := 2, cells := 0, slots := 0, locals := 46 } : Room)).room s m ([.ref h0, .int p1].toArray) below meth c H locs 0 0 (MQ below (va_Qi (fun (r : Int32) (_ : Unit) => True) (fun (_ : Unit) t => ∃ f1 : Nat → va_E, Iv dC dI g A f1 t.heap ∧ Kp g [12, 30, 38] f f1 ∧ ∃ (w0 : Int32) (w1 : Int32) (w10 : Int32) (w12 : Int32) (w13 : Int32) (w14 : Int32) (w15 : Int32) (w16 : Int64) (w17 : Int32) (w18 : Int32) (w23 : Int32) (w24 : Int64) (w25 : Int64) (w26 : Int64) (q1 : Nat → Int64) (u1 : Nat → Int64) (im1 : Nat → Int64) (ik1 : Nat → Int32), (f1 h0 = .inr (12, [.int w0, .int w1, .ref (gr g h0 2), .ref (gr g h0 3), .ref (gr g h0 4), .ref (gr g h0 5), .ref (gr g h0 6), .ref (gr g h0 7), .ref (gr g h0 8), .ref (gr g h0 9), .int w10, .ref (gr g h0 11), .int w12, .int w13, .int w14, .int w15, .long w16, .int w17, .int w18, .ref (gr g h0 19), .ref (gr g h0 20), .ref (gr g h0 21), .ref (gr g h0 22), .int w23, .long w24, .long w25, .long w26])) ∧ (0 ≤ w10.toInt ∧ w10.toInt ≤ 10) ∧ (0 ≤ w12.toInt ∧ w12.toInt ≤ 200) ∧ (0 ≤ w23.toInt ∧ w23.toInt ≤ 8) ∧ (f1 (gr g h0 4) = .inl (gc g 1, 906, .inr (.inl q1))) ∧ (RowOK q1) ∧ (f1 (gr g h0 5) = .inl (gc g 1, 9060, .inr (.inl u1))) ∧ (f1 (gr g h0 7) = .inl (gc g 1, 1812, .inr (.inl im1))) ∧ (f1 (gr g h0 8) = .inl (gc g 3, 2, .inl ik1)) ∧ (UIq w10 u1 im1 ik1)) A) ([.ref h0, .int p1].toArray) s 0 0 A) (F0 m 141 ls []) := by
                intro y_107 f_106 H locs ls hI hS k_108 k_109 k_110 k_111 k_112 k_113 kp_114 t_115 hl
                refine lv_aload_n hx hb dX12_listing_141 rfl (lv_at hl 3 rfl) ?_
                refine lv_bipush (v := 48) hx hb dX12_listing_142 (by decide) ?_
                refine lv_lload hx hb dX12_listing_144 (lv_at hl 0 rfl) ?_
                refine lv_ldc2 hx hb hown (hts (.constantLong RX12 197 (10)) (List.mem_cons_of_mem _ (List.mem_append_left _ (List.mem_of_getElem? (i := 20) rfl)))) dX12_listing_146 ?_
                refine lv_lrem hx hb dX12_listing_149 (by decide) ?_
                refine lv_topl (fun v_116 ev_116 => ?_)
                refine lv_l2i (v := v_116.toInt32) hx hb dX12_listing_150 rfl ?_
                refine lv_topi (fun v_117 ev_117 => ?_)
                have tv_117 := k_l2i v_116
                rw [← ev_117] at tv_117
                refine lv_iadd hx hb dX12_listing_151 ?_
                refine lv_topi (fun v_118 ev_118 => ?_)
                have tv_118 := k_ad 48 v_117
                rw [← ev_118, show Int32.toInt 48 = 48 from by decide] at tv_118
                refine va_callv (va_runV (As := [.int v_118]) (rest := []) ⟨hx, hb, hml, hown, hts⟩ (c_X12_put l dC dI g A hG f_106 h0 v_118 (0 : Int32) z1 z10 y_107 z13 z14 z15 z16 z17 z18 z23 z24 z25 z26 i_h0 k_108 (by first | omega | (simp only [k_c0]; omega)) (by first | omega | (simp only [k_c0]; omega)) (by first | omega | (simp only [k_c0]; omega)) (by first | omega | decide | (simp only [k_c0, k_c1, k_cm1]; omega))) (cwV 1 hts (gi_V (fun w_ h0_ => ⟨List.mem_cons_of_mem _ (List.mem_append_right _ (List.mem_append_right _ (List.mem_append_right _ (List.mem_append_right _ (List.mem_append_right _ (List.mem_append_right _ (List.mem_append_left _ h0_))))))), (tb_c_X12_put w_ h0_).2⟩) (List.mem_cons_of_mem _ (List.mem_append_left _ (List.mem_of_getElem? (i := 16) rfl))) (List.mem_cons_of_mem _ (List.mem_append_left _ (List.mem_of_getElem? (i := 17) rfl))) (List.mem_cons_of_mem _ (List.mem_append_left _ (List.mem_of_getElem? (i := 18) rfl))) (List.mem_cons_of_mem _ (List.mem_append_left _ (List.mem_of_getElem? (i := 4) rfl)))) rfl rfl rfl (by decide +kernel) ⟨Nat.le_of_ble_eq_true rfl, Nat.le_of_ble_eq_true rfl⟩) ⟨fun a U g mk q => ⟨q.1, q.2.calling rfl rfl⟩, k_recv hK hI i_h0.1 k_108 (ci := 12) rfl, fun U hU hW => ⟨rfl, kIn.of hI hK hE hS hU hW⟩⟩ rfl rfl hl.1 rfl (lv_room (Nat.le_of_ble_eq_true rfl)) dX12_listing_152 ⟨Nat.le_of_ble_eq_true rfl, Nat.le_of_ble_eq_true rfl⟩) hS (fun q _ h => h) (fun q h => h) (fun u t H1 locs ht hvm _ hB hz1 hk1 hS => ?_)
                obtain ⟨f_119, hI, kc_121, w12_122, k_123, z_124⟩ := hB
                rw [ht] at hI
                have k_125 : f_119 (gr g h0 4) = .inl (gc g 1, 906, .inr (.inl q)) := Kp.at kc_121 i_1 (by decide) k_109
                have k_126 : f_119 (gr g h0 5) = .inl (gc g 1, 9060, .inr (.inl u)) := Kp.at kc_121 i_3 (by decide) k_110
                have k_127 : f_119 (gr g h0 7) = .inl (gc g 1, 1812, .inr (.inl im)) := Kp.at kc_121 i_4 (by decide) k_111
                have k_128 : f_119 (gr g h0 8) = .inl (gc g 3, 2, .inl kt) := Kp.at kc_121 i_5 (by decide) k_112
                have k_129 : f_119 (gr g h0 19) = .inl (gc g 1, 5, .inr (.inl q_76)) := Kp.at kc_121 i_69 (by decide) k_113
                have k_123 : f_119 h0 = .inr (12, [.int (0 : Int32), .int z1, .ref (gr g h0 2), .ref (gr g h0 3), .ref (gr g h0 4), .ref (gr g h0 5), .ref (gr g h0 6), .ref (gr g h0 7), .ref (gr g h0 8), .ref (gr g h0 9), .int z10, .ref (gr g h0 11), .int w12_122, .int z13, .int z14, .int z15, .long z16, .int z17, .int z18, .ref (gr g h0 19), .ref (gr g h0 20), .ref (gr g h0 21), .ref (gr g h0 22), .int z23, .long z24, .long z25, .long z26]) := k_123
                have z_124 : w12_122.toInt = y_107.toInt + 1 := z_124
                have kp_130 := Kp.call kp_114 kc_121 (by decide)
                generalize H1 = H at hI hS ⊢
                refine W.widen (k := 0) (n := 0) (Nat.le_of_ble_eq_true rfl) (Nat.le_of_ble_eq_true rfl) ?_
                refine lv_iinc (v := nI (y_33 + 1)) (lv' := [(3, .int (nI (y_33 + 1))), (4, .long (q (6 + 43 * m_17 + 24 + y_33))), (2, .int (nI (6 + 43 * m_17))), (0, .ref h0), (1, .int p1)]) hx hb dX12_listing_155 hl (k := 1) rfl (nI_1 _) (by decide) rfl (fun ls hl => ?_)
                refine lv_goto (tgt := 53) hx hb dX12_listing_158 (by decide) ?_
                exact ih (y_33 + 1) w12_122 f_119 _ _ _ (by omega) hI hS k_123 k_125 k_126 k_127 k_128 kp_130 (by first | omega | decide) (by first | omega | decide) (lv_sub hl [0, 2, 3, 4] rfl)
              refine lv_if_le (tgt := 141) hx hb dX12_listing_124 (by decide) (fun c_131 => ?_) (fun c_131 => ?_)
              · have c_131 := lc_le rfl (by decide : Int64.toInt 9 = 9) ((lg_cmp_le _ _).mp c_131)
                exact J_141 w12_94 f_91 _ _ _ hI hS k_95 k_97 k_98 k_99 k_100 k_101 kp_102 (by first | omega | decide) (lv_sub hl [0, 1, 2, 3, 4] rfl)
              · have c_131 := ln_le rfl (by decide : Int64.toInt 9 = 9) (fun h9 => c_131 ((lg_cmp_le _ _).mpr h9))
                refine lv_aload_n hx hb dX12_listing_127 rfl (lv_at hl 3 rfl) ?_
                refine lv_bipush (v := 48) hx hb dX12_listing_128 (by decide) ?_
                refine lv_lload hx hb dX12_listing_130 (lv_at hl 0 rfl) ?_
                refine lv_ldc2 hx hb hown (hts (.constantLong RX12 197 (10)) (List.mem_cons_of_mem _ (List.mem_append_left _ (List.mem_of_getElem? (i := 20) rfl)))) dX12_listing_132 ?_
                refine lv_ldiv hx hb dX12_listing_135 (by decide) ?_
                refine lv_topl (fun v_132 ev_132 => ?_)
                refine lv_l2i (v := v_132.toInt32) hx hb dX12_listing_136 rfl ?_
                refine lv_topi (fun v_133 ev_133 => ?_)
                have tv_133 := k_l2i v_132
                rw [← ev_133] at tv_133
                refine lv_iadd hx hb dX12_listing_137 ?_
                refine lv_topi (fun v_134 ev_134 => ?_)
                have tv_134 := k_ad 48 v_133
                rw [← ev_134, show Int32.toInt 48 = 48 from by decide] at tv_134
                refine va_callv (va_runV (As := [.int v_134]) (rest := []) ⟨hx, hb, hml, hown, hts⟩ (c_X12_put l dC dI g A hG f_91 h0 v_134 (0 : Int32) z1 z10 w12_94 z13 z14 z15 z16 z17 z18 z23 z24 z25 z26 i_h0 k_95 (by first | omega | (simp only [k_c0]; omega)) (by first | omega | (simp only [k_c0]; omega)) (by first | omega | (simp only [k_c0]; omega)) (by first | omega | decide | (simp only [k_c0, k_c1, k_cm1]; omega))) (cwV 1 hts (gi_V (fun w_ h0_ => ⟨List.mem_cons_of_mem _ (List.mem_append_right _ (List.mem_append_right _ (List.mem_append_right _ (List.mem_append_right _ (List.mem_append_right _ (List.mem_append_right _ (List.mem_append_left _ h0_))))))), (tb_c_X12_put w_ h0_).2⟩) (List.mem_cons_of_mem _ (List.mem_append_left _ (List.mem_of_getElem? (i := 16) rfl))) (List.mem_cons_of_mem _ (List.mem_append_left _ (List.mem_of_getElem? (i := 17) rfl))) (List.mem_cons_of_mem _ (List.mem_append_left _ (List.mem_of_getElem? (i := 18) rfl))) (List.mem_cons_of_mem _ (List.mem_append_left _ (List.mem_of_getElem? (i := 4) rfl)))) rfl rfl rfl (by decide +kernel) ⟨Nat.le_of_ble_eq_true rfl, Nat.le_of_ble_eq_true rfl⟩) ⟨fun a U g mk q => ⟨q.1, q.2.calling rfl rfl⟩, k_recv hK hI i_h0.1 k_95 (ci := 12) rfl, fun U hU hW => ⟨rfl, kIn.of hI hK hE hS hU hW⟩⟩ rfl rfl hl.1 rfl (lv_room (Nat.le_of_ble_eq_true rfl)) dX12_listing_138 ⟨Nat.le_of_ble_eq_true rfl, Nat.le_of_ble_eq_true rfl⟩) hS (fun q _ h => h) (fun q h => h) (fun u t H1 locs ht hvm _ hB hz1 hk1 hS => ?_)
                obtain ⟨f_135, hI, kc_137, w12_138, k_139, z_140⟩ := hB
                rw [ht] at hI
                have k_141 : f_135 (gr g h0 4) = .inl (gc g 1, 906, .inr (.inl q)) := Kp.at kc_137 i_1 (by decide) k_97
                have k_142 : f_135 (gr g h0 5) = .inl (gc g 1, 9060, .inr (.inl u)) := Kp.at kc_137 i_3 (by decide) k_98
                have k_143 : f_135 (gr g h0 7) = .inl (gc g 1, 1812, .inr (.inl im)) := Kp.at kc_137 i_4 (by decide) k_99
                have k_144 : f_135 (gr g h0 8) = .inl (gc g 3, 2, .inl kt) := Kp.at kc_137 i_5 (by decide) k_100
                have k_145 : f_135 (gr g h0 19) = .inl (gc g 1, 5, .inr (.inl q_76)) := Kp.at kc_137 i_69 (by decide) k_101
                have k_139 : f_135 h0 = .inr (12, [.int (0 : Int32), .int z1, .ref (gr g h0 2), .ref (gr g h0 3), .ref (gr g h0 4), .ref (gr g h0 5), .ref (gr g h0 6), .ref (gr g h0 7), .ref (gr g h0 8), .ref (gr g h0 9), .int z10, .ref (gr g h0 11), .int w12_138, .int z13, .int z14, .int z15, .long z16, .int z17, .int z18, .ref (gr g h0 19), .ref (gr g h0 20), .ref (gr g h0 21), .ref (gr g h0 22), .int z23, .long z24, .long z25, .long z26]) := k_139
                have z_140 : w12_138.toInt = w12_94.toInt + 1 := z_140
                have kp_146 := Kp.call kp_102 kc_137 (by decide)
                generalize H1 = H at hI hS ⊢
                refine W.widen (k := 0) (n := 0) (Nat.le_of_ble_eq_true rfl) (Nat.le_of_ble_eq_true rfl) ?_
                exact J_141 w12_138 f_135 _ _ _ hI hS k_139 k_141 k_142 k_143 k_144 k_145 kp_146 (by first | omega | decide) (lv_sub hl [0, 1, 2, 3, 4] rfl)
            refine lv_if_le (tgt := 78) hx hb dX12_listing_69 (by decide) (fun c_147 => ?_) (fun c_147 => ?_)
            · have c_147 := kc_le (nI_toInt (n := y_33) (by omega)) (by decide : Int32.toInt 0 = 0) c_147
              exact J_78 y_35 f_34 _ _ _ hI hS k_36 k_37 k_38 k_39 k_40 kp_41 (by first | omega | decide) (lv_sub hl [0, 1, 2, 3] rfl)
            · have c_147 := kn_le (nI_toInt (n := y_33) (by omega)) (by decide : Int32.toInt 0 = 0) c_147
              refine lv_aload_n hx hb dX12_listing_72 rfl (lv_at hl 2 rfl) ?_
              refine lv_bipush (v := 44) hx hb dX12_listing_73 (by decide) ?_
              refine va_callv (va_runV (As := [.int 44]) (rest := []) ⟨hx, hb, hml, hown, hts⟩ (c_X12_put l dC dI g A hG f_34 h0 44 0 z1 z10 y_35 z13 z14 z15 z16 z17 z18 z23 z24 z25 z26 i_h0 k_36 (by first | omega | (simp only [k_c0]; omega)) (by first | omega | (simp only [k_c0]; omega)) (by first | omega | (simp only [k_c0]; omega)) (by decide)) (cwV 1 hts (gi_V (fun w_ h0_ => ⟨List.mem_cons_of_mem _ (List.mem_append_right _ (List.mem_append_right _ (List.mem_append_right _ (List.mem_append_right _ (List.mem_append_right _ (List.mem_append_right _ (List.mem_append_left _ h0_))))))), (tb_c_X12_put w_ h0_).2⟩) (List.mem_cons_of_mem _ (List.mem_append_left _ (List.mem_of_getElem? (i := 16) rfl))) (List.mem_cons_of_mem _ (List.mem_append_left _ (List.mem_of_getElem? (i := 17) rfl))) (List.mem_cons_of_mem _ (List.mem_append_left _ (List.mem_of_getElem? (i := 18) rfl))) (List.mem_cons_of_mem _ (List.mem_append_left _ (List.mem_of_getElem? (i := 4) rfl)))) rfl rfl rfl (by decide +kernel) ⟨Nat.le_of_ble_eq_true rfl, Nat.le_of_ble_eq_true rfl⟩) ⟨fun a U g mk q => ⟨q.1, q.2.calling rfl rfl⟩, k_recv hK hI i_h0.1 k_36 (ci := 12) rfl, fun U hU hW => ⟨rfl, kIn.of hI hK hE hS hU hW⟩⟩ rfl rfl hl.1 rfl (lv_room (Nat.le_of_ble_eq_true rfl)) dX12_listing_75 ⟨Nat.le_of_ble_eq_true rfl, Nat.le_of_ble_eq_true rfl⟩) hS (fun q _ h => h) (fun q h => h) (fun u t H1 locs ht hvm _ hB hz1 hk1 hS => ?_)
              obtain ⟨f_148, hI, kc_150, w12_151, k_152, z_153⟩ := hB
              rw [ht] at hI
              have k_154 : f_148 (gr g h0 4) = .inl (gc g 1, 906, .inr (.inl q)) := Kp.at kc_150 i_1 (by decide) k_37
              have k_155 : f_148 (gr g h0 5) = .inl (gc g 1, 9060, .inr (.inl u)) := Kp.at kc_150 i_3 (by decide) k_38
              have k_156 : f_148 (gr g h0 7) = .inl (gc g 1, 1812, .inr (.inl im)) := Kp.at kc_150 i_4 (by decide) k_39
              have k_157 : f_148 (gr g h0 8) = .inl (gc g 3, 2, .inl kt) := Kp.at kc_150 i_5 (by decide) k_40
              have k_152 : f_148 h0 = .inr (12, [.int (0 : Int32), .int z1, .ref (gr g h0 2), .ref (gr g h0 3), .ref (gr g h0 4), .ref (gr g h0 5), .ref (gr g h0 6), .ref (gr g h0 7), .ref (gr g h0 8), .ref (gr g h0 9), .int z10, .ref (gr g h0 11), .int w12_151, .int z13, .int z14, .int z15, .long z16, .int z17, .int z18, .ref (gr g h0 19), .ref (gr g h0 20), .ref (gr g h0 21), .ref (gr g h0 22), .int z23, .long z24, .long z25, .long z26]) := k_152
              have z_153 : w12_151.toInt = y_35.toInt + 1 := z_153
              have kp_158 := Kp.call kp_41 kc_150 (by decide)
              generalize H1 = H at hI hS ⊢
              refine W.widen (k := 0) (n := 0) (Nat.le_of_ble_eq_true rfl) (Nat.le_of_ble_eq_true rfl) ?_
              exact J_78 w12_151 f_148 _ _ _ hI hS k_152 k_154 k_155 k_156 k_157 kp_158 (by first | omega | decide) (lv_sub hl [0, 1, 2, 3] rfl)
      exact K_53 _ 0 0 f_25 _ _ _ (Nat.lt_succ_self _) hI hS k_28 k_29 k_30 k_31 k_32 kp_27 (by first | omega | decide | (simp only [show Int32.toInt 0 = 0 from by decide]; omega)) (by first | omega | decide | (simp only [show Int32.toInt 0 = 0 from by decide]; omega)) (lv_sub hl [0, 1, 2, 3] rfl)
    · have c_23 := lc_eq rfl (by decide : Int64.toInt 0 = 0) ((lg_cmp_eq _ _).mp c_23)
      refine lv_aload_n hx hb dX12_listing_39 rfl (lv_at hl 1 rfl) ?_
      refine lv_bipush (v := (-4)) hx hb dX12_listing_40 (by decide) ?_
      refine va_calli (va_runV (As := [.int (-4)]) (rest := []) ⟨hx, hb, hml, hown, hts⟩ (c_X12_refuse l dC dI g A hG f_6 h0 (-4) 0 z1 z10 z12 z13 z14 z15 z16 z17 z18 z23 z24 z25 z26 i_h0 k_9 (by first | omega | (simp only [k_c0]; omega)) (by first | omega | (simp only [k_c0]; omega)) (by first | omega | (simp only [k_c0]; omega)) (by decide)) (cwV 1 hts (gi_V (fun w_ h0_ => ⟨List.mem_cons_of_mem _ (List.mem_append_right _ (List.mem_append_right _ (List.mem_append_right _ (List.mem_append_right _ (List.mem_append_right _ (List.mem_append_right _ (List.mem_append_right _ (List.mem_append_left _ h0_)))))))), (tb_c_X12_refuse w_ h0_).2⟩) (List.mem_cons_of_mem _ (List.mem_append_left _ (List.mem_of_getElem? (i := 21) rfl))) (List.mem_cons_of_mem _ (List.mem_append_left _ (List.mem_of_getElem? (i := 22) rfl))) (List.mem_cons_of_mem _ (List.mem_append_left _ (List.mem_of_getElem? (i := 23) rfl))) (List.mem_cons_of_mem _ (List.mem_append_left _ (List.mem_of_getElem? (i := 4) rfl)))) rfl rfl rfl (by decide +kernel) ⟨Nat.le_of_ble_eq_true rfl, Nat.le_of_ble_eq_true rfl⟩) ⟨fun a U g mk q => ⟨q.1, q.2.calling rfl rfl⟩, k_recv hK hI i_h0.1 k_9 (ci := 12) rfl, fun U hU hW => ⟨rfl, kIn.of hI hK hE hS hU hW⟩⟩ rfl rfl hl.1 rfl (lv_room (Nat.le_of_ble_eq_true rfl)) dX12_listing_42 ⟨Nat.le_of_ble_eq_true rfl, Nat.le_of_ble_eq_true rfl⟩) hS (fun q _ h => h) (fun q h => h) (fun r_161 u t H1 locs ht hvm w_160 hB hz1 hk1 hS => ?_)
      obtain ⟨f_159, hI, kc_162, k_163⟩ := hB
      rw [ht] at hI
      have k_164 : f_159 (gr g h0 4) = .inl (gc g 1, 906, .inr (.inl q)) := Kp.at kc_162 i_1 (by decide) k_10
      have k_165 : f_159 (gr g h0 5) = .inl (gc g 1, 9060, .inr (.inl u)) := Kp.at kc_162 i_3 (by decide) k_11
      have k_166 : f_159 (gr g h0 7) = .inl (gc g 1, 1812, .inr (.inl im)) := Kp.at kc_162 i_4 (by decide) k_12
      have k_167 : f_159 (gr g h0 8) = .inl (gc g 3, 2, .inl kt) := Kp.at kc_162 i_5 (by decide) k_13
      have k_163 : f_159 h0 = .inr (12, [.int (0 : Int32), .int (-4 : Int32), .ref (gr g h0 2), .ref (gr g h0 3), .ref (gr g h0 4), .ref (gr g h0 5), .ref (gr g h0 6), .ref (gr g h0 7), .ref (gr g h0 8), .ref (gr g h0 9), .int z10, .ref (gr g h0 11), .int z12, .int z13, .int z14, .int z15, .long z16, .int z17, .int z18, .ref (gr g h0 19), .ref (gr g h0 20), .ref (gr g h0 21), .ref (gr g h0 22), .int z23, .long z24, .long z25, .long z26]) := k_163
      have kp_168 := Kp.call kp_8 kc_162 (by decide)
      generalize H1 = H at hI hS ⊢
      refine W.widen (k := 0) (n := 0) (Nat.le_of_ble_eq_true rfl) (Nat.le_of_ble_eq_true rfl) ?_
      have w_160 : r_161.toInt = (-4 : Int32).toInt := w_160
      have g_169 : Int32.toInt ((-4)) = (-4) := by decide
      exact W.iret (v := r_161) hx hb hr (fun t ht hW => ⟨⟨r_161, (), rfl, trivial, ⟨f_159, k_ret ht hI, kp_168, (0 : Int32), (-4 : Int32), z10, z12, z13, z14, z15, z16, z17, z18, z23, z24, z25, z26, q, u, im, kt, k_163, (by first | omega | decide), (by first | omega | decide), (by first | omega | decide), k_164, hc1_ok, k_165, k_166, k_167, hU⟩⟩, hS.F ht⟩) hS.2.2 dX12_listing_45
  · have c_16 := kc_eq rfl (by decide : Int32.toInt 0 = 0) c_16
    refine lv_aload_n hx hb dX12_listing_13 rfl (lv_at hl 0 rfl) ?_
    refine lv_bipush (v := (-2)) hx hb dX12_listing_14 (by decide) ?_
    refine va_calli (va_runV (As := [.int (-2)]) (rest := []) ⟨hx, hb, hml, hown, hts⟩ (c_X12_refuse l dC dI g A hG f_6 h0 (-2) 0 z1 z10 z12 z13 z14 z15 z16 z17 z18 z23 z24 z25 z26 i_h0 k_9 (by first | omega | (simp only [k_c0]; omega)) (by first | omega | (simp only [k_c0]; omega)) (by first | omega | (simp only [k_c0]; omega)) (by decide)) (cwV 1 hts (gi_V (fun w_ h0_ => ⟨List.mem_cons_of_mem _ (List.mem_append_right _ (List.mem_append_right _ (List.mem_append_right _ (List.mem_append_right _ (List.mem_append_right _ (List.mem_append_right _ (List.mem_append_right _ (List.mem_append_left _ h0_)))))))), (tb_c_X12_refuse w_ h0_).2⟩) (List.mem_cons_of_mem _ (List.mem_append_left _ (List.mem_of_getElem? (i := 21) rfl))) (List.mem_cons_of_mem _ (List.mem_append_left _ (List.mem_of_getElem? (i := 22) rfl))) (List.mem_cons_of_mem _ (List.mem_append_left _ (List.mem_of_getElem? (i := 23) rfl))) (List.mem_cons_of_mem _ (List.mem_append_left _ (List.mem_of_getElem? (i := 4) rfl)))) rfl rfl rfl (by decide +kernel) ⟨Nat.le_of_ble_eq_true rfl, Nat.le_of_ble_eq_true rfl⟩) ⟨fun a U g mk q => ⟨q.1, q.2.calling rfl rfl⟩, k_recv hK hI i_h0.1 k_9 (ci := 12) rfl, fun U hU hW => ⟨rfl, kIn.of hI hK hE hS hU hW⟩⟩ rfl rfl hl.1 rfl (lv_room (Nat.le_of_ble_eq_true rfl)) dX12_listing_16 ⟨Nat.le_of_ble_eq_true rfl, Nat.le_of_ble_eq_true rfl⟩) hS (fun q _ h => h) (fun q h => h) (fun r_172 u t H1 locs ht hvm w_171 hB hz1 hk1 hS => ?_)
    obtain ⟨f_170, hI, kc_173, k_174⟩ := hB
    rw [ht] at hI
    have k_175 : f_170 (gr g h0 4) = .inl (gc g 1, 906, .inr (.inl q)) := Kp.at kc_173 i_1 (by decide) k_10
    have k_176 : f_170 (gr g h0 5) = .inl (gc g 1, 9060, .inr (.inl u)) := Kp.at kc_173 i_3 (by decide) k_11
    have k_177 : f_170 (gr g h0 7) = .inl (gc g 1, 1812, .inr (.inl im)) := Kp.at kc_173 i_4 (by decide) k_12
    have k_178 : f_170 (gr g h0 8) = .inl (gc g 3, 2, .inl kt) := Kp.at kc_173 i_5 (by decide) k_13
    have k_174 : f_170 h0 = .inr (12, [.int (0 : Int32), .int (-2 : Int32), .ref (gr g h0 2), .ref (gr g h0 3), .ref (gr g h0 4), .ref (gr g h0 5), .ref (gr g h0 6), .ref (gr g h0 7), .ref (gr g h0 8), .ref (gr g h0 9), .int z10, .ref (gr g h0 11), .int z12, .int z13, .int z14, .int z15, .long z16, .int z17, .int z18, .ref (gr g h0 19), .ref (gr g h0 20), .ref (gr g h0 21), .ref (gr g h0 22), .int z23, .long z24, .long z25, .long z26]) := k_174
    have kp_179 := Kp.call kp_8 kc_173 (by decide)
    generalize H1 = H at hI hS ⊢
    refine W.widen (k := 0) (n := 0) (Nat.le_of_ble_eq_true rfl) (Nat.le_of_ble_eq_true rfl) ?_
    have w_171 : r_172.toInt = (-2 : Int32).toInt := w_171
    have g_180 : Int32.toInt ((-2)) = (-2) := by decide
    exact W.iret (v := r_172) hx hb hr (fun t ht hW => ⟨⟨r_172, (), rfl, trivial, ⟨f_170, k_ret ht hI, kp_179, (0 : Int32), (-2 : Int32), z10, z12, z13, z14, z15, z16, z17, z18, z23, z24, z25, z26, q, u, im, kt, k_174, (by first | omega | decide), (by first | omega | decide), (by first | omega | decide), k_175, hc1_ok, k_176, k_177, k_178, hU⟩⟩, hS.F ht⟩) hS.2.2 dX12_listing_19
theorem tw_1005 : q_g (.code yX12_task cX12_task 5 (some .int)) := ⟨(List.mem_append_right _ (List.mem_of_getElem? (i := 1220) (by decide +kernel))), good_of_word (by decide +kernel)⟩
def ow_c_X12_task : List Cond := [.fieldLink RX12 67 "DeadlineShareModel" "thrown" "I", .constantLong RX12 135 (8), .methodLink RX12 83 yX12_in, .static yX12_in, .initialized RX12, .methodLink RX12 76 yX12_refuse, .instanceMethod yX12_refuse, .selects RX12 yX12_refuse yX12_refuse, .constantLong RX12 137 (20), .fieldLink RX12 16 "DeadlineShareModel" "row" "[J", .methodLink RX12 139 yX12_remember, .instanceMethod yX12_remember, .selects RX12 yX12_remember yX12_remember, .methodLink RX12 87 yX12_at, .static yX12_at, .methodLink RX12 80 yX12_tell, .instanceMethod yX12_tell, .selects RX12 yX12_tell yX12_tell]
def wq_c_X12_task : List Cond := .code yX12_task cX12_task 5 (some .int) :: (ow_c_X12_task ++ (u_ws RX12 TX12 27 ++ (wq_c_X12_in ++ (wq_c_X12_refuse ++ (wq_c_X12_remember ++ (wq_c_X12_at ++ (wq_c_X12_tell ++ ([] : List Cond))))))))
theorem tb_c_X12_task : ∀ w ∈ wq_c_X12_task, q_g w := by
  unfold wq_c_X12_task ow_c_X12_task
  exact q_cons tw_1005 (q_app (q_cons tw_927 (q_cons tw_956 (q_cons tw_730 (q_cons tw_729 (q_cons tw_728 (q_cons tw_966 (q_cons tw_965 (q_cons tw_964 (q_cons tw_970 (q_cons tw_731 (q_cons tw_963 (q_cons tw_962 (q_cons tw_961 (q_cons tw_734 (q_cons tw_733 (q_cons tw_960 (q_cons tw_959 (q_cons tw_958 q_nil)))))))))))))))))) (q_app tu_X12 (q_app tb_c_X12_in (q_app tb_c_X12_refuse (q_app tb_c_X12_remember (q_app tb_c_X12_at (q_app tb_c_X12_tell q_nil)))))))
set_option maxHeartbeats 4000000 in
set_option maxRecDepth 100000 in
theorem c_X12_task (l : Launch) (dC : Nat → ClassId) (dI : Nat → Nat → Nat) (g : kG) (A : Nat → Prop) (hG : kWf g) (f : Nat → va_E) (h0 : Nat) (p1 : Int32) (p2 : Int32) (z0 : Int32) (z1 : Int32) (z10 : Int32) (z12 : Int32) (z13 : Int32) (z14 : Int32) (z15 : Int32) (z16 : Int64) (z17 : Int32) (z18 : Int32) (z23 : Int32) (z24 : Int64) (z25 : Int64) (z26 : Int64) (q : Nat → Int64) (u : Nat → Int64) (im : Nat → Int64) (kt : Nat → Int32) (i_h0 : ik g 12 h0) (hc0 : f h0 = .inr (12, [.int z0, .int z1, .ref (gr g h0 2), .ref (gr g h0 3), .ref (gr g h0 4), .ref (gr g h0 5), .ref (gr g h0 6), .ref (gr g h0 7), .ref (gr g h0 8), .ref (gr g h0 9), .int z10, .ref (gr g h0 11), .int z12, .int z13, .int z14, .int z15, .long z16, .int z17, .int z18, .ref (gr g h0 19), .ref (gr g h0 20), .ref (gr g h0 21), .ref (gr g h0 22), .int z23, .long z24, .long z25, .long z26])) (hc0_10 : 0 ≤ z10.toInt ∧ z10.toInt ≤ 10) (hc0_12 : 0 ≤ z12.toInt ∧ z12.toInt ≤ 200) (hc0_23 : 0 ≤ z23.toInt ∧ z23.toInt ≤ 8) (hc1 : f (gr g h0 4) = .inl (gc g 1, 906, .inr (.inl q))) (hc1_ok : RowOK q) (hc2 : f (gr g h0 5) = .inl (gc g 1, 9060, .inr (.inl u))) (hc3 : f (gr g h0 7) = .inl (gc g 1, 1812, .inr (.inl im))) (hc4 : f (gr g h0 8) = .inl (gc g 3, 2, .inl kt)) (hU : UIq z10 u im kt) : Met l yX12_task wq_c_X12_task ({ frames := 1, cells := 0, slots := 0, locals := 25 } : Room) (va_Pc [.ref h0, .int p1, .int p2] (fun U => kIn dC dI g A f U)) (va_Qi (fun (r : Int32) (_ : Unit) => True) (fun (_ : Unit) t => ∃ f1 : Nat → va_E, Iv dC dI g A f1 t.heap ∧ Kp g [12, 30, 32, 33, 37] f f1 ∧ ∃ (w0 : Int32) (w1 : Int32) (w10 : Int32) (w12 : Int32) (w13 : Int32) (w14 : Int32) (w15 : Int32) (w16 : Int64) (w17 : Int32) (w18 : Int32) (w23 : Int32) (w24 : Int64) (w25 : Int64) (w26 : Int64) (q1 : Nat → Int64) (u1 : Nat → Int64) (im1 : Nat → Int64) (ik1 : Nat → Int32), (f1 h0 = .inr (12, [.int w0, .int w1, .ref (gr g h0 2), .ref (gr g h0 3), .ref (gr g h0 4), .ref (gr g h0 5), .ref (gr g h0 6), .ref (gr g h0 7), .ref (gr g h0 8), .ref (gr g h0 9), .int w10, .ref (gr g h0 11), .int w12, .int w13, .int w14, .int w15, .long w16, .int w17, .int w18, .ref (gr g h0 19), .ref (gr g h0 20), .ref (gr g h0 21), .ref (gr g h0 22), .int w23, .long w24, .long w25, .long w26])) ∧ (0 ≤ w10.toInt ∧ w10.toInt ≤ 10) ∧ (0 ≤ w12.toInt ∧ w12.toInt ≤ 200) ∧ (0 ≤ w23.toInt ∧ w23.toInt ≤ 8) ∧ (f1 (gr g h0 4) = .inl (gc g 1, 906, .inr (.inl q1))) ∧ (RowOK q1) ∧ (f1 (gr g h0 5) = .inl (gc g 1, 9060, .inr (.inl u1))) ∧ (f1 (gr g h0 7) = .inl (gc g 1, 1812, .inr (.inl im1))) ∧ (f1 (gr g h0 8) = .inl (gc g 3, 2, .inl ik1)) ∧ (UIq w10 u1 im1 ik1)) A) 0 0 A := by
  refine Met.ofW (cc := cX12_task) (maxL := 5) (ret := (some .int)) (by decide) rfl ?_
  intro p e s m args below meth c s₁ B hml hv
  obtain ⟨rfl, hI, hK, hE⟩ := hv
  have hx := B.exec
  have hb := B.bytes
  have hr := B.returns
  have hts := atoms_spec (ws := wq_c_X12_task) B.pre
  have hown : s.vm.findClass RX12 = some m.cls := findClass_of_methodNamed B.named
  have hlocks := B.notSynchronized
  have hS : va_S A s.heap s.heap [] := va_S.rf
  have hk0 : Kp g [12, 30, 32, 33, 37] f f := Kp.rf
  have hl := lv_entry ([.ref h0, .int p1, .int p2]) (n := 5) (Nat.le_of_ble_eq_true rfl)
  rw [lg_entry_eq]
  generalize (lg_sl ([.ref h0, .int p1, .int p2]) ++ List.replicate (5 - (lg_sl ([.ref h0, .int p1, .int p2])).length) Slot.unset).toArray = ls at hl ⊢
  have hl : lv_has ls 5 [(0, .ref h0), (1, .int p1), (2, .int p2)] := hl
  have i_1 := kw_12_4 hG i_h0
  have d_2 := rk_hd hc1_ok
  have i_3 := kw_12_5 hG i_h0
  have i_4 := kw_12_7 hG i_h0
  have i_5 := kw_12_8 hG i_h0
  refine lv_aload_n hx hb dX12_task_0 rfl (lv_at hl 0 rfl) ?_
  refine lv_iconst (v := 0) hx hb dX12_task_1 (by decide) ?_
  refine k_put (ci := 12) (v := .int 0) (ty := .int) (C := RX12) (T := TX12) (N := 27) hx hb hts (fun _ h0_ => List.mem_cons_of_mem _ (List.mem_append_right _ (List.mem_append_left _ h0_))) tyX12 tyX12_ok nmX12 hown hK hI hS i_h0.1 hc0 rfl 0 (by decide) (hts (.fieldLink RX12 67 "DeadlineShareModel" "thrown" "I") (List.mem_cons_of_mem _ (List.mem_append_left _ (List.mem_of_getElem? (i := 0) rfl)))) (fun _ h9 => h9) rfl (by decide +kernel) rfl rfl (Nat.le_of_ble_eq_true rfl) rfl (cl_12 i_h0 (by omega) (by omega) (by omega)) dX12_task_2 (fun f_6 H locs e_7 hI hS => ?_)
  have k_9 : f_6 h0 = .inr (12, [.int 0, .int z1, .ref (gr g h0 2), .ref (gr g h0 3), .ref (gr g h0 4), .ref (gr g h0 5), .ref (gr g h0 6), .ref (gr g h0 7), .ref (gr g h0 8), .ref (gr g h0 9), .int z10, .ref (gr g h0 11), .int z12, .int z13, .int z14, .int z15, .long z16, .int z17, .int z18, .ref (gr g h0 19), .ref (gr g h0 20), .ref (gr g h0 21), .ref (gr g h0 22), .int z23, .long z24, .long z25, .long z26]) := by rw [e_7]; exact va_up_self _ _ _
  have k_10 : f_6 (gr g h0 4) = .inl (gc g 1, 906, .inr (.inl q)) := by rw [e_7, va_up_ne _ _ (ik_ne i_1 i_h0 (by decide))]; exact hc1
  have k_11 : f_6 (gr g h0 5) = .inl (gc g 1, 9060, .inr (.inl u)) := by rw [e_7, va_up_ne _ _ (ik_ne i_3 i_h0 (by decide))]; exact hc2
  have k_12 : f_6 (gr g h0 7) = .inl (gc g 1, 1812, .inr (.inl im)) := by rw [e_7, va_up_ne _ _ (ik_ne i_4 i_h0 (by decide))]; exact hc3
  have k_13 : f_6 (gr g h0 8) = .inl (gc g 3, 2, .inl kt) := by rw [e_7, va_up_ne _ _ (ik_ne i_5 i_h0 (by decide))]; exact hc4
  have kp_8 := Kp.put hk0 i_h0 (by decide) e_7
  refine lv_iload_n hx hb dX12_task_5 rfl (lv_at hl 1 rfl) ?_
  refine lv_i2l (v := p1.toInt64) hx hb dX12_task_6 rfl ?_
  have t_14 := Int32.toInt_toInt64 p1
  refine lv_lconst (v := 1) hx hb dX12_task_7 (by decide) ?_
  refine lv_ldc2 hx hb hown (hts (.constantLong RX12 135 (8)) (List.mem_cons_of_mem _ (List.mem_append_left _ (List.mem_of_getElem? (i := 1) rfl)))) dX12_task_8 ?_
  refine va_calli (va_runS (As := [.long p1.toInt64, .long 1, .long 8]) (rest := []) ⟨hx, hb, hml, hown, hts⟩ (c_X12_in l dC dI g A hG f_6 p1.toInt64 1 8) (va_cwS 3 hts (gi_S (fun w_ h0_ => ⟨List.mem_cons_of_mem _ (List.mem_append_right _ (List.mem_append_right _ (List.mem_append_left _ h0_))), (tb_c_X12_in w_ h0_).2⟩) (List.mem_cons_of_mem _ (List.mem_append_left _ (List.mem_of_getElem? (i := 2) rfl))) (List.mem_cons_of_mem _ (List.mem_append_left _ (List.mem_of_getElem? (i := 3) rfl))) (List.mem_cons_of_mem _ (List.mem_append_left _ (List.mem_of_getElem? (i := 4) rfl)))) rfl rfl rfl (by decide +kernel) ⟨Nat.le_of_ble_eq_true rfl, Nat.le_of_ble_eq_true rfl⟩) ⟨fun a U g mk q => ⟨q.1, q.2.calling rfl rfl⟩, fun U hU hW => ⟨rfl, kIn.of hI hK hE hS hU hW⟩⟩ rfl rfl hl.1 rfl (lv_room (Nat.le_of_ble_eq_true rfl)) dX12_task_11 ⟨Nat.le_of_ble_eq_true rfl, Nat.le_of_ble_eq_true rfl⟩) hS (fun q _ h => h) (fun q h => h) (fun r_16 u t H1 locs ht hvm w_15 hB hz1 hk1 hS => ?_)
  have hI : Iv dC dI g A f_6 t.heap := hB
  rw [ht] at hI
  generalize H1 = H at hI hS ⊢
  refine W.widen (k := 0) (n := 0) (Nat.le_of_ble_eq_true rfl) (Nat.le_of_ble_eq_true rfl) ?_
  have w_15 : (r_16.toInt = 0 ∧ (p1.toInt64.toInt < (1 : Int64).toInt ∨ (8 : Int64).toInt < p1.toInt64.toInt)) ∨ (r_16.toInt = 1 ∧ (1 : Int64).toInt ≤ p1.toInt64.toInt ∧ p1.toInt64.toInt ≤ (8 : Int64).toInt) := w_15
  have g_17 : Int64.toInt (1) = 1 := by decide
  have g_18 : Int64.toInt (8) = 8 := by decide
  have J_29 : ∀ (H : Heap) (locs : List Loc) (ls : Array Slot), Iv dC dI g A f_6 H → va_S A s.heap H locs → lv_has ls 5 [(0, .ref h0), (1, .int p1), (2, .int p2)] → W p l e (headSpec wq_c_X12_task ({ frames := 1, cells := 0, slots := 0, locals := 25 } : Room)).room s m ([.ref h0, .int p1, .int p2].toArray) below meth c H locs 0 0 (MQ below (va_Qi (fun (r : Int32) (_ : Unit) => True) (fun (_ : Unit) t => ∃ f1 : Nat → va_E, Iv dC dI g A f1 t.heap ∧ Kp g [12, 30, 32, 33, 37] f f1 ∧ ∃ (w0 : Int32) (w1 : Int32) (w10 : Int32) (w12 : Int32) (w13 : Int32) (w14 : Int32) (w15 : Int32) (w16 : Int64) (w17 : Int32) (w18 : Int32) (w23 : Int32) (w24 : Int64) (w25 : Int64) (w26 : Int64) (q1 : Nat → Int64) (u1 : Nat → Int64) (im1 : Nat → Int64) (ik1 : Nat → Int32), (f1 h0 = .inr (12, [.int w0, .int w1, .ref (gr g h0 2), .ref (gr g h0 3), .ref (gr g h0 4), .ref (gr g h0 5), .ref (gr g h0 6), .ref (gr g h0 7), .ref (gr g h0 8), .ref (gr g h0 9), .int w10, .ref (gr g h0 11), .int w12, .int w13, .int w14, .int w15, .long w16, .int w17, .int w18, .ref (gr g h0 19), .ref (gr g h0 20), .ref (gr g h0 21), .ref (gr g h0 22), .int w23, .long w24, .long w25, .long w26])) ∧ (0 ≤ w10.toInt ∧ w10.toInt ≤ 10) ∧ (0 ≤ w12.toInt ∧ w12.toInt ≤ 200) ∧ (0 ≤ w23.toInt ∧ w23.toInt ≤ 8) ∧ (f1 (gr g h0 4) = .inl (gc g 1, 906, .inr (.inl q1))) ∧ (RowOK q1) ∧ (f1 (gr g h0 5) = .inl (gc g 1, 9060, .inr (.inl u1))) ∧ (f1 (gr g h0 7) = .inl (gc g 1, 1812, .inr (.inl im1))) ∧ (f1 (gr g h0 8) = .inl (gc g 3, 2, .inl ik1)) ∧ (UIq w10 u1 im1 ik1)) A) ([.ref h0, .int p1, .int p2].toArray) s 0 0 A) (F0 m 29 ls []) := by
    intro H locs ls hI hS  hl
    refine lv_aload_n hx hb dX12_task_29 rfl (lv_at hl 0 rfl) ?_
    refine lv_iconst (v := (-1)) hx hb dX12_task_30 (by decide) ?_
    refine va_calli (va_runV (As := [.int (-1)]) (rest := []) ⟨hx, hb, hml, hown, hts⟩ (c_X12_refuse l dC dI g A hG f_6 h0 (-1) 0 z1 z10 z12 z13 z14 z15 z16 z17 z18 z23 z24 z25 z26 i_h0 k_9 (by first | omega | (simp only [k_c0]; omega)) (by first | omega | (simp only [k_c0]; omega)) (by first | omega | (simp only [k_c0]; omega)) (by decide)) (cwV 1 hts (gi_V (fun w_ h0_ => ⟨List.mem_cons_of_mem _ (List.mem_append_right _ (List.mem_append_right _ (List.mem_append_right _ (List.mem_append_left _ h0_)))), (tb_c_X12_refuse w_ h0_).2⟩) (List.mem_cons_of_mem _ (List.mem_append_left _ (List.mem_of_getElem? (i := 5) rfl))) (List.mem_cons_of_mem _ (List.mem_append_left _ (List.mem_of_getElem? (i := 6) rfl))) (List.mem_cons_of_mem _ (List.mem_append_left _ (List.mem_of_getElem? (i := 7) rfl))) (List.mem_cons_of_mem _ (List.mem_append_left _ (List.mem_of_getElem? (i := 4) rfl)))) rfl rfl rfl (by decide +kernel) ⟨Nat.le_of_ble_eq_true rfl, Nat.le_of_ble_eq_true rfl⟩) ⟨fun a U g mk q => ⟨q.1, q.2.calling rfl rfl⟩, k_recv hK hI i_h0.1 k_9 (ci := 12) rfl, fun U hU hW => ⟨rfl, kIn.of hI hK hE hS hU hW⟩⟩ rfl rfl hl.1 rfl (lv_room (Nat.le_of_ble_eq_true rfl)) dX12_task_31 ⟨Nat.le_of_ble_eq_true rfl, Nat.le_of_ble_eq_true rfl⟩) hS (fun q _ h => h) (fun q h => h) (fun r_21 u t H1 locs ht hvm w_20 hB hz1 hk1 hS => ?_)
    obtain ⟨f_19, hI, kc_22, k_23⟩ := hB
    rw [ht] at hI
    have k_24 : f_19 (gr g h0 4) = .inl (gc g 1, 906, .inr (.inl q)) := Kp.at kc_22 i_1 (by decide) k_10
    have k_25 : f_19 (gr g h0 5) = .inl (gc g 1, 9060, .inr (.inl u)) := Kp.at kc_22 i_3 (by decide) k_11
    have k_26 : f_19 (gr g h0 7) = .inl (gc g 1, 1812, .inr (.inl im)) := Kp.at kc_22 i_4 (by decide) k_12
    have k_27 : f_19 (gr g h0 8) = .inl (gc g 3, 2, .inl kt) := Kp.at kc_22 i_5 (by decide) k_13
    have k_23 : f_19 h0 = .inr (12, [.int (0 : Int32), .int (-1 : Int32), .ref (gr g h0 2), .ref (gr g h0 3), .ref (gr g h0 4), .ref (gr g h0 5), .ref (gr g h0 6), .ref (gr g h0 7), .ref (gr g h0 8), .ref (gr g h0 9), .int z10, .ref (gr g h0 11), .int z12, .int z13, .int z14, .int z15, .long z16, .int z17, .int z18, .ref (gr g h0 19), .ref (gr g h0 20), .ref (gr g h0 21), .ref (gr g h0 22), .int z23, .long z24, .long z25, .long z26]) := k_23
    have kp_28 := Kp.call kp_8 kc_22 (by decide)
    generalize H1 = H at hI hS ⊢
    refine W.widen (k := 0) (n := 0) (Nat.le_of_ble_eq_true rfl) (Nat.le_of_ble_eq_true rfl) ?_
    have w_20 : r_21.toInt = (-1 : Int32).toInt := w_20
    have g_29 : Int32.toInt ((-1)) = (-1) := by decide
    exact W.iret (v := r_21) hx hb hr (fun t ht hW => ⟨⟨r_21, (), rfl, trivial, ⟨f_19, k_ret ht hI, kp_28, (0 : Int32), (-1 : Int32), z10, z12, z13, z14, z15, z16, z17, z18, z23, z24, z25, z26, q, u, im, kt, k_23, (by first | omega | decide), (by first | omega | decide), (by first | omega | decide), k_24, hc1_ok, k_25, k_26, k_27, hU⟩⟩, hS.F ht⟩) hS.2.2 dX12_task_34
  refine lv_if_eq (tgt := 29) hx hb dX12_task_14 (by decide) (fun c_30 => ?_) (fun c_30 => ?_)
  · have c_30 := kc_eq rfl (by decide : Int32.toInt 0 = 0) c_30
    exact J_29  _ _ _ hI hS  (lv_sub hl [0, 1, 2] rfl)
  · have c_30 := kn_eq rfl (by decide : Int32.toInt 0 = 0) c_30
    refine lv_iload_n hx hb dX12_task_17 rfl (lv_at hl 2 rfl) ?_
    refine lv_i2l (v := p2.toInt64) hx hb dX12_task_18 rfl ?_
    have t_31 := Int32.toInt_toInt64 p2
    refine lv_lconst (v := 1) hx hb dX12_task_19 (by decide) ?_
    refine lv_ldc2 hx hb hown (hts (.constantLong RX12 137 (20)) (List.mem_cons_of_mem _ (List.mem_append_left _ (List.mem_of_getElem? (i := 8) rfl)))) dX12_task_20 ?_
    refine va_calli (va_runS (As := [.long p2.toInt64, .long 1, .long 20]) (rest := []) ⟨hx, hb, hml, hown, hts⟩ (c_X12_in l dC dI g A hG f_6 p2.toInt64 1 20) (va_cwS 3 hts (gi_S (fun w_ h0_ => ⟨List.mem_cons_of_mem _ (List.mem_append_right _ (List.mem_append_right _ (List.mem_append_left _ h0_))), (tb_c_X12_in w_ h0_).2⟩) (List.mem_cons_of_mem _ (List.mem_append_left _ (List.mem_of_getElem? (i := 2) rfl))) (List.mem_cons_of_mem _ (List.mem_append_left _ (List.mem_of_getElem? (i := 3) rfl))) (List.mem_cons_of_mem _ (List.mem_append_left _ (List.mem_of_getElem? (i := 4) rfl)))) rfl rfl rfl (by decide +kernel) ⟨Nat.le_of_ble_eq_true rfl, Nat.le_of_ble_eq_true rfl⟩) ⟨fun a U g mk q => ⟨q.1, q.2.calling rfl rfl⟩, fun U hU hW => ⟨rfl, kIn.of hI hK hE hS hU hW⟩⟩ rfl rfl hl.1 rfl (lv_room (Nat.le_of_ble_eq_true rfl)) dX12_task_23 ⟨Nat.le_of_ble_eq_true rfl, Nat.le_of_ble_eq_true rfl⟩) hS (fun q _ h => h) (fun q h => h) (fun r_33 u t H1 locs ht hvm w_32 hB hz1 hk1 hS => ?_)
    have hI : Iv dC dI g A f_6 t.heap := hB
    rw [ht] at hI
    generalize H1 = H at hI hS ⊢
    refine W.widen (k := 0) (n := 0) (Nat.le_of_ble_eq_true rfl) (Nat.le_of_ble_eq_true rfl) ?_
    have w_32 : (r_33.toInt = 0 ∧ (p2.toInt64.toInt < (1 : Int64).toInt ∨ (20 : Int64).toInt < p2.toInt64.toInt)) ∨ (r_33.toInt = 1 ∧ (1 : Int64).toInt ≤ p2.toInt64.toInt ∧ p2.toInt64.toInt ≤ (20 : Int64).toInt) := w_32
    have g_34 : Int64.toInt (1) = 1 := by decide
    have g_35 : Int64.toInt (20) = 20 := by decide
    refine lv_if_ne (tgt := 35) hx hb dX12_task_26 (by decide) (fun c_36 => ?_) (fun c_36 => ?_)
    · have c_36 := kn_eq rfl (by decide : Int32.toInt 0 = 0) c_36
      refine lv_aload_n hx hb dX12_task_35 rfl (lv_at hl 0 rfl) ?_
      refine k_get (ci := 12) (v := .ref (gr g h0 4)) (C := RX12) (T := TX12) (N := 27) hx hb hts (fun _ h0_ => List.mem_cons_of_mem _ (List.mem_append_right _ (List.mem_append_left _ h0_))) hown hK hI i_h0.1 k_9 rfl 4 (by decide) (hts (.fieldLink RX12 16 "DeadlineShareModel" "row" "[J") (List.mem_cons_of_mem _ (List.mem_append_left _ (List.mem_of_getElem? (i := 9) rfl)))) (fun _ h9 => h9) rfl dX12_task_36 ?_
      refine lv_iconst (v := 0) hx hb dX12_task_39 (by decide) ?_
      refine k_lald hx hb hK hI i_1.1 1 k_10 rfl (by unfold vp_in; decide) dX12_task_40 ?_
      refine k_topl (y := q 0) (congrArg q (show Int32.toNatClampNeg 0 = 0 by decide)) ?_
      refine lv_l2i (v := (q 0).toInt32) hx hb dX12_task_41 rfl ?_
      refine lv_topi (fun v_39 ev_39 => ?_)
      have tv_39 := k_l2i (q 0)
      rw [← ev_39] at tv_39
      obtain ⟨m_40, em_40, tm_40⟩ := k_nat (x := v_39) (by omega)
      refine k_topi (y := nI m_40) em_40 ?_
      refine lv_istore_n (lv' := [(3, .int (nI m_40)), (0, .ref h0), (1, .int p1), (2, .int p2)]) hx hb dX12_task_42 rfl hl (by decide) rfl (fun ls hl => ?_)
      refine lv_iload_n hx hb dX12_task_43 rfl (lv_at hl 0 rfl) ?_
      refine lv_bipush (v := 12) hx hb dX12_task_44 (by decide) ?_
      refine lv_icmp_ne (tgt := 56) hx hb dX12_task_46 (by decide) (fun c_41 => ?_) (fun c_41 => ?_)
      · have c_41 := kn_eq (nI_toInt (n := m_40) (by omega)) (by decide : Int32.toInt 12 = 12) c_41
        refine lv_aload_n hx hb dX12_task_56 rfl (lv_at hl 1 rfl) ?_
        refine lv_iconst (v := 0) hx hb dX12_task_57 (by decide) ?_
        refine va_callv (va_runV (As := [.int 0]) (rest := []) ⟨hx, hb, hml, hown, hts⟩ (c_X12_remember l dC dI g A hG f_6 h0 0 0 z1 z10 z12 z13 z14 z15 z16 z17 z18 z23 z24 z25 z26 q u im kt i_h0 k_9 (by first | omega | (simp only [k_c0]; omega)) (by first | omega | (simp only [k_c0]; omega)) (by first | omega | (simp only [k_c0]; omega)) k_10 hc1_ok k_11 k_12 k_13 (by decide)) (cwV 1 hts (gi_V (fun w_ h0_ => ⟨List.mem_cons_of_mem _ (List.mem_append_right _ (List.mem_append_right _ (List.mem_append_right _ (List.mem_append_right _ (List.mem_append_left _ h0_))))), (tb_c_X12_remember w_ h0_).2⟩) (List.mem_cons_of_mem _ (List.mem_append_left _ (List.mem_of_getElem? (i := 10) rfl))) (List.mem_cons_of_mem _ (List.mem_append_left _ (List.mem_of_getElem? (i := 11) rfl))) (List.mem_cons_of_mem _ (List.mem_append_left _ (List.mem_of_getElem? (i := 12) rfl))) (List.mem_cons_of_mem _ (List.mem_append_left _ (List.mem_of_getElem? (i := 4) rfl)))) rfl rfl rfl (by decide +kernel) ⟨Nat.le_of_ble_eq_true rfl, Nat.le_of_ble_eq_true rfl⟩) ⟨fun a U g mk q => ⟨q.1, q.2.calling rfl rfl⟩, k_recv hK hI i_h0.1 k_9 (ci := 12) rfl, fun U hU hW => ⟨rfl, kIn.of hI hK hE hS hU hW⟩⟩ rfl rfl hl.1 rfl (lv_room (Nat.le_of_ble_eq_true rfl)) dX12_task_58 ⟨Nat.le_of_ble_eq_true rfl, Nat.le_of_ble_eq_true rfl⟩) hS (fun q _ h => h) (fun q h => h) (fun u t H1 locs ht hvm _ hB hz1 hk1 hS => ?_)
        obtain ⟨f_42, hI, kc_44, w10_45, u1_46, k_47, z_48, k_49, z_50⟩ := hB
        rw [ht] at hI
        have k_51 : f_42 (gr g h0 4) = .inl (gc g 1, 906, .inr (.inl q)) := Kp.at kc_44 i_1 (by decide) k_10
        have k_52 : f_42 (gr g h0 7) = .inl (gc g 1, 1812, .inr (.inl im)) := Kp.at kc_44 i_4 (by decide) k_12
        have k_53 : f_42 (gr g h0 8) = .inl (gc g 3, 2, .inl kt) := Kp.at kc_44 i_5 (by decide) k_13
        have k_47 : f_42 h0 = .inr (12, [.int (0 : Int32), .int z1, .ref (gr g h0 2), .ref (gr g h0 3), .ref (gr g h0 4), .ref (gr g h0 5), .ref (gr g h0 6), .ref (gr g h0 7), .ref (gr g h0 8), .ref (gr g h0 9), .int w10_45, .ref (gr g h0 11), .int z12, .int z13, .int z14, .int z15, .long z16, .int z17, .int z18, .ref (gr g h0 19), .ref (gr g h0 20), .ref (gr g h0 21), .ref (gr g h0 22), .int z23, .long z24, .long z25, .long z26]) := k_47
        have z_48 : 0 ≤ w10_45.toInt ∧ w10_45.toInt ≤ 10 := z_48
        have z_50 : UIq w10_45 u1_46 im kt := z_50
        have kp_54 := Kp.call kp_8 kc_44 (by decide)
        generalize H1 = H at hI hS ⊢
        refine W.widen (k := 0) (n := 0) (Nat.le_of_ble_eq_true rfl) (Nat.le_of_ble_eq_true rfl) ?_
        refine lv_iconst (v := 0) hx hb dX12_task_61 (by decide) ?_
        refine lv_istore (lv' := [(4, .int 0), (3, .int (nI m_40)), (0, .ref h0), (1, .int p1), (2, .int p2)]) hx hb dX12_task_62 hl (by decide) rfl (fun ls hl => ?_)
        have K_64 : ∀ (nn : Nat) (y_55 : Nat) (q_57 : Nat → Int64) (f_56 : Nat → va_E) (H : Heap) (locs : List Loc) (ls : Array Slot), 43 - y_55 < nn → Iv dC dI g A f_56 H → va_S A s.heap H locs → f_56 (gr g h0 4) = .inl (gc g 1, 906, .inr (.inl q_57)) → RowOK q_57 → f_56 (gr g h0 7) = .inl (gc g 1, 1812, .inr (.inl im)) → f_56 (gr g h0 8) = .inl (gc g 3, 2, .inl kt) → f_56 h0 = .inr (12, [.int (0 : Int32), .int z1, .ref (gr g h0 2), .ref (gr g h0 3), .ref (gr g h0 4), .ref (gr g h0 5), .ref (gr g h0 6), .ref (gr g h0 7), .ref (gr g h0 8), .ref (gr g h0 9), .int w10_45, .ref (gr g h0 11), .int z12, .int z13, .int z14, .int z15, .long z16, .int z17, .int z18, .ref (gr g h0 19), .ref (gr g h0 20), .ref (gr g h0 21), .ref (gr g h0 22), .int z23, .long z24, .long z25, .long z26]) → f_56 (gr g h0 5) = .inl (gc g 1, 9060, .inr (.inl u1_46)) → Kp g [12, 30, 32, 33, 37] f f_56 → (y_55 ≤ 43) → (∀ j : Nat, j < y_55 → q_57 (6 + 43 * m_40 + j) = 0) → ((q_57 0).toInt = (q 0).toInt) → ((q_57 1).toInt = (q 1).toInt) → lv_has ls 5 [(4, .int (nI y_55)), (3, .int (nI m_40)), (0, .ref h0), (1, .int p1), (2, .int p2)] → W p l e (headSpec wq_c_X12_task ({ frames := 1, cells := 0, slots := 0, locals := 25 } : Room)).room s m ([.ref h0, .int p1, .int p2].toArray) below meth c H locs 0 0 (MQ below (va_Qi (fun (r : Int32) (_ : Unit) => True) (fun (_ : Unit) t => ∃ f1 : Nat → va_E, Iv dC dI g A f1 t.heap ∧ Kp g [12, 30, 32, 33, 37] f f1 ∧ ∃ (w0 : Int32) (w1 : Int32) (w10 : Int32) (w12 : Int32) (w13 : Int32) (w14 : Int32) (w15 : Int32) (w16 : Int64) (w17 : Int32) (w18 : Int32) (w23 : Int32) (w24 : Int64) (w25 : Int64) (w26 : Int64) (q1 : Nat → Int64) (u1 : Nat → Int64) (im1 : Nat → Int64) (ik1 : Nat → Int32), (f1 h0 = .inr (12, [.int w0, .int w1, .ref (gr g h0 2), .ref (gr g h0 3), .ref (gr g h0 4), .ref (gr g h0 5), .ref (gr g h0 6), .ref (gr g h0 7), .ref (gr g h0 8), .ref (gr g h0 9), .int w10, .ref (gr g h0 11), .int w12, .int w13, .int w14, .int w15, .long w16, .int w17, .int w18, .ref (gr g h0 19), .ref (gr g h0 20), .ref (gr g h0 21), .ref (gr g h0 22), .int w23, .long w24, .long w25, .long w26])) ∧ (0 ≤ w10.toInt ∧ w10.toInt ≤ 10) ∧ (0 ≤ w12.toInt ∧ w12.toInt ≤ 200) ∧ (0 ≤ w23.toInt ∧ w23.toInt ≤ 8) ∧ (f1 (gr g h0 4) = .inl (gc g 1, 906, .inr (.inl q1))) ∧ (RowOK q1) ∧ (f1 (gr g h0 5) = .inl (gc g 1, 9060, .inr (.inl u1))) ∧ (f1 (gr g h0 7) = .inl (gc g 1, 1812, .inr (.inl im1))) ∧ (f1 (gr g h0 8) = .inl (gc g 3, 2, .inl ik1)) ∧ (UIq w10 u1 im1 ik1)) A) ([.ref h0, .int p1, .int p2].toArray) s 0 0 A) (F0 m 64 ls []) := by
          intro nn
          induction nn with
          | zero => intro y_55 q_57 f_56 H locs ls m_69; exact absurd m_69 (Nat.not_lt_zero _)
          | succ nn ih =>
            intro y_55 q_57 f_56 H locs ls m_69 hI hS k_58 ok_59 k_60 k_61 k_62 k_63 kp_64 t_67 t_68 t_65 t_66 hl
            have d_70 := rk_hd ok_59
            refine lv_iload hx hb dX12_task_64 (lv_at hl 0 rfl) ?_
            refine lv_bipush (v := 43) hx hb dX12_task_66 (by decide) ?_
            refine lv_icmp_ge (tgt := 90) hx hb dX12_task_68 (by decide) (fun c_71 => ?_) (fun c_71 => ?_)
            · have c_71 := kc_le (by decide : Int32.toInt 43 = 43) (nI_toInt (n := y_55) (by omega)) c_71
              refine lv_aload_n hx hb dX12_task_90 rfl (lv_at hl 2 rfl) ?_
              refine k_get (ci := 12) (v := .ref (gr g h0 4)) (C := RX12) (T := TX12) (N := 27) hx hb hts (fun _ h0_ => List.mem_cons_of_mem _ (List.mem_append_right _ (List.mem_append_left _ h0_))) hown hK hI i_h0.1 k_62 rfl 4 (by decide) (hts (.fieldLink RX12 16 "DeadlineShareModel" "row" "[J") (List.mem_cons_of_mem _ (List.mem_append_left _ (List.mem_of_getElem? (i := 9) rfl)))) (fun _ h9 => h9) rfl dX12_task_91 ?_
              refine lv_iload_n hx hb dX12_task_94 rfl (lv_at hl 1 rfl) ?_
              refine va_calli (va_runS (As := [.int (nI m_40)]) (rest := [.ref (gr g h0 4)]) ⟨hx, hb, hml, hown, hts⟩ (c_X12_at l dC dI g A hG f_56 m_40) (va_cwS 1 hts (gi_S (fun w_ h0_ => ⟨List.mem_cons_of_mem _ (List.mem_append_right _ (List.mem_append_right _ (List.mem_append_right _ (List.mem_append_right _ (List.mem_append_right _ (List.mem_append_left _ h0_)))))), (tb_c_X12_at w_ h0_).2⟩) (List.mem_cons_of_mem _ (List.mem_append_left _ (List.mem_of_getElem? (i := 13) rfl))) (List.mem_cons_of_mem _ (List.mem_append_left _ (List.mem_of_getElem? (i := 14) rfl))) (List.mem_cons_of_mem _ (List.mem_append_left _ (List.mem_of_getElem? (i := 4) rfl)))) rfl rfl rfl (by decide +kernel) ⟨Nat.le_of_ble_eq_true rfl, Nat.le_of_ble_eq_true rfl⟩) ⟨fun a U g mk q => ⟨q.1, q.2.calling rfl rfl⟩, fun U hU hW => ⟨rfl, kIn.of hI hK hE hS hU hW⟩⟩ rfl rfl hl.1 rfl (lv_room (Nat.le_of_ble_eq_true rfl)) dX12_task_95 ⟨Nat.le_of_ble_eq_true rfl, Nat.le_of_ble_eq_true rfl⟩) hS (fun q _ h => h) (fun q h => h) (fun r_75 u t H1 locs ht hvm w_74 hB hz1 hk1 hS => ?_)
              have hI : Iv dC dI g A f_56 t.heap := hB
              rw [ht] at hI
              generalize H1 = H at hI hS ⊢
              refine W.widen (k := 0) (n := 0) (Nat.le_of_ble_eq_true rfl) (Nat.le_of_ble_eq_true rfl) ?_
              have w_74 : r_75 = nI (6 + 43 * m_40) := w_74
              refine k_topi (y := nI (6 + 43 * m_40)) w_74 ?_
              refine lv_iconst (v := 0) hx hb dX12_task_98 (by decide) ?_
              refine lv_iadd hx hb dX12_task_99 ?_
              refine k_topi (y := nI (6 + 43 * m_40)) ((nI_add (6 + 43 * m_40) 0).trans (congrArg nI (by omega))) ?_
              refine lv_iload_n hx hb dX12_task_100 rfl (lv_at hl 3 rfl) ?_
              refine lv_i2l (v := p1.toInt64) hx hb dX12_task_101 rfl ?_
              have t_76 := Int32.toInt_toInt64 p1
              refine k_last hx hb hK hI hS i_1.1 1 k_58 rfl (vp_in_nI (by omega) (by omega)) (cl_32 i_1) dX12_task_102 (fun f_77 H locs e_78 hI hS => ?_)
              generalize eq_79 : vp_updL q_57 (Int32.toNatClampNeg (nI (6 + 43 * m_40))) p1.toInt64 = q_79 at e_78
              have k_81 : f_77 (gr g h0 4) = .inl (gc g 1, 906, .inr (.inl q_79)) := by rw [e_78]; exact va_up_self _ _ _
              have k_82 : f_77 (gr g h0 7) = .inl (gc g 1, 1812, .inr (.inl im)) := by rw [e_78, va_up_ne _ _ (ik_ne i_4 i_1 (by decide))]; exact k_60
              have k_83 : f_77 (gr g h0 8) = .inl (gc g 3, 2, .inl kt) := by rw [e_78, va_up_ne _ _ (ik_ne i_5 i_1 (by decide))]; exact k_61
              have k_84 : f_77 h0 = .inr (12, [.int (0 : Int32), .int z1, .ref (gr g h0 2), .ref (gr g h0 3), .ref (gr g h0 4), .ref (gr g h0 5), .ref (gr g h0 6), .ref (gr g h0 7), .ref (gr g h0 8), .ref (gr g h0 9), .int w10_45, .ref (gr g h0 11), .int z12, .int z13, .int z14, .int z15, .long z16, .int z17, .int z18, .ref (gr g h0 19), .ref (gr g h0 20), .ref (gr g h0 21), .ref (gr g h0 22), .int z23, .long z24, .long z25, .long z26]) := by rw [e_78, va_up_ne _ _ (ik_ne i_h0 i_1 (by decide))]; exact k_62
              have k_85 : f_77 (gr g h0 5) = .inl (gc g 1, 9060, .inr (.inl u1_46)) := by rw [e_78, va_up_ne _ _ (ik_ne i_3 i_1 (by decide))]; exact k_63
              have kp_80 := Kp.put kp_64 i_1 (by decide) e_78
              have u_86 : vp_updL q_57 (6 + 43 * m_40) p1.toInt64 = q_79 := by rw [← eq_79, show Int32.toNatClampNeg (nI (6 + 43 * m_40)) = 6 + 43 * m_40 from (nI_clamp (by omega))]
              have ok_87 : RowOK q_79 := by rw [← u_86]; exact rk_upd ok_59 (by refine ⟨⟨by omega, by omega, by omega, by omega, by omega⟩, fun t9 ht9 => ⟨by omega, by omega, by omega, by omega, by omega, by omega⟩, fun t9 k9 ht9 hk9 => ⟨by omega, by omega, by omega⟩, by omega⟩)
              have d_88 := rk_hd ok_87
              have n_89 : (q_79 0).toInt = (q_57 0).toInt := by rw [← u_86, pk_uLn (by omega)]
              have n_90 : (q_79 1).toInt = (q_57 1).toInt := by rw [← u_86, pk_uLn (by omega)]
              have n_91 : (q_79 3).toInt = (q_57 3).toInt := by rw [← u_86, pk_uLn (by omega)]
              have n_92 : (q_79 4).toInt = (q_57 4).toInt := by rw [← u_86, pk_uLn (by omega)]
              have n_93 : (q_79 5).toInt = (q_57 5).toInt := by rw [← u_86, pk_uLn (by omega)]
              refine lv_aload_n hx hb dX12_task_103 rfl (lv_at hl 2 rfl) ?_
              refine k_get (ci := 12) (v := .ref (gr g h0 4)) (C := RX12) (T := TX12) (N := 27) hx hb hts (fun _ h0_ => List.mem_cons_of_mem _ (List.mem_append_right _ (List.mem_append_left _ h0_))) hown hK hI i_h0.1 k_84 rfl 4 (by decide) (hts (.fieldLink RX12 16 "DeadlineShareModel" "row" "[J") (List.mem_cons_of_mem _ (List.mem_append_left _ (List.mem_of_getElem? (i := 9) rfl)))) (fun _ h9 => h9) rfl dX12_task_104 ?_
              refine lv_iload_n hx hb dX12_task_107 rfl (lv_at hl 1 rfl) ?_
              refine va_calli (va_runS (As := [.int (nI m_40)]) (rest := [.ref (gr g h0 4)]) ⟨hx, hb, hml, hown, hts⟩ (c_X12_at l dC dI g A hG f_77 m_40) (va_cwS 1 hts (gi_S (fun w_ h0_ => ⟨List.mem_cons_of_mem _ (List.mem_append_right _ (List.mem_append_right _ (List.mem_append_right _ (List.mem_append_right _ (List.mem_append_right _ (List.mem_append_left _ h0_)))))), (tb_c_X12_at w_ h0_).2⟩) (List.mem_cons_of_mem _ (List.mem_append_left _ (List.mem_of_getElem? (i := 13) rfl))) (List.mem_cons_of_mem _ (List.mem_append_left _ (List.mem_of_getElem? (i := 14) rfl))) (List.mem_cons_of_mem _ (List.mem_append_left _ (List.mem_of_getElem? (i := 4) rfl)))) rfl rfl rfl (by decide +kernel) ⟨Nat.le_of_ble_eq_true rfl, Nat.le_of_ble_eq_true rfl⟩) ⟨fun a U g mk q => ⟨q.1, q.2.calling rfl rfl⟩, fun U hU hW => ⟨rfl, kIn.of hI hK hE hS hU hW⟩⟩ rfl rfl hl.1 rfl (lv_room (Nat.le_of_ble_eq_true rfl)) dX12_task_108 ⟨Nat.le_of_ble_eq_true rfl, Nat.le_of_ble_eq_true rfl⟩) hS (fun q _ h => h) (fun q h => h) (fun r_97 u t H1 locs ht hvm w_96 hB hz1 hk1 hS => ?_)
              have hI : Iv dC dI g A f_77 t.heap := hB
              rw [ht] at hI
              generalize H1 = H at hI hS ⊢
              refine W.widen (k := 0) (n := 0) (Nat.le_of_ble_eq_true rfl) (Nat.le_of_ble_eq_true rfl) ?_
              have w_96 : r_97 = nI (6 + 43 * m_40) := w_96
              refine k_topi (y := nI (6 + 43 * m_40)) w_96 ?_
              refine lv_iconst (v := 1) hx hb dX12_task_111 (by decide) ?_
              refine lv_iadd hx hb dX12_task_112 ?_
              refine k_topi (y := nI (6 + 43 * m_40 + 1)) ((nI_add (6 + 43 * m_40) 1).trans (congrArg nI (by omega))) ?_
              refine lv_iload_n hx hb dX12_task_113 rfl (lv_at hl 4 rfl) ?_
              refine lv_i2l (v := p2.toInt64) hx hb dX12_task_114 rfl ?_
              have t_98 := Int32.toInt_toInt64 p2
              refine k_last hx hb hK hI hS i_1.1 1 k_81 rfl (vp_in_nI (by omega) (by omega)) (cl_32 i_1) dX12_task_115 (fun f_99 H locs e_100 hI hS => ?_)
              generalize eq_101 : vp_updL q_79 (Int32.toNatClampNeg (nI (6 + 43 * m_40 + 1))) p2.toInt64 = q_101 at e_100
              have k_103 : f_99 (gr g h0 4) = .inl (gc g 1, 906, .inr (.inl q_101)) := by rw [e_100]; exact va_up_self _ _ _
              have k_104 : f_99 (gr g h0 7) = .inl (gc g 1, 1812, .inr (.inl im)) := by rw [e_100, va_up_ne _ _ (ik_ne i_4 i_1 (by decide))]; exact k_82
              have k_105 : f_99 (gr g h0 8) = .inl (gc g 3, 2, .inl kt) := by rw [e_100, va_up_ne _ _ (ik_ne i_5 i_1 (by decide))]; exact k_83
              have k_106 : f_99 h0 = .inr (12, [.int (0 : Int32), .int z1, .ref (gr g h0 2), .ref (gr g h0 3), .ref (gr g h0 4), .ref (gr g h0 5), .ref (gr g h0 6), .ref (gr g h0 7), .ref (gr g h0 8), .ref (gr g h0 9), .int w10_45, .ref (gr g h0 11), .int z12, .int z13, .int z14, .int z15, .long z16, .int z17, .int z18, .ref (gr g h0 19), .ref (gr g h0 20), .ref (gr g h0 21), .ref (gr g h0 22), .int z23, .long z24, .long z25, .long z26]) := by rw [e_100, va_up_ne _ _ (ik_ne i_h0 i_1 (by decide))]; exact k_84
              have k_107 : f_99 (gr g h0 5) = .inl (gc g 1, 9060, .inr (.inl u1_46)) := by rw [e_100, va_up_ne _ _ (ik_ne i_3 i_1 (by decide))]; exact k_85
              have kp_102 := Kp.put kp_80 i_1 (by decide) e_100
              have u_108 : vp_updL q_79 (6 + 43 * m_40 + 1) p2.toInt64 = q_101 := by rw [← eq_101, show Int32.toNatClampNeg (nI (6 + 43 * m_40 + 1)) = 6 + 43 * m_40 + 1 from (nI_clamp (by omega))]
              have ok_109 : RowOK q_101 := by rw [← u_108]; exact rk_upd ok_87 (by refine ⟨⟨by omega, by omega, by omega, by omega, by omega⟩, fun t9 ht9 => ⟨by omega, by omega, by omega, by omega, by omega, by omega⟩, fun t9 k9 ht9 hk9 => ⟨by omega, by omega, by omega⟩, by omega⟩)
              have d_110 := rk_hd ok_109
              have n_111 : (q_101 0).toInt = (q_79 0).toInt := by rw [← u_108, pk_uLn (by omega)]
              have n_112 : (q_101 1).toInt = (q_79 1).toInt := by rw [← u_108, pk_uLn (by omega)]
              have n_113 : (q_101 3).toInt = (q_79 3).toInt := by rw [← u_108, pk_uLn (by omega)]
              have n_114 : (q_101 4).toInt = (q_79 4).toInt := by rw [← u_108, pk_uLn (by omega)]
              have n_115 : (q_101 5).toInt = (q_79 5).toInt := by rw [← u_108, pk_uLn (by omega)]
              refine lv_aload_n hx hb dX12_task_116 rfl (lv_at hl 2 rfl) ?_
              refine k_get (ci := 12) (v := .ref (gr g h0 4)) (C := RX12) (T := TX12) (N := 27) hx hb hts (fun _ h0_ => List.mem_cons_of_mem _ (List.mem_append_right _ (List.mem_append_left _ h0_))) hown hK hI i_h0.1 k_106 rfl 4 (by decide) (hts (.fieldLink RX12 16 "DeadlineShareModel" "row" "[J") (List.mem_cons_of_mem _ (List.mem_append_left _ (List.mem_of_getElem? (i := 9) rfl)))) (fun _ h9 => h9) rfl dX12_task_117 ?_
              refine lv_iconst (v := 0) hx hb dX12_task_120 (by decide) ?_
              refine lv_dup2_11 hx hb dX12_task_121 rfl rfl ?_
              refine k_lald hx hb hK hI i_1.1 1 k_103 rfl (by unfold vp_in; decide) dX12_task_122 ?_
              refine k_topl (y := q_101 0) (congrArg q_101 (show Int32.toNatClampNeg 0 = 0 by decide)) ?_
              refine lv_lconst (v := 1) hx hb dX12_task_123 (by decide) ?_
              refine lv_ladd hx hb dX12_task_124 ?_
              refine lv_topl (fun v_118 ev_118 => ?_)
              have tv_118 := l_ad (q_101 0) 1
              rw [← ev_118, show Int64.toInt 1 = 1 from by decide] at tv_118
              refine k_last hx hb hK hI hS i_1.1 1 k_103 rfl (by unfold vp_in; decide) (cl_32 i_1) dX12_task_125 (fun f_119 H locs e_120 hI hS => ?_)
              generalize eq_121 : vp_updL q_101 (Int32.toNatClampNeg 0) v_118 = q_121 at e_120
              have k_123 : f_119 (gr g h0 4) = .inl (gc g 1, 906, .inr (.inl q_121)) := by rw [e_120]; exact va_up_self _ _ _
              have k_124 : f_119 (gr g h0 7) = .inl (gc g 1, 1812, .inr (.inl im)) := by rw [e_120, va_up_ne _ _ (ik_ne i_4 i_1 (by decide))]; exact k_104
              have k_125 : f_119 (gr g h0 8) = .inl (gc g 3, 2, .inl kt) := by rw [e_120, va_up_ne _ _ (ik_ne i_5 i_1 (by decide))]; exact k_105
              have k_126 : f_119 h0 = .inr (12, [.int (0 : Int32), .int z1, .ref (gr g h0 2), .ref (gr g h0 3), .ref (gr g h0 4), .ref (gr g h0 5), .ref (gr g h0 6), .ref (gr g h0 7), .ref (gr g h0 8), .ref (gr g h0 9), .int w10_45, .ref (gr g h0 11), .int z12, .int z13, .int z14, .int z15, .long z16, .int z17, .int z18, .ref (gr g h0 19), .ref (gr g h0 20), .ref (gr g h0 21), .ref (gr g h0 22), .int z23, .long z24, .long z25, .long z26]) := by rw [e_120, va_up_ne _ _ (ik_ne i_h0 i_1 (by decide))]; exact k_106
              have k_127 : f_119 (gr g h0 5) = .inl (gc g 1, 9060, .inr (.inl u1_46)) := by rw [e_120, va_up_ne _ _ (ik_ne i_3 i_1 (by decide))]; exact k_107
              have kp_122 := Kp.put kp_102 i_1 (by decide) e_120
              have u_128 : vp_updL q_101 0 v_118 = q_121 := by rw [← eq_121, show Int32.toNatClampNeg 0 = 0 from (show Int32.toNatClampNeg 0 = 0 by decide)]
              have d_129 : (q_101 (6 + 43 * m_40)).toInt = Int64.toInt p1.toInt64 := by rw [← u_108, pk_uLn (by omega), ← u_86, pk_uLs]
              have ok_130 : RowOK q_121 := by rw [← u_128]; exact rk_n ok_109 (t := m_40) (by omega) (by omega) (by omega) (by omega)
              have d_131 := rk_hd ok_130
              have n_132 : (q_121 0).toInt = Int64.toInt v_118 := by rw [← u_128, pk_uLs]
              have n_133 : (q_121 1).toInt = (q_101 1).toInt := by rw [← u_128, pk_uLn (by omega)]
              have n_134 : (q_121 3).toInt = (q_101 3).toInt := by rw [← u_128, pk_uLn (by omega)]
              have n_135 : (q_121 4).toInt = (q_101 4).toInt := by rw [← u_128, pk_uLn (by omega)]
              have n_136 : (q_121 5).toInt = (q_101 5).toInt := by rw [← u_128, pk_uLn (by omega)]
              refine lv_aload_n hx hb dX12_task_126 rfl (lv_at hl 2 rfl) ?_
              refine lv_iload_n hx hb dX12_task_127 rfl (lv_at hl 1 rfl) ?_
              refine va_calli (va_runV (As := [.int (nI m_40)]) (rest := []) ⟨hx, hb, hml, hown, hts⟩ (c_X12_tell l dC dI g A hG f_119 h0 (nI m_40) (0 : Int32) z1 w10_45 z12 z13 z14 z15 z16 z17 z18 z23 z24 z25 z26 i_h0 k_126 (by first | omega | (simp only [k_c0]; omega)) (by first | omega | (simp only [k_c0]; omega)) (by first | omega | (simp only [k_c0]; omega))) (cwV 1 hts (gi_V (fun w_ h0_ => ⟨List.mem_cons_of_mem _ (List.mem_append_right _ (List.mem_append_right _ (List.mem_append_right _ (List.mem_append_right _ (List.mem_append_right _ (List.mem_append_right _ (List.mem_append_left _ h0_))))))), (tb_c_X12_tell w_ h0_).2⟩) (List.mem_cons_of_mem _ (List.mem_append_left _ (List.mem_of_getElem? (i := 15) rfl))) (List.mem_cons_of_mem _ (List.mem_append_left _ (List.mem_of_getElem? (i := 16) rfl))) (List.mem_cons_of_mem _ (List.mem_append_left _ (List.mem_of_getElem? (i := 17) rfl))) (List.mem_cons_of_mem _ (List.mem_append_left _ (List.mem_of_getElem? (i := 4) rfl)))) rfl rfl rfl (by decide +kernel) ⟨Nat.le_of_ble_eq_true rfl, Nat.le_of_ble_eq_true rfl⟩) ⟨fun a U g mk q => ⟨q.1, q.2.calling rfl rfl⟩, k_recv hK hI i_h0.1 k_126 (ci := 12) rfl, fun U hU hW => ⟨rfl, kIn.of hI hK hE hS hU hW⟩⟩ rfl rfl hl.1 rfl (lv_room (Nat.le_of_ble_eq_true rfl)) dX12_task_128 ⟨Nat.le_of_ble_eq_true rfl, Nat.le_of_ble_eq_true rfl⟩) hS (fun q _ h => h) (fun q h => h) (fun r_139 u t H1 locs ht hvm w_138 hB hz1 hk1 hS => ?_)
              obtain ⟨f_137, hI, kc_140, k_141⟩ := hB
              rw [ht] at hI
              have k_142 : f_137 (gr g h0 4) = .inl (gc g 1, 906, .inr (.inl q_121)) := Kp.at kc_140 i_1 (by decide) k_123
              have k_143 : f_137 (gr g h0 7) = .inl (gc g 1, 1812, .inr (.inl im)) := Kp.at kc_140 i_4 (by decide) k_124
              have k_144 : f_137 (gr g h0 8) = .inl (gc g 3, 2, .inl kt) := Kp.at kc_140 i_5 (by decide) k_125
              have k_145 : f_137 (gr g h0 5) = .inl (gc g 1, 9060, .inr (.inl u1_46)) := Kp.at kc_140 i_3 (by decide) k_127
              have k_141 : f_137 h0 = .inr (12, [.int (0 : Int32), .int 0, .ref (gr g h0 2), .ref (gr g h0 3), .ref (gr g h0 4), .ref (gr g h0 5), .ref (gr g h0 6), .ref (gr g h0 7), .ref (gr g h0 8), .ref (gr g h0 9), .int w10_45, .ref (gr g h0 11), .int z12, .int z13, .int z14, .int z15, .long z16, .int z17, .int z18, .ref (gr g h0 19), .ref (gr g h0 20), .ref (gr g h0 21), .ref (gr g h0 22), .int z23, .long z24, .long z25, .long z26]) := k_141
              have kp_146 := Kp.call kp_122 kc_140 (by decide)
              generalize H1 = H at hI hS ⊢
              refine W.widen (k := 0) (n := 0) (Nat.le_of_ble_eq_true rfl) (Nat.le_of_ble_eq_true rfl) ?_
              have w_138 : r_139.toInt = (nI m_40).toInt := w_138
              exact W.iret (v := r_139) hx hb hr (fun t ht hW => ⟨⟨r_139, (), rfl, trivial, ⟨f_137, k_ret ht hI, kp_146, (0 : Int32), 0, w10_45, z12, z13, z14, z15, z16, z17, z18, z23, z24, z25, z26, q_121, u1_46, im, kt, k_141, (by first | omega | decide), (by first | omega | decide), (by first | omega | decide), k_142, ok_130, k_145, k_143, k_144, z_50⟩⟩, hS.F ht⟩) hS.2.2 dX12_task_131
            · have c_71 := kn_le (by decide : Int32.toInt 43 = 43) (nI_toInt (n := y_55) (by omega)) c_71
              refine lv_aload_n hx hb dX12_task_71 rfl (lv_at hl 2 rfl) ?_
              refine k_get (ci := 12) (v := .ref (gr g h0 4)) (C := RX12) (T := TX12) (N := 27) hx hb hts (fun _ h0_ => List.mem_cons_of_mem _ (List.mem_append_right _ (List.mem_append_left _ h0_))) hown hK hI i_h0.1 k_62 rfl 4 (by decide) (hts (.fieldLink RX12 16 "DeadlineShareModel" "row" "[J") (List.mem_cons_of_mem _ (List.mem_append_left _ (List.mem_of_getElem? (i := 9) rfl)))) (fun _ h9 => h9) rfl dX12_task_72 ?_
              refine lv_iload_n hx hb dX12_task_75 rfl (lv_at hl 1 rfl) ?_
              refine va_calli (va_runS (As := [.int (nI m_40)]) (rest := [.ref (gr g h0 4)]) ⟨hx, hb, hml, hown, hts⟩ (c_X12_at l dC dI g A hG f_56 m_40) (va_cwS 1 hts (gi_S (fun w_ h0_ => ⟨List.mem_cons_of_mem _ (List.mem_append_right _ (List.mem_append_right _ (List.mem_append_right _ (List.mem_append_right _ (List.mem_append_right _ (List.mem_append_left _ h0_)))))), (tb_c_X12_at w_ h0_).2⟩) (List.mem_cons_of_mem _ (List.mem_append_left _ (List.mem_of_getElem? (i := 13) rfl))) (List.mem_cons_of_mem _ (List.mem_append_left _ (List.mem_of_getElem? (i := 14) rfl))) (List.mem_cons_of_mem _ (List.mem_append_left _ (List.mem_of_getElem? (i := 4) rfl)))) rfl rfl rfl (by decide +kernel) ⟨Nat.le_of_ble_eq_true rfl, Nat.le_of_ble_eq_true rfl⟩) ⟨fun a U g mk q => ⟨q.1, q.2.calling rfl rfl⟩, fun U hU hW => ⟨rfl, kIn.of hI hK hE hS hU hW⟩⟩ rfl rfl hl.1 rfl (lv_room (Nat.le_of_ble_eq_true rfl)) dX12_task_76 ⟨Nat.le_of_ble_eq_true rfl, Nat.le_of_ble_eq_true rfl⟩) hS (fun q _ h => h) (fun q h => h) (fun r_150 u t H1 locs ht hvm w_149 hB hz1 hk1 hS => ?_)
              have hI : Iv dC dI g A f_56 t.heap := hB
              rw [ht] at hI
              generalize H1 = H at hI hS ⊢
              refine W.widen (k := 0) (n := 0) (Nat.le_of_ble_eq_true rfl) (Nat.le_of_ble_eq_true rfl) ?_
              have w_149 : r_150 = nI (6 + 43 * m_40) := w_149
              refine k_topi (y := nI (6 + 43 * m_40)) w_149 ?_
              refine lv_iload hx hb dX12_task_79 (lv_at hl 0 rfl) ?_
              refine lv_iadd hx hb dX12_task_81 ?_
              refine k_topi (y := nI (6 + 43 * m_40 + y_55)) ((nI_add (6 + 43 * m_40) y_55).trans (congrArg nI (by omega))) ?_
              refine lv_lconst (v := 0) hx hb dX12_task_82 (by decide) ?_
              refine k_last hx hb hK hI hS i_1.1 1 k_58 rfl (vp_in_nI (by omega) (by omega)) (cl_32 i_1) dX12_task_83 (fun f_151 H locs e_152 hI hS => ?_)
              generalize eq_153 : vp_updL q_57 (Int32.toNatClampNeg (nI (6 + 43 * m_40 + y_55))) 0 = q_153 at e_152
              have k_155 : f_151 (gr g h0 4) = .inl (gc g 1, 906, .inr (.inl q_153)) := by rw [e_152]; exact va_up_self _ _ _
              have k_156 : f_151 (gr g h0 7) = .inl (gc g 1, 1812, .inr (.inl im)) := by rw [e_152, va_up_ne _ _ (ik_ne i_4 i_1 (by decide))]; exact k_60
              have k_157 : f_151 (gr g h0 8) = .inl (gc g 3, 2, .inl kt) := by rw [e_152, va_up_ne _ _ (ik_ne i_5 i_1 (by decide))]; exact k_61
              have k_158 : f_151 h0 = .inr (12, [.int (0 : Int32), .int z1, .ref (gr g h0 2), .ref (gr g h0 3), .ref (gr g h0 4), .ref (gr g h0 5), .ref (gr g h0 6), .ref (gr g h0 7), .ref (gr g h0 8), .ref (gr g h0 9), .int w10_45, .ref (gr g h0 11), .int z12, .int z13, .int z14, .int z15, .long z16, .int z17, .int z18, .ref (gr g h0 19), .ref (gr g h0 20), .ref (gr g h0 21), .ref (gr g h0 22), .int z23, .long z24, .long z25, .long z26]) := by rw [e_152, va_up_ne _ _ (ik_ne i_h0 i_1 (by decide))]; exact k_62
              have k_159 : f_151 (gr g h0 5) = .inl (gc g 1, 9060, .inr (.inl u1_46)) := by rw [e_152, va_up_ne _ _ (ik_ne i_3 i_1 (by decide))]; exact k_63
              have kp_154 := Kp.put kp_64 i_1 (by decide) e_152
              have u_160 : vp_updL q_57 (6 + 43 * m_40 + y_55) 0 = q_153 := by rw [← eq_153, show Int32.toNatClampNeg (nI (6 + 43 * m_40 + y_55)) = 6 + 43 * m_40 + y_55 from (nI_clamp (by omega))]
              have ok_161 : RowOK q_153 := by rw [← u_160]; exact rk_zero ok_59 (t := m_40) (j := y_55) (by omega) (by omega) (by omega) t_68
              have d_162 := rk_hd ok_161
              have n_163 : (q_153 0).toInt = (q_57 0).toInt := by rw [← u_160, pk_uLn (by omega)]
              have n_164 : (q_153 1).toInt = (q_57 1).toInt := by rw [← u_160, pk_uLn (by omega)]
              have n_165 : (q_153 3).toInt = (q_57 3).toInt := by rw [← u_160, pk_uLn (by omega)]
              have n_166 : (q_153 4).toInt = (q_57 4).toInt := by rw [← u_160, pk_uLn (by omega)]
              have n_167 : (q_153 5).toInt = (q_57 5).toInt := by rw [← u_160, pk_uLn (by omega)]
              refine lv_iinc (v := nI (y_55 + 1)) (lv' := [(4, .int (nI (y_55 + 1))), (3, .int (nI m_40)), (0, .ref h0), (1, .int p1), (2, .int p2)]) hx hb dX12_task_84 hl (k := 0) rfl (nI_1 _) (by decide) rfl (fun ls hl => ?_)
              refine lv_goto (tgt := 64) hx hb dX12_task_87 (by decide) ?_
              exact ih (y_55 + 1) q_153 f_151 _ _ _ (by omega) hI hS k_155 ok_161 k_156 k_157 k_158 k_159 kp_154 (by first | omega | decide) (fun j9 h9 => by rw [← u_160]; exact if h8 : j9 = y_55 then (by subst h8; exact pk_uLs) else (by rw [pk_uLn (by omega)]; exact t_68 j9 (by omega))) (by first | omega | decide) (by first | omega | decide) (lv_sub hl [0, 1, 2, 3, 4] rfl)
        exact K_64 _ 0 q f_42 _ _ _ (Nat.lt_succ_self _) hI hS k_51 hc1_ok k_52 k_53 k_47 k_49 kp_54 (by first | omega | decide) (fun j9 h9 => absurd h9 (Nat.not_lt_zero j9)) (by first | omega | decide) (by first | omega | decide) (lv_sub hl [0, 1, 2, 3, 4] rfl)
      · have c_41 := kc_eq (nI_toInt (n := m_40) (by omega)) (by decide : Int32.toInt 12 = 12) c_41
        refine lv_aload_n hx hb dX12_task_49 rfl (lv_at hl 1 rfl) ?_
        refine lv_bipush (v := (-5)) hx hb dX12_task_50 (by decide) ?_
        refine va_calli (va_runV (As := [.int (-5)]) (rest := []) ⟨hx, hb, hml, hown, hts⟩ (c_X12_refuse l dC dI g A hG f_6 h0 (-5) 0 z1 z10 z12 z13 z14 z15 z16 z17 z18 z23 z24 z25 z26 i_h0 k_9 (by first | omega | (simp only [k_c0]; omega)) (by first | omega | (simp only [k_c0]; omega)) (by first | omega | (simp only [k_c0]; omega)) (by decide)) (cwV 1 hts (gi_V (fun w_ h0_ => ⟨List.mem_cons_of_mem _ (List.mem_append_right _ (List.mem_append_right _ (List.mem_append_right _ (List.mem_append_left _ h0_)))), (tb_c_X12_refuse w_ h0_).2⟩) (List.mem_cons_of_mem _ (List.mem_append_left _ (List.mem_of_getElem? (i := 5) rfl))) (List.mem_cons_of_mem _ (List.mem_append_left _ (List.mem_of_getElem? (i := 6) rfl))) (List.mem_cons_of_mem _ (List.mem_append_left _ (List.mem_of_getElem? (i := 7) rfl))) (List.mem_cons_of_mem _ (List.mem_append_left _ (List.mem_of_getElem? (i := 4) rfl)))) rfl rfl rfl (by decide +kernel) ⟨Nat.le_of_ble_eq_true rfl, Nat.le_of_ble_eq_true rfl⟩) ⟨fun a U g mk q => ⟨q.1, q.2.calling rfl rfl⟩, k_recv hK hI i_h0.1 k_9 (ci := 12) rfl, fun U hU hW => ⟨rfl, kIn.of hI hK hE hS hU hW⟩⟩ rfl rfl hl.1 rfl (lv_room (Nat.le_of_ble_eq_true rfl)) dX12_task_52 ⟨Nat.le_of_ble_eq_true rfl, Nat.le_of_ble_eq_true rfl⟩) hS (fun q _ h => h) (fun q h => h) (fun r_170 u t H1 locs ht hvm w_169 hB hz1 hk1 hS => ?_)
        obtain ⟨f_168, hI, kc_171, k_172⟩ := hB
        rw [ht] at hI
        have k_173 : f_168 (gr g h0 4) = .inl (gc g 1, 906, .inr (.inl q)) := Kp.at kc_171 i_1 (by decide) k_10
        have k_174 : f_168 (gr g h0 5) = .inl (gc g 1, 9060, .inr (.inl u)) := Kp.at kc_171 i_3 (by decide) k_11
        have k_175 : f_168 (gr g h0 7) = .inl (gc g 1, 1812, .inr (.inl im)) := Kp.at kc_171 i_4 (by decide) k_12
        have k_176 : f_168 (gr g h0 8) = .inl (gc g 3, 2, .inl kt) := Kp.at kc_171 i_5 (by decide) k_13
        have k_172 : f_168 h0 = .inr (12, [.int (0 : Int32), .int (-5 : Int32), .ref (gr g h0 2), .ref (gr g h0 3), .ref (gr g h0 4), .ref (gr g h0 5), .ref (gr g h0 6), .ref (gr g h0 7), .ref (gr g h0 8), .ref (gr g h0 9), .int z10, .ref (gr g h0 11), .int z12, .int z13, .int z14, .int z15, .long z16, .int z17, .int z18, .ref (gr g h0 19), .ref (gr g h0 20), .ref (gr g h0 21), .ref (gr g h0 22), .int z23, .long z24, .long z25, .long z26]) := k_172
        have kp_177 := Kp.call kp_8 kc_171 (by decide)
        generalize H1 = H at hI hS ⊢
        refine W.widen (k := 0) (n := 0) (Nat.le_of_ble_eq_true rfl) (Nat.le_of_ble_eq_true rfl) ?_
        have w_169 : r_170.toInt = (-5 : Int32).toInt := w_169
        have g_178 : Int32.toInt ((-5)) = (-5) := by decide
        exact W.iret (v := r_170) hx hb hr (fun t ht hW => ⟨⟨r_170, (), rfl, trivial, ⟨f_168, k_ret ht hI, kp_177, (0 : Int32), (-5 : Int32), z10, z12, z13, z14, z15, z16, z17, z18, z23, z24, z25, z26, q, u, im, kt, k_172, (by first | omega | decide), (by first | omega | decide), (by first | omega | decide), k_173, hc1_ok, k_174, k_175, k_176, hU⟩⟩, hS.F ht⟩) hS.2.2 dX12_task_55
    · have c_36 := kc_eq rfl (by decide : Int32.toInt 0 = 0) c_36
      exact J_29  _ _ _ hI hS  (lv_sub hl [0, 1, 2] rfl)
theorem tw_1006 : q_g (.constantLong RX12 170 (50)) := ⟨(List.mem_append_right _ (List.mem_of_getElem? (i := 1324) (by decide +kernel))), good_of_word (by decide +kernel)⟩
theorem tw_1007 : q_g (.code yX12_quota cX12_quota 6 (some .int)) := ⟨(List.mem_append_right _ (List.mem_of_getElem? (i := 1323) (by decide +kernel))), good_of_word (by decide +kernel)⟩
def ow_c_X12_quota : List Cond := [.fieldLink RX12 67 "DeadlineShareModel" "thrown" "I", .constantLong RX12 170 (50), .methodLink RX12 83 yX12_in, .static yX12_in, .initialized RX12, .methodLink RX12 76 yX12_refuse, .instanceMethod yX12_refuse, .selects RX12 yX12_refuse yX12_refuse, .methodLink RX12 142 yX12_isTask, .instanceMethod yX12_isTask, .selects RX12 yX12_isTask yX12_isTask, .methodLink RX12 139 yX12_remember, .instanceMethod yX12_remember, .selects RX12 yX12_remember yX12_remember, .methodLink RX12 87 yX12_at, .static yX12_at, .fieldLink RX12 16 "DeadlineShareModel" "row" "[J", .methodLink RX12 80 yX12_tell, .instanceMethod yX12_tell, .selects RX12 yX12_tell yX12_tell, .constantLong RX12 172 (60)]
def wq_c_X12_quota : List Cond := .code yX12_quota cX12_quota 6 (some .int) :: (ow_c_X12_quota ++ (u_ws RX12 TX12 27 ++ (wq_c_X12_in ++ (wq_c_X12_refuse ++ (wq_c_X12_isTask ++ (wq_c_X12_remember ++ (wq_c_X12_at ++ (wq_c_X12_tell ++ ([] : List Cond)))))))))
theorem tb_c_X12_quota : ∀ w ∈ wq_c_X12_quota, q_g w := by
  unfold wq_c_X12_quota ow_c_X12_quota
  exact q_cons tw_1007 (q_app (q_cons tw_927 (q_cons tw_1006 (q_cons tw_730 (q_cons tw_729 (q_cons tw_728 (q_cons tw_966 (q_cons tw_965 (q_cons tw_964 (q_cons tw_951 (q_cons tw_950 (q_cons tw_949 (q_cons tw_963 (q_cons tw_962 (q_cons tw_961 (q_cons tw_734 (q_cons tw_733 (q_cons tw_731 (q_cons tw_960 (q_cons tw_959 (q_cons tw_958 (q_cons tw_986 q_nil))))))))))))))))))))) (q_app tu_X12 (q_app tb_c_X12_in (q_app tb_c_X12_refuse (q_app tb_c_X12_isTask (q_app tb_c_X12_remember (q_app tb_c_X12_at (q_app tb_c_X12_tell q_nil))))))))
set_option maxHeartbeats 4000000 in
set_option maxRecDepth 100000 in
theorem c_X12_quota (l : Launch) (dC : Nat → ClassId) (dI : Nat → Nat → Nat) (g : kG) (A : Nat → Prop) (hG : kWf g) (f : Nat → va_E) (h0 : Nat) (p1 : Int32) (p2 : Int32) (p3 : Int32) (z0 : Int32) (z1 : Int32) (z10 : Int32) (z12 : Int32) (z13 : Int32) (z14 : Int32) (z15 : Int32) (z16 : Int64) (z17 : Int32) (z18 : Int32) (z23 : Int32) (z24 : Int64) (z25 : Int64) (z26 : Int64) (q : Nat → Int64) (u : Nat → Int64) (im : Nat → Int64) (kt : Nat → Int32) (i_h0 : ik g 12 h0) (hc0 : f h0 = .inr (12, [.int z0, .int z1, .ref (gr g h0 2), .ref (gr g h0 3), .ref (gr g h0 4), .ref (gr g h0 5), .ref (gr g h0 6), .ref (gr g h0 7), .ref (gr g h0 8), .ref (gr g h0 9), .int z10, .ref (gr g h0 11), .int z12, .int z13, .int z14, .int z15, .long z16, .int z17, .int z18, .ref (gr g h0 19), .ref (gr g h0 20), .ref (gr g h0 21), .ref (gr g h0 22), .int z23, .long z24, .long z25, .long z26])) (hc0_10 : 0 ≤ z10.toInt ∧ z10.toInt ≤ 10) (hc0_12 : 0 ≤ z12.toInt ∧ z12.toInt ≤ 200) (hc0_23 : 0 ≤ z23.toInt ∧ z23.toInt ≤ 8) (hc1 : f (gr g h0 4) = .inl (gc g 1, 906, .inr (.inl q))) (hc1_ok : RowOK q) (hc2 : f (gr g h0 5) = .inl (gc g 1, 9060, .inr (.inl u))) (hc3 : f (gr g h0 7) = .inl (gc g 1, 1812, .inr (.inl im))) (hc4 : f (gr g h0 8) = .inl (gc g 3, 2, .inl kt)) (hU : UIq z10 u im kt) : Met l yX12_quota wq_c_X12_quota ({ frames := 2, cells := 0, slots := 0, locals := 46 } : Room) (va_Pc [.ref h0, .int p1, .int p2, .int p3] (fun U => kIn dC dI g A f U)) (va_Qi (fun (r : Int32) (_ : Unit) => True) (fun (_ : Unit) t => ∃ f1 : Nat → va_E, Iv dC dI g A f1 t.heap ∧ Kp g [12, 30, 32, 33, 37] f f1 ∧ ∃ (w0 : Int32) (w1 : Int32) (w10 : Int32) (w12 : Int32) (w13 : Int32) (w14 : Int32) (w15 : Int32) (w16 : Int64) (w17 : Int32) (w18 : Int32) (w23 : Int32) (w24 : Int64) (w25 : Int64) (w26 : Int64) (q1 : Nat → Int64) (u1 : Nat → Int64) (im1 : Nat → Int64) (ik1 : Nat → Int32), (f1 h0 = .inr (12, [.int w0, .int w1, .ref (gr g h0 2), .ref (gr g h0 3), .ref (gr g h0 4), .ref (gr g h0 5), .ref (gr g h0 6), .ref (gr g h0 7), .ref (gr g h0 8), .ref (gr g h0 9), .int w10, .ref (gr g h0 11), .int w12, .int w13, .int w14, .int w15, .long w16, .int w17, .int w18, .ref (gr g h0 19), .ref (gr g h0 20), .ref (gr g h0 21), .ref (gr g h0 22), .int w23, .long w24, .long w25, .long w26])) ∧ (0 ≤ w10.toInt ∧ w10.toInt ≤ 10) ∧ (0 ≤ w12.toInt ∧ w12.toInt ≤ 200) ∧ (0 ≤ w23.toInt ∧ w23.toInt ≤ 8) ∧ (f1 (gr g h0 4) = .inl (gc g 1, 906, .inr (.inl q1))) ∧ (RowOK q1) ∧ (f1 (gr g h0 5) = .inl (gc g 1, 9060, .inr (.inl u1))) ∧ (f1 (gr g h0 7) = .inl (gc g 1, 1812, .inr (.inl im1))) ∧ (f1 (gr g h0 8) = .inl (gc g 3, 2, .inl ik1)) ∧ (UIq w10 u1 im1 ik1)) A) 0 0 A := by
  refine Met.ofW (cc := cX12_quota) (maxL := 6) (ret := (some .int)) (by decide) rfl ?_
  intro p e s m args below meth c s₁ B hml hv
  obtain ⟨rfl, hI, hK, hE⟩ := hv
  have hx := B.exec
  have hb := B.bytes
  have hr := B.returns
  have hts := atoms_spec (ws := wq_c_X12_quota) B.pre
  have hown : s.vm.findClass RX12 = some m.cls := findClass_of_methodNamed B.named
  have hlocks := B.notSynchronized
  have hS : va_S A s.heap s.heap [] := va_S.rf
  have hk0 : Kp g [12, 30, 32, 33, 37] f f := Kp.rf
  have hl := lv_entry ([.ref h0, .int p1, .int p2, .int p3]) (n := 6) (Nat.le_of_ble_eq_true rfl)
  rw [lg_entry_eq]
  generalize (lg_sl ([.ref h0, .int p1, .int p2, .int p3]) ++ List.replicate (6 - (lg_sl ([.ref h0, .int p1, .int p2, .int p3])).length) Slot.unset).toArray = ls at hl ⊢
  have hl : lv_has ls 6 [(0, .ref h0), (1, .int p1), (2, .int p2), (3, .int p3)] := hl
  have i_1 := kw_12_4 hG i_h0
  have d_2 := rk_hd hc1_ok
  have i_3 := kw_12_5 hG i_h0
  have i_4 := kw_12_7 hG i_h0
  have i_5 := kw_12_8 hG i_h0
  refine lv_aload_n hx hb dX12_quota_0 rfl (lv_at hl 0 rfl) ?_
  refine lv_iconst (v := 0) hx hb dX12_quota_1 (by decide) ?_
  refine k_put (ci := 12) (v := .int 0) (ty := .int) (C := RX12) (T := TX12) (N := 27) hx hb hts (fun _ h0_ => List.mem_cons_of_mem _ (List.mem_append_right _ (List.mem_append_left _ h0_))) tyX12 tyX12_ok nmX12 hown hK hI hS i_h0.1 hc0 rfl 0 (by decide) (hts (.fieldLink RX12 67 "DeadlineShareModel" "thrown" "I") (List.mem_cons_of_mem _ (List.mem_append_left _ (List.mem_of_getElem? (i := 0) rfl)))) (fun _ h9 => h9) rfl (by decide +kernel) rfl rfl (Nat.le_of_ble_eq_true rfl) rfl (cl_12 i_h0 (by omega) (by omega) (by omega)) dX12_quota_2 (fun f_6 H locs e_7 hI hS => ?_)
  have k_9 : f_6 h0 = .inr (12, [.int 0, .int z1, .ref (gr g h0 2), .ref (gr g h0 3), .ref (gr g h0 4), .ref (gr g h0 5), .ref (gr g h0 6), .ref (gr g h0 7), .ref (gr g h0 8), .ref (gr g h0 9), .int z10, .ref (gr g h0 11), .int z12, .int z13, .int z14, .int z15, .long z16, .int z17, .int z18, .ref (gr g h0 19), .ref (gr g h0 20), .ref (gr g h0 21), .ref (gr g h0 22), .int z23, .long z24, .long z25, .long z26]) := by rw [e_7]; exact va_up_self _ _ _
  have k_10 : f_6 (gr g h0 4) = .inl (gc g 1, 906, .inr (.inl q)) := by rw [e_7, va_up_ne _ _ (ik_ne i_1 i_h0 (by decide))]; exact hc1
  have k_11 : f_6 (gr g h0 5) = .inl (gc g 1, 9060, .inr (.inl u)) := by rw [e_7, va_up_ne _ _ (ik_ne i_3 i_h0 (by decide))]; exact hc2
  have k_12 : f_6 (gr g h0 7) = .inl (gc g 1, 1812, .inr (.inl im)) := by rw [e_7, va_up_ne _ _ (ik_ne i_4 i_h0 (by decide))]; exact hc3
  have k_13 : f_6 (gr g h0 8) = .inl (gc g 3, 2, .inl kt) := by rw [e_7, va_up_ne _ _ (ik_ne i_5 i_h0 (by decide))]; exact hc4
  have kp_8 := Kp.put hk0 i_h0 (by decide) e_7
  refine lv_iload_n hx hb dX12_quota_5 rfl (lv_at hl 2 rfl) ?_
  refine lv_i2l (v := p2.toInt64) hx hb dX12_quota_6 rfl ?_
  have t_14 := Int32.toInt_toInt64 p2
  refine lv_lconst (v := 0) hx hb dX12_quota_7 (by decide) ?_
  refine lv_ldc2 hx hb hown (hts (.constantLong RX12 170 (50)) (List.mem_cons_of_mem _ (List.mem_append_left _ (List.mem_of_getElem? (i := 1) rfl)))) dX12_quota_8 ?_
  refine va_calli (va_runS (As := [.long p2.toInt64, .long 0, .long 50]) (rest := []) ⟨hx, hb, hml, hown, hts⟩ (c_X12_in l dC dI g A hG f_6 p2.toInt64 0 50) (va_cwS 3 hts (gi_S (fun w_ h0_ => ⟨List.mem_cons_of_mem _ (List.mem_append_right _ (List.mem_append_right _ (List.mem_append_left _ h0_))), (tb_c_X12_in w_ h0_).2⟩) (List.mem_cons_of_mem _ (List.mem_append_left _ (List.mem_of_getElem? (i := 2) rfl))) (List.mem_cons_of_mem _ (List.mem_append_left _ (List.mem_of_getElem? (i := 3) rfl))) (List.mem_cons_of_mem _ (List.mem_append_left _ (List.mem_of_getElem? (i := 4) rfl)))) rfl rfl rfl (by decide +kernel) ⟨Nat.le_of_ble_eq_true rfl, Nat.le_of_ble_eq_true rfl⟩) ⟨fun a U g mk q => ⟨q.1, q.2.calling rfl rfl⟩, fun U hU hW => ⟨rfl, kIn.of hI hK hE hS hU hW⟩⟩ rfl rfl hl.1 rfl (lv_room (Nat.le_of_ble_eq_true rfl)) dX12_quota_11 ⟨Nat.le_of_ble_eq_true rfl, Nat.le_of_ble_eq_true rfl⟩) hS (fun q _ h => h) (fun q h => h) (fun r_16 u t H1 locs ht hvm w_15 hB hz1 hk1 hS => ?_)
  have hI : Iv dC dI g A f_6 t.heap := hB
  rw [ht] at hI
  generalize H1 = H at hI hS ⊢
  refine W.widen (k := 0) (n := 0) (Nat.le_of_ble_eq_true rfl) (Nat.le_of_ble_eq_true rfl) ?_
  have w_15 : (r_16.toInt = 0 ∧ (p2.toInt64.toInt < (0 : Int64).toInt ∨ (50 : Int64).toInt < p2.toInt64.toInt)) ∨ (r_16.toInt = 1 ∧ (0 : Int64).toInt ≤ p2.toInt64.toInt ∧ p2.toInt64.toInt ≤ (50 : Int64).toInt) := w_15
  have g_17 : Int64.toInt (0) = 0 := by decide
  have g_18 : Int64.toInt (50) = 50 := by decide
  have J_36 : ∀ (H : Heap) (locs : List Loc) (ls : Array Slot), Iv dC dI g A f_6 H → va_S A s.heap H locs → lv_has ls 6 [(0, .ref h0), (1, .int p1), (2, .int p2), (3, .int p3)] → W p l e (headSpec wq_c_X12_quota ({ frames := 2, cells := 0, slots := 0, locals := 46 } : Room)).room s m ([.ref h0, .int p1, .int p2, .int p3].toArray) below meth c H locs 0 0 (MQ below (va_Qi (fun (r : Int32) (_ : Unit) => True) (fun (_ : Unit) t => ∃ f1 : Nat → va_E, Iv dC dI g A f1 t.heap ∧ Kp g [12, 30, 32, 33, 37] f f1 ∧ ∃ (w0 : Int32) (w1 : Int32) (w10 : Int32) (w12 : Int32) (w13 : Int32) (w14 : Int32) (w15 : Int32) (w16 : Int64) (w17 : Int32) (w18 : Int32) (w23 : Int32) (w24 : Int64) (w25 : Int64) (w26 : Int64) (q1 : Nat → Int64) (u1 : Nat → Int64) (im1 : Nat → Int64) (ik1 : Nat → Int32), (f1 h0 = .inr (12, [.int w0, .int w1, .ref (gr g h0 2), .ref (gr g h0 3), .ref (gr g h0 4), .ref (gr g h0 5), .ref (gr g h0 6), .ref (gr g h0 7), .ref (gr g h0 8), .ref (gr g h0 9), .int w10, .ref (gr g h0 11), .int w12, .int w13, .int w14, .int w15, .long w16, .int w17, .int w18, .ref (gr g h0 19), .ref (gr g h0 20), .ref (gr g h0 21), .ref (gr g h0 22), .int w23, .long w24, .long w25, .long w26])) ∧ (0 ≤ w10.toInt ∧ w10.toInt ≤ 10) ∧ (0 ≤ w12.toInt ∧ w12.toInt ≤ 200) ∧ (0 ≤ w23.toInt ∧ w23.toInt ≤ 8) ∧ (f1 (gr g h0 4) = .inl (gc g 1, 906, .inr (.inl q1))) ∧ (RowOK q1) ∧ (f1 (gr g h0 5) = .inl (gc g 1, 9060, .inr (.inl u1))) ∧ (f1 (gr g h0 7) = .inl (gc g 1, 1812, .inr (.inl im1))) ∧ (f1 (gr g h0 8) = .inl (gc g 3, 2, .inl ik1)) ∧ (UIq w10 u1 im1 ik1)) A) ([.ref h0, .int p1, .int p2, .int p3].toArray) s 0 0 A) (F0 m 36 ls []) := by
    intro H locs ls hI hS  hl
    refine lv_aload_n hx hb dX12_quota_36 rfl (lv_at hl 0 rfl) ?_
    refine lv_iconst (v := (-1)) hx hb dX12_quota_37 (by decide) ?_
    refine va_calli (va_runV (As := [.int (-1)]) (rest := []) ⟨hx, hb, hml, hown, hts⟩ (c_X12_refuse l dC dI g A hG f_6 h0 (-1) 0 z1 z10 z12 z13 z14 z15 z16 z17 z18 z23 z24 z25 z26 i_h0 k_9 (by first | omega | (simp only [k_c0]; omega)) (by first | omega | (simp only [k_c0]; omega)) (by first | omega | (simp only [k_c0]; omega)) (by decide)) (cwV 1 hts (gi_V (fun w_ h0_ => ⟨List.mem_cons_of_mem _ (List.mem_append_right _ (List.mem_append_right _ (List.mem_append_right _ (List.mem_append_left _ h0_)))), (tb_c_X12_refuse w_ h0_).2⟩) (List.mem_cons_of_mem _ (List.mem_append_left _ (List.mem_of_getElem? (i := 5) rfl))) (List.mem_cons_of_mem _ (List.mem_append_left _ (List.mem_of_getElem? (i := 6) rfl))) (List.mem_cons_of_mem _ (List.mem_append_left _ (List.mem_of_getElem? (i := 7) rfl))) (List.mem_cons_of_mem _ (List.mem_append_left _ (List.mem_of_getElem? (i := 4) rfl)))) rfl rfl rfl (by decide +kernel) ⟨Nat.le_of_ble_eq_true rfl, Nat.le_of_ble_eq_true rfl⟩) ⟨fun a U g mk q => ⟨q.1, q.2.calling rfl rfl⟩, k_recv hK hI i_h0.1 k_9 (ci := 12) rfl, fun U hU hW => ⟨rfl, kIn.of hI hK hE hS hU hW⟩⟩ rfl rfl hl.1 rfl (lv_room (Nat.le_of_ble_eq_true rfl)) dX12_quota_38 ⟨Nat.le_of_ble_eq_true rfl, Nat.le_of_ble_eq_true rfl⟩) hS (fun q _ h => h) (fun q h => h) (fun r_21 u t H1 locs ht hvm w_20 hB hz1 hk1 hS => ?_)
    obtain ⟨f_19, hI, kc_22, k_23⟩ := hB
    rw [ht] at hI
    have k_24 : f_19 (gr g h0 4) = .inl (gc g 1, 906, .inr (.inl q)) := Kp.at kc_22 i_1 (by decide) k_10
    have k_25 : f_19 (gr g h0 5) = .inl (gc g 1, 9060, .inr (.inl u)) := Kp.at kc_22 i_3 (by decide) k_11
    have k_26 : f_19 (gr g h0 7) = .inl (gc g 1, 1812, .inr (.inl im)) := Kp.at kc_22 i_4 (by decide) k_12
    have k_27 : f_19 (gr g h0 8) = .inl (gc g 3, 2, .inl kt) := Kp.at kc_22 i_5 (by decide) k_13
    have k_23 : f_19 h0 = .inr (12, [.int (0 : Int32), .int (-1 : Int32), .ref (gr g h0 2), .ref (gr g h0 3), .ref (gr g h0 4), .ref (gr g h0 5), .ref (gr g h0 6), .ref (gr g h0 7), .ref (gr g h0 8), .ref (gr g h0 9), .int z10, .ref (gr g h0 11), .int z12, .int z13, .int z14, .int z15, .long z16, .int z17, .int z18, .ref (gr g h0 19), .ref (gr g h0 20), .ref (gr g h0 21), .ref (gr g h0 22), .int z23, .long z24, .long z25, .long z26]) := k_23
    have kp_28 := Kp.call kp_8 kc_22 (by decide)
    generalize H1 = H at hI hS ⊢
    refine W.widen (k := 0) (n := 0) (Nat.le_of_ble_eq_true rfl) (Nat.le_of_ble_eq_true rfl) ?_
    have w_20 : r_21.toInt = (-1 : Int32).toInt := w_20
    have g_29 : Int32.toInt ((-1)) = (-1) := by decide
    exact W.iret (v := r_21) hx hb hr (fun t ht hW => ⟨⟨r_21, (), rfl, trivial, ⟨f_19, k_ret ht hI, kp_28, (0 : Int32), (-1 : Int32), z10, z12, z13, z14, z15, z16, z17, z18, z23, z24, z25, z26, q, u, im, kt, k_23, (by first | omega | decide), (by first | omega | decide), (by first | omega | decide), k_24, hc1_ok, k_25, k_26, k_27, hU⟩⟩, hS.F ht⟩) hS.2.2 dX12_quota_41
  refine lv_if_eq (tgt := 36) hx hb dX12_quota_14 (by decide) (fun c_30 => ?_) (fun c_30 => ?_)
  · have c_30 := kc_eq rfl (by decide : Int32.toInt 0 = 0) c_30
    exact J_36  _ _ _ hI hS  (lv_sub hl [0, 1, 2, 3] rfl)
  · have c_30 := kn_eq rfl (by decide : Int32.toInt 0 = 0) c_30
    refine lv_iload_n hx hb dX12_quota_17 rfl (lv_at hl 2 rfl) ?_
    have J_42 : ∀ (H : Heap) (locs : List Loc) (ls : Array Slot), Iv dC dI g A f_6 H → va_S A s.heap H locs → (p2.toInt ≤ 0 ∨ p2.toInt < p3.toInt) → lv_has ls 6 [(0, .ref h0), (1, .int p1), (2, .int p2), (3, .int p3)] → W p l e (headSpec wq_c_X12_quota ({ frames := 2, cells := 0, slots := 0, locals := 46 } : Room)).room s m ([.ref h0, .int p1, .int p2, .int p3].toArray) below meth c H locs 0 0 (MQ below (va_Qi (fun (r : Int32) (_ : Unit) => True) (fun (_ : Unit) t => ∃ f1 : Nat → va_E, Iv dC dI g A f1 t.heap ∧ Kp g [12, 30, 32, 33, 37] f f1 ∧ ∃ (w0 : Int32) (w1 : Int32) (w10 : Int32) (w12 : Int32) (w13 : Int32) (w14 : Int32) (w15 : Int32) (w16 : Int64) (w17 : Int32) (w18 : Int32) (w23 : Int32) (w24 : Int64) (w25 : Int64) (w26 : Int64) (q1 : Nat → Int64) (u1 : Nat → Int64) (im1 : Nat → Int64) (ik1 : Nat → Int32), (f1 h0 = .inr (12, [.int w0, .int w1, .ref (gr g h0 2), .ref (gr g h0 3), .ref (gr g h0 4), .ref (gr g h0 5), .ref (gr g h0 6), .ref (gr g h0 7), .ref (gr g h0 8), .ref (gr g h0 9), .int w10, .ref (gr g h0 11), .int w12, .int w13, .int w14, .int w15, .long w16, .int w17, .int w18, .ref (gr g h0 19), .ref (gr g h0 20), .ref (gr g h0 21), .ref (gr g h0 22), .int w23, .long w24, .long w25, .long w26])) ∧ (0 ≤ w10.toInt ∧ w10.toInt ≤ 10) ∧ (0 ≤ w12.toInt ∧ w12.toInt ≤ 200) ∧ (0 ≤ w23.toInt ∧ w23.toInt ≤ 8) ∧ (f1 (gr g h0 4) = .inl (gc g 1, 906, .inr (.inl q1))) ∧ (RowOK q1) ∧ (f1 (gr g h0 5) = .inl (gc g 1, 9060, .inr (.inl u1))) ∧ (f1 (gr g h0 7) = .inl (gc g 1, 1812, .inr (.inl im1))) ∧ (f1 (gr g h0 8) = .inl (gc g 3, 2, .inl ik1)) ∧ (UIq w10 u1 im1 ik1)) A) ([.ref h0, .int p1, .int p2, .int p3].toArray) s 0 0 A) (F0 m 42 ls []) := by
      intro H locs ls hI hS t_31 hl
      refine lv_aload_n hx hb dX12_quota_42 rfl (lv_at hl 0 rfl) ?_
      refine lv_iload_n hx hb dX12_quota_43 rfl (lv_at hl 1 rfl) ?_
      refine va_calli (va_runV (As := [.int p1]) (rest := []) ⟨hx, hb, hml, hown, hts⟩ (c_X12_isTask l dC dI g A hG f_6 h0 p1 q i_h0 k_10 hc1_ok) (cwV 1 hts (gi_V (fun w_ h0_ => ⟨List.mem_cons_of_mem _ (List.mem_append_right _ (List.mem_append_right _ (List.mem_append_right _ (List.mem_append_right _ (List.mem_append_left _ h0_))))), (tb_c_X12_isTask w_ h0_).2⟩) (List.mem_cons_of_mem _ (List.mem_append_left _ (List.mem_of_getElem? (i := 8) rfl))) (List.mem_cons_of_mem _ (List.mem_append_left _ (List.mem_of_getElem? (i := 9) rfl))) (List.mem_cons_of_mem _ (List.mem_append_left _ (List.mem_of_getElem? (i := 10) rfl))) (List.mem_cons_of_mem _ (List.mem_append_left _ (List.mem_of_getElem? (i := 4) rfl)))) rfl rfl rfl (by decide +kernel) ⟨Nat.le_of_ble_eq_true rfl, Nat.le_of_ble_eq_true rfl⟩) ⟨fun a U g mk q => ⟨q.1, q.2.calling rfl rfl⟩, k_recv hK hI i_h0.1 k_9 (ci := 12) rfl, fun U hU hW => ⟨rfl, kIn.of hI hK hE hS hU hW⟩⟩ rfl rfl hl.1 rfl (lv_room (Nat.le_of_ble_eq_true rfl)) dX12_quota_44 ⟨Nat.le_of_ble_eq_true rfl, Nat.le_of_ble_eq_true rfl⟩) hS (fun q _ h => h) (fun q h => h) (fun r_33 u t H1 locs ht hvm w_32 hB hz1 hk1 hS => ?_)
      have hI : Iv dC dI g A f_6 t.heap := hB
      rw [ht] at hI
      generalize H1 = H at hI hS ⊢
      refine W.widen (k := 0) (n := 0) (Nat.le_of_ble_eq_true rfl) (Nat.le_of_ble_eq_true rfl) ?_
      have w_32 : (r_33.toInt = 0 ∨ r_33.toInt = 1) ∧ (r_33.toInt = 0 ∨ (0 ≤ p1.toInt ∧ p1.toInt < (q 0).toInt)) := w_32
      refine lv_if_ne (tgt := 57) hx hb dX12_quota_47 (by decide) (fun c_34 => ?_) (fun c_34 => ?_)
      · have c_34 := kn_eq rfl (by decide : Int32.toInt 0 = 0) c_34
        refine lv_aload_n hx hb dX12_quota_57 rfl (lv_at hl 0 rfl) ?_
        refine lv_bipush (v := 9) hx hb dX12_quota_58 (by decide) ?_
        refine va_callv (va_runV (As := [.int 9]) (rest := []) ⟨hx, hb, hml, hown, hts⟩ (c_X12_remember l dC dI g A hG f_6 h0 9 0 z1 z10 z12 z13 z14 z15 z16 z17 z18 z23 z24 z25 z26 q u im kt i_h0 k_9 (by first | omega | (simp only [k_c0]; omega)) (by first | omega | (simp only [k_c0]; omega)) (by first | omega | (simp only [k_c0]; omega)) k_10 hc1_ok k_11 k_12 k_13 (by decide)) (cwV 1 hts (gi_V (fun w_ h0_ => ⟨List.mem_cons_of_mem _ (List.mem_append_right _ (List.mem_append_right _ (List.mem_append_right _ (List.mem_append_right _ (List.mem_append_right _ (List.mem_append_left _ h0_)))))), (tb_c_X12_remember w_ h0_).2⟩) (List.mem_cons_of_mem _ (List.mem_append_left _ (List.mem_of_getElem? (i := 11) rfl))) (List.mem_cons_of_mem _ (List.mem_append_left _ (List.mem_of_getElem? (i := 12) rfl))) (List.mem_cons_of_mem _ (List.mem_append_left _ (List.mem_of_getElem? (i := 13) rfl))) (List.mem_cons_of_mem _ (List.mem_append_left _ (List.mem_of_getElem? (i := 4) rfl)))) rfl rfl rfl (by decide +kernel) ⟨Nat.le_of_ble_eq_true rfl, Nat.le_of_ble_eq_true rfl⟩) ⟨fun a U g mk q => ⟨q.1, q.2.calling rfl rfl⟩, k_recv hK hI i_h0.1 k_9 (ci := 12) rfl, fun U hU hW => ⟨rfl, kIn.of hI hK hE hS hU hW⟩⟩ rfl rfl hl.1 rfl (lv_room (Nat.le_of_ble_eq_true rfl)) dX12_quota_60 ⟨Nat.le_of_ble_eq_true rfl, Nat.le_of_ble_eq_true rfl⟩) hS (fun q _ h => h) (fun q h => h) (fun u t H1 locs ht hvm _ hB hz1 hk1 hS => ?_)
        obtain ⟨f_35, hI, kc_37, w10_38, u1_39, k_40, z_41, k_42, z_43⟩ := hB
        rw [ht] at hI
        have k_44 : f_35 (gr g h0 4) = .inl (gc g 1, 906, .inr (.inl q)) := Kp.at kc_37 i_1 (by decide) k_10
        have k_45 : f_35 (gr g h0 7) = .inl (gc g 1, 1812, .inr (.inl im)) := Kp.at kc_37 i_4 (by decide) k_12
        have k_46 : f_35 (gr g h0 8) = .inl (gc g 3, 2, .inl kt) := Kp.at kc_37 i_5 (by decide) k_13
        have k_40 : f_35 h0 = .inr (12, [.int (0 : Int32), .int z1, .ref (gr g h0 2), .ref (gr g h0 3), .ref (gr g h0 4), .ref (gr g h0 5), .ref (gr g h0 6), .ref (gr g h0 7), .ref (gr g h0 8), .ref (gr g h0 9), .int w10_38, .ref (gr g h0 11), .int z12, .int z13, .int z14, .int z15, .long z16, .int z17, .int z18, .ref (gr g h0 19), .ref (gr g h0 20), .ref (gr g h0 21), .ref (gr g h0 22), .int z23, .long z24, .long z25, .long z26]) := k_40
        have z_41 : 0 ≤ w10_38.toInt ∧ w10_38.toInt ≤ 10 := z_41
        have z_43 : UIq w10_38 u1_39 im kt := z_43
        have kp_47 := Kp.call kp_8 kc_37 (by decide)
        generalize H1 = H at hI hS ⊢
        refine W.widen (k := 0) (n := 0) (Nat.le_of_ble_eq_true rfl) (Nat.le_of_ble_eq_true rfl) ?_
        obtain ⟨m_48, em_48, tm_48⟩ := k_nat (x := p1) (by omega)
        refine lv_iload_n hx hb dX12_quota_63 rfl (lv_at hl 1 rfl) ?_
        refine k_topi (y := nI m_48) em_48 ?_
        refine va_calli (va_runS (As := [.int (nI m_48)]) (rest := []) ⟨hx, hb, hml, hown, hts⟩ (c_X12_at l dC dI g A hG f_35 m_48) (va_cwS 1 hts (gi_S (fun w_ h0_ => ⟨List.mem_cons_of_mem _ (List.mem_append_right _ (List.mem_append_right _ (List.mem_append_right _ (List.mem_append_right _ (List.mem_append_right _ (List.mem_append_right _ (List.mem_append_left _ h0_))))))), (tb_c_X12_at w_ h0_).2⟩) (List.mem_cons_of_mem _ (List.mem_append_left _ (List.mem_of_getElem? (i := 14) rfl))) (List.mem_cons_of_mem _ (List.mem_append_left _ (List.mem_of_getElem? (i := 15) rfl))) (List.mem_cons_of_mem _ (List.mem_append_left _ (List.mem_of_getElem? (i := 4) rfl)))) rfl rfl rfl (by decide +kernel) ⟨Nat.le_of_ble_eq_true rfl, Nat.le_of_ble_eq_true rfl⟩) ⟨fun a U g mk q => ⟨q.1, q.2.calling rfl rfl⟩, fun U hU hW => ⟨rfl, kIn.of hI hK hE hS hU hW⟩⟩ rfl rfl hl.1 rfl (lv_room (Nat.le_of_ble_eq_true rfl)) dX12_quota_64 ⟨Nat.le_of_ble_eq_true rfl, Nat.le_of_ble_eq_true rfl⟩) hS (fun q _ h => h) (fun q h => h) (fun r_50 u t H1 locs ht hvm w_49 hB hz1 hk1 hS => ?_)
        have hI : Iv dC dI g A f_35 t.heap := hB
        rw [ht] at hI
        generalize H1 = H at hI hS ⊢
        refine W.widen (k := 0) (n := 0) (Nat.le_of_ble_eq_true rfl) (Nat.le_of_ble_eq_true rfl) ?_
        have w_49 : r_50 = nI (6 + 43 * m_48) := w_49
        refine k_topi (y := nI (6 + 43 * m_48)) w_49 ?_
        refine lv_istore (lv' := [(4, .int (nI (6 + 43 * m_48))), (0, .ref h0), (1, .int p1), (2, .int p2), (3, .int p3)]) hx hb dX12_quota_67 hl (by decide) rfl (fun ls hl => ?_)
        refine lv_aload_n hx hb dX12_quota_69 rfl (lv_at hl 1 rfl) ?_
        refine k_get (ci := 12) (v := .ref (gr g h0 4)) (C := RX12) (T := TX12) (N := 27) hx hb hts (fun _ h0_ => List.mem_cons_of_mem _ (List.mem_append_right _ (List.mem_append_left _ h0_))) hown hK hI i_h0.1 k_40 rfl 4 (by decide) (hts (.fieldLink RX12 16 "DeadlineShareModel" "row" "[J") (List.mem_cons_of_mem _ (List.mem_append_left _ (List.mem_of_getElem? (i := 16) rfl)))) (fun _ h9 => h9) rfl dX12_quota_70 ?_
        refine lv_iload hx hb dX12_quota_73 (lv_at hl 0 rfl) ?_
        refine lv_bipush (v := 41) hx hb dX12_quota_75 (by decide) ?_
        refine lv_iadd hx hb dX12_quota_77 ?_
        refine k_topi (y := nI (6 + 43 * m_48 + 41)) ((nI_add (6 + 43 * m_48) 41).trans (congrArg nI (by omega))) ?_
        refine k_lald hx hb hK hI i_1.1 1 k_44 rfl (vp_in_nI (by omega) (by omega)) dX12_quota_78 ?_
        refine k_topl (y := q (6 + 43 * m_48 + 41)) (congrArg q (nI_clamp (by omega))) ?_
        have d_53 := rk_41 hc1_ok (t := m_48) (by omega)
        refine lv_lconst (v := 0) hx hb dX12_quota_79 (by decide) ?_
        refine W.lcmp hx hb dX12_quota_80 ?_
        have J_99 : ∀ (y_54 : Int32) (H : Heap) (locs : List Loc) (ls : Array Slot), Iv dC dI g A f_35 H → va_S A s.heap H locs → lv_has ls 6 [(4, .int (nI (6 + 43 * m_48))), (0, .ref h0), (1, .int p1), (2, .int p2), (3, .int p3)] → W p l e (headSpec wq_c_X12_quota ({ frames := 2, cells := 0, slots := 0, locals := 46 } : Room)).room s m ([.ref h0, .int p1, .int p2, .int p3].toArray) below meth c H locs 0 0 (MQ below (va_Qi (fun (r : Int32) (_ : Unit) => True) (fun (_ : Unit) t => ∃ f1 : Nat → va_E, Iv dC dI g A f1 t.heap ∧ Kp g [12, 30, 32, 33, 37] f f1 ∧ ∃ (w0 : Int32) (w1 : Int32) (w10 : Int32) (w12 : Int32) (w13 : Int32) (w14 : Int32) (w15 : Int32) (w16 : Int64) (w17 : Int32) (w18 : Int32) (w23 : Int32) (w24 : Int64) (w25 : Int64) (w26 : Int64) (q1 : Nat → Int64) (u1 : Nat → Int64) (im1 : Nat → Int64) (ik1 : Nat → Int32), (f1 h0 = .inr (12, [.int w0, .int w1, .ref (gr g h0 2), .ref (gr g h0 3), .ref (gr g h0 4), .ref (gr g h0 5), .ref (gr g h0 6), .ref (gr g h0 7), .ref (gr g h0 8), .ref (gr g h0 9), .int w10, .ref (gr g h0 11), .int w12, .int w13, .int w14, .int w15, .long w16, .int w17, .int w18, .ref (gr g h0 19), .ref (gr g h0 20), .ref (gr g h0 21), .ref (gr g h0 22), .int w23, .long w24, .long w25, .long w26])) ∧ (0 ≤ w10.toInt ∧ w10.toInt ≤ 10) ∧ (0 ≤ w12.toInt ∧ w12.toInt ≤ 200) ∧ (0 ≤ w23.toInt ∧ w23.toInt ≤ 8) ∧ (f1 (gr g h0 4) = .inl (gc g 1, 906, .inr (.inl q1))) ∧ (RowOK q1) ∧ (f1 (gr g h0 5) = .inl (gc g 1, 9060, .inr (.inl u1))) ∧ (f1 (gr g h0 7) = .inl (gc g 1, 1812, .inr (.inl im1))) ∧ (f1 (gr g h0 8) = .inl (gc g 3, 2, .inl ik1)) ∧ (UIq w10 u1 im1 ik1)) A) ([.ref h0, .int p1, .int p2, .int p3].toArray) s 0 0 A) (F0 m 99 ls [.int y_54]) := by
          intro y_54 H locs ls hI hS  hl
          refine lv_istore (lv' := [(5, .int y_54), (4, .int (nI (6 + 43 * m_48))), (0, .ref h0), (1, .int p1), (2, .int p2), (3, .int p3)]) hx hb dX12_quota_99 hl (by decide) rfl (fun ls hl => ?_)
          refine lv_aload_n hx hb dX12_quota_101 rfl (lv_at hl 2 rfl) ?_
          refine k_get (ci := 12) (v := .ref (gr g h0 4)) (C := RX12) (T := TX12) (N := 27) hx hb hts (fun _ h0_ => List.mem_cons_of_mem _ (List.mem_append_right _ (List.mem_append_left _ h0_))) hown hK hI i_h0.1 k_40 rfl 4 (by decide) (hts (.fieldLink RX12 16 "DeadlineShareModel" "row" "[J") (List.mem_cons_of_mem _ (List.mem_append_left _ (List.mem_of_getElem? (i := 16) rfl)))) (fun _ h9 => h9) rfl dX12_quota_102 ?_
          refine lv_iload hx hb dX12_quota_105 (lv_at hl 1 rfl) ?_
          refine lv_bipush (v := 41) hx hb dX12_quota_107 (by decide) ?_
          refine lv_iadd hx hb dX12_quota_109 ?_
          refine k_topi (y := nI (6 + 43 * m_48 + 41)) ((nI_add (6 + 43 * m_48) 41).trans (congrArg nI (by omega))) ?_
          refine lv_iload_n hx hb dX12_quota_110 rfl (lv_at hl 4 rfl) ?_
          refine lv_i2l (v := p2.toInt64) hx hb dX12_quota_111 rfl ?_
          have t_57 := Int32.toInt_toInt64 p2
          refine k_last hx hb hK hI hS i_1.1 1 k_44 rfl (vp_in_nI (by omega) (by omega)) (cl_32 i_1) dX12_quota_112 (fun f_58 H locs e_59 hI hS => ?_)
          generalize eq_60 : vp_updL q (Int32.toNatClampNeg (nI (6 + 43 * m_48 + 41))) p2.toInt64 = q_60 at e_59
          have k_62 : f_58 (gr g h0 4) = .inl (gc g 1, 906, .inr (.inl q_60)) := by rw [e_59]; exact va_up_self _ _ _
          have k_63 : f_58 (gr g h0 7) = .inl (gc g 1, 1812, .inr (.inl im)) := by rw [e_59, va_up_ne _ _ (ik_ne i_4 i_1 (by decide))]; exact k_45
          have k_64 : f_58 (gr g h0 8) = .inl (gc g 3, 2, .inl kt) := by rw [e_59, va_up_ne _ _ (ik_ne i_5 i_1 (by decide))]; exact k_46
          have k_65 : f_58 h0 = .inr (12, [.int (0 : Int32), .int z1, .ref (gr g h0 2), .ref (gr g h0 3), .ref (gr g h0 4), .ref (gr g h0 5), .ref (gr g h0 6), .ref (gr g h0 7), .ref (gr g h0 8), .ref (gr g h0 9), .int w10_38, .ref (gr g h0 11), .int z12, .int z13, .int z14, .int z15, .long z16, .int z17, .int z18, .ref (gr g h0 19), .ref (gr g h0 20), .ref (gr g h0 21), .ref (gr g h0 22), .int z23, .long z24, .long z25, .long z26]) := by rw [e_59, va_up_ne _ _ (ik_ne i_h0 i_1 (by decide))]; exact k_40
          have k_66 : f_58 (gr g h0 5) = .inl (gc g 1, 9060, .inr (.inl u1_39)) := by rw [e_59, va_up_ne _ _ (ik_ne i_3 i_1 (by decide))]; exact k_42
          have kp_61 := Kp.put kp_47 i_1 (by decide) e_59
          have u_67 : vp_updL q (6 + 43 * m_48 + 41) p2.toInt64 = q_60 := by rw [← eq_60, show Int32.toNatClampNeg (nI (6 + 43 * m_48 + 41)) = 6 + 43 * m_48 + 41 from (nI_clamp (by omega))]
          have n_68 : (q_60 0).toInt = (q 0).toInt := by rw [← u_67, pk_uLn (by omega)]
          have n_69 : (q_60 1).toInt = (q 1).toInt := by rw [← u_67, pk_uLn (by omega)]
          have n_70 : (q_60 3).toInt = (q 3).toInt := by rw [← u_67, pk_uLn (by omega)]
          have n_71 : (q_60 4).toInt = (q 4).toInt := by rw [← u_67, pk_uLn (by omega)]
          have n_72 : (q_60 5).toInt = (q 5).toInt := by rw [← u_67, pk_uLn (by omega)]
          refine lv_aload_n hx hb dX12_quota_113 rfl (lv_at hl 2 rfl) ?_
          refine k_get (ci := 12) (v := .ref (gr g h0 4)) (C := RX12) (T := TX12) (N := 27) hx hb hts (fun _ h0_ => List.mem_cons_of_mem _ (List.mem_append_right _ (List.mem_append_left _ h0_))) hown hK hI i_h0.1 k_65 rfl 4 (by decide) (hts (.fieldLink RX12 16 "DeadlineShareModel" "row" "[J") (List.mem_cons_of_mem _ (List.mem_append_left _ (List.mem_of_getElem? (i := 16) rfl)))) (fun _ h9 => h9) rfl dX12_quota_114 ?_
          refine lv_iload hx hb dX12_quota_117 (lv_at hl 1 rfl) ?_
          refine lv_bipush (v := 42) hx hb dX12_quota_119 (by decide) ?_
          refine lv_iadd hx hb dX12_quota_121 ?_
          refine k_topi (y := nI (6 + 43 * m_48 + 42)) ((nI_add (6 + 43 * m_48) 42).trans (congrArg nI (by omega))) ?_
          refine lv_iload_n hx hb dX12_quota_122 rfl (lv_at hl 4 rfl) ?_
          have J_132 : ∀ (y_75 : Int64) (H : Heap) (locs : List Loc) (ls : Array Slot), Iv dC dI g A f_58 H → va_S A s.heap H locs → (p2.toInt ≤ 0 ∨ 0 < y_75.toInt) → lv_has ls 6 [(5, .int y_54), (4, .int (nI (6 + 43 * m_48))), (0, .ref h0), (1, .int p1), (2, .int p2), (3, .int p3)] → W p l e (headSpec wq_c_X12_quota ({ frames := 2, cells := 0, slots := 0, locals := 46 } : Room)).room s m ([.ref h0, .int p1, .int p2, .int p3].toArray) below meth c H locs 0 0 (MQ below (va_Qi (fun (r : Int32) (_ : Unit) => True) (fun (_ : Unit) t => ∃ f1 : Nat → va_E, Iv dC dI g A f1 t.heap ∧ Kp g [12, 30, 32, 33, 37] f f1 ∧ ∃ (w0 : Int32) (w1 : Int32) (w10 : Int32) (w12 : Int32) (w13 : Int32) (w14 : Int32) (w15 : Int32) (w16 : Int64) (w17 : Int32) (w18 : Int32) (w23 : Int32) (w24 : Int64) (w25 : Int64) (w26 : Int64) (q1 : Nat → Int64) (u1 : Nat → Int64) (im1 : Nat → Int64) (ik1 : Nat → Int32), (f1 h0 = .inr (12, [.int w0, .int w1, .ref (gr g h0 2), .ref (gr g h0 3), .ref (gr g h0 4), .ref (gr g h0 5), .ref (gr g h0 6), .ref (gr g h0 7), .ref (gr g h0 8), .ref (gr g h0 9), .int w10, .ref (gr g h0 11), .int w12, .int w13, .int w14, .int w15, .long w16, .int w17, .int w18, .ref (gr g h0 19), .ref (gr g h0 20), .ref (gr g h0 21), .ref (gr g h0 22), .int w23, .long w24, .long w25, .long w26])) ∧ (0 ≤ w10.toInt ∧ w10.toInt ≤ 10) ∧ (0 ≤ w12.toInt ∧ w12.toInt ≤ 200) ∧ (0 ≤ w23.toInt ∧ w23.toInt ≤ 8) ∧ (f1 (gr g h0 4) = .inl (gc g 1, 906, .inr (.inl q1))) ∧ (RowOK q1) ∧ (f1 (gr g h0 5) = .inl (gc g 1, 9060, .inr (.inl u1))) ∧ (f1 (gr g h0 7) = .inl (gc g 1, 1812, .inr (.inl im1))) ∧ (f1 (gr g h0 8) = .inl (gc g 3, 2, .inl ik1)) ∧ (UIq w10 u1 im1 ik1)) A) ([.ref h0, .int p1, .int p2, .int p3].toArray) s 0 0 A) (F0 m 132 ls [.long y_75, .int (nI (6 + 43 * m_48 + 42)), .ref (gr g h0 4)]) := by
            intro y_75 H locs ls hI hS t_76 hl
            refine k_last hx hb hK hI hS i_1.1 1 k_62 rfl (vp_in_nI (by omega) (by omega)) (cl_32 i_1) dX12_quota_132 (fun f_77 H locs e_78 hI hS => ?_)
            generalize eq_79 : vp_updL q_60 (Int32.toNatClampNeg (nI (6 + 43 * m_48 + 42))) y_75 = q_79 at e_78
            have k_81 : f_77 (gr g h0 4) = .inl (gc g 1, 906, .inr (.inl q_79)) := by rw [e_78]; exact va_up_self _ _ _
            have k_82 : f_77 (gr g h0 7) = .inl (gc g 1, 1812, .inr (.inl im)) := by rw [e_78, va_up_ne _ _ (ik_ne i_4 i_1 (by decide))]; exact k_63
            have k_83 : f_77 (gr g h0 8) = .inl (gc g 3, 2, .inl kt) := by rw [e_78, va_up_ne _ _ (ik_ne i_5 i_1 (by decide))]; exact k_64
            have k_84 : f_77 h0 = .inr (12, [.int (0 : Int32), .int z1, .ref (gr g h0 2), .ref (gr g h0 3), .ref (gr g h0 4), .ref (gr g h0 5), .ref (gr g h0 6), .ref (gr g h0 7), .ref (gr g h0 8), .ref (gr g h0 9), .int w10_38, .ref (gr g h0 11), .int z12, .int z13, .int z14, .int z15, .long z16, .int z17, .int z18, .ref (gr g h0 19), .ref (gr g h0 20), .ref (gr g h0 21), .ref (gr g h0 22), .int z23, .long z24, .long z25, .long z26]) := by rw [e_78, va_up_ne _ _ (ik_ne i_h0 i_1 (by decide))]; exact k_65
            have k_85 : f_77 (gr g h0 5) = .inl (gc g 1, 9060, .inr (.inl u1_39)) := by rw [e_78, va_up_ne _ _ (ik_ne i_3 i_1 (by decide))]; exact k_66
            have kp_80 := Kp.put kp_61 i_1 (by decide) e_78
            have u_86 : vp_updL q_60 (6 + 43 * m_48 + 42) y_75 = q_79 := by rw [← eq_79, show Int32.toNatClampNeg (nI (6 + 43 * m_48 + 42)) = 6 + 43 * m_48 + 42 from (nI_clamp (by omega))]
            have ok_87 : RowOK q_79 := by rw [← u_86, ← u_67]; exact rk_quota hc1_ok (t := m_48) (by omega) (by omega)
            have d_88 := rk_hd ok_87
            have n_89 : (q_79 0).toInt = (q_60 0).toInt := by rw [← u_86, pk_uLn (by omega)]
            have n_90 : (q_79 1).toInt = (q_60 1).toInt := by rw [← u_86, pk_uLn (by omega)]
            have n_91 : (q_79 3).toInt = (q_60 3).toInt := by rw [← u_86, pk_uLn (by omega)]
            have n_92 : (q_79 4).toInt = (q_60 4).toInt := by rw [← u_86, pk_uLn (by omega)]
            have n_93 : (q_79 5).toInt = (q_60 5).toInt := by rw [← u_86, pk_uLn (by omega)]
            refine lv_aload_n hx hb dX12_quota_133 rfl (lv_at hl 2 rfl) ?_
            refine k_get (ci := 12) (v := .ref (gr g h0 4)) (C := RX12) (T := TX12) (N := 27) hx hb hts (fun _ h0_ => List.mem_cons_of_mem _ (List.mem_append_right _ (List.mem_append_left _ h0_))) hown hK hI i_h0.1 k_84 rfl 4 (by decide) (hts (.fieldLink RX12 16 "DeadlineShareModel" "row" "[J") (List.mem_cons_of_mem _ (List.mem_append_left _ (List.mem_of_getElem? (i := 16) rfl)))) (fun _ h9 => h9) rfl dX12_quota_134 ?_
            refine lv_iload hx hb dX12_quota_137 (lv_at hl 1 rfl) ?_
            refine lv_bipush (v := 40) hx hb dX12_quota_139 (by decide) ?_
            refine lv_iadd hx hb dX12_quota_141 ?_
            refine k_topi (y := nI (6 + 43 * m_48 + 40)) ((nI_add (6 + 43 * m_48) 40).trans (congrArg nI (by omega))) ?_
            refine lv_iload_n hx hb dX12_quota_142 rfl (lv_at hl 4 rfl) ?_
            refine lv_i2l (v := p2.toInt64) hx hb dX12_quota_143 rfl ?_
            have t_96 := Int32.toInt_toInt64 p2
            refine k_last hx hb hK hI hS i_1.1 1 k_81 rfl (vp_in_nI (by omega) (by omega)) (cl_32 i_1) dX12_quota_144 (fun f_97 H locs e_98 hI hS => ?_)
            generalize eq_99 : vp_updL q_79 (Int32.toNatClampNeg (nI (6 + 43 * m_48 + 40))) p2.toInt64 = q_99 at e_98
            have k_101 : f_97 (gr g h0 4) = .inl (gc g 1, 906, .inr (.inl q_99)) := by rw [e_98]; exact va_up_self _ _ _
            have k_102 : f_97 (gr g h0 7) = .inl (gc g 1, 1812, .inr (.inl im)) := by rw [e_98, va_up_ne _ _ (ik_ne i_4 i_1 (by decide))]; exact k_82
            have k_103 : f_97 (gr g h0 8) = .inl (gc g 3, 2, .inl kt) := by rw [e_98, va_up_ne _ _ (ik_ne i_5 i_1 (by decide))]; exact k_83
            have k_104 : f_97 h0 = .inr (12, [.int (0 : Int32), .int z1, .ref (gr g h0 2), .ref (gr g h0 3), .ref (gr g h0 4), .ref (gr g h0 5), .ref (gr g h0 6), .ref (gr g h0 7), .ref (gr g h0 8), .ref (gr g h0 9), .int w10_38, .ref (gr g h0 11), .int z12, .int z13, .int z14, .int z15, .long z16, .int z17, .int z18, .ref (gr g h0 19), .ref (gr g h0 20), .ref (gr g h0 21), .ref (gr g h0 22), .int z23, .long z24, .long z25, .long z26]) := by rw [e_98, va_up_ne _ _ (ik_ne i_h0 i_1 (by decide))]; exact k_84
            have k_105 : f_97 (gr g h0 5) = .inl (gc g 1, 9060, .inr (.inl u1_39)) := by rw [e_98, va_up_ne _ _ (ik_ne i_3 i_1 (by decide))]; exact k_85
            have kp_100 := Kp.put kp_80 i_1 (by decide) e_98
            have u_106 : vp_updL q_79 (6 + 43 * m_48 + 40) p2.toInt64 = q_99 := by rw [← eq_99, show Int32.toNatClampNeg (nI (6 + 43 * m_48 + 40)) = 6 + 43 * m_48 + 40 from (nI_clamp (by omega))]
            have ok_107 : RowOK q_99 := by rw [← u_106]; exact rk_upd ok_87 (by refine ⟨⟨by omega, by omega, by omega, by omega, by omega⟩, fun t9 ht9 => ⟨by omega, by omega, by omega, by omega, by omega, by omega⟩, fun t9 k9 ht9 hk9 => ⟨by omega, by omega, by omega⟩, by omega⟩)
            have d_108 := rk_hd ok_107
            have n_109 : (q_99 0).toInt = (q_79 0).toInt := by rw [← u_106, pk_uLn (by omega)]
            have n_110 : (q_99 1).toInt = (q_79 1).toInt := by rw [← u_106, pk_uLn (by omega)]
            have n_111 : (q_99 3).toInt = (q_79 3).toInt := by rw [← u_106, pk_uLn (by omega)]
            have n_112 : (q_99 4).toInt = (q_79 4).toInt := by rw [← u_106, pk_uLn (by omega)]
            have n_113 : (q_99 5).toInt = (q_79 5).toInt := by rw [← u_106, pk_uLn (by omega)]
            refine lv_aload_n hx hb dX12_quota_145 rfl (lv_at hl 2 rfl) ?_
            refine lv_iload hx hb dX12_quota_146 (lv_at hl 0 rfl) ?_
            refine va_calli (va_runV (As := [.int y_54]) (rest := []) ⟨hx, hb, hml, hown, hts⟩ (c_X12_tell l dC dI g A hG f_97 h0 y_54 (0 : Int32) z1 w10_38 z12 z13 z14 z15 z16 z17 z18 z23 z24 z25 z26 i_h0 k_104 (by first | omega | (simp only [k_c0]; omega)) (by first | omega | (simp only [k_c0]; omega)) (by first | omega | (simp only [k_c0]; omega))) (cwV 1 hts (gi_V (fun w_ h0_ => ⟨List.mem_cons_of_mem _ (List.mem_append_right _ (List.mem_append_right _ (List.mem_append_right _ (List.mem_append_right _ (List.mem_append_right _ (List.mem_append_right _ (List.mem_append_right _ (List.mem_append_left _ h0_)))))))), (tb_c_X12_tell w_ h0_).2⟩) (List.mem_cons_of_mem _ (List.mem_append_left _ (List.mem_of_getElem? (i := 17) rfl))) (List.mem_cons_of_mem _ (List.mem_append_left _ (List.mem_of_getElem? (i := 18) rfl))) (List.mem_cons_of_mem _ (List.mem_append_left _ (List.mem_of_getElem? (i := 19) rfl))) (List.mem_cons_of_mem _ (List.mem_append_left _ (List.mem_of_getElem? (i := 4) rfl)))) rfl rfl rfl (by decide +kernel) ⟨Nat.le_of_ble_eq_true rfl, Nat.le_of_ble_eq_true rfl⟩) ⟨fun a U g mk q => ⟨q.1, q.2.calling rfl rfl⟩, k_recv hK hI i_h0.1 k_104 (ci := 12) rfl, fun U hU hW => ⟨rfl, kIn.of hI hK hE hS hU hW⟩⟩ rfl rfl hl.1 rfl (lv_room (Nat.le_of_ble_eq_true rfl)) dX12_quota_148 ⟨Nat.le_of_ble_eq_true rfl, Nat.le_of_ble_eq_true rfl⟩) hS (fun q _ h => h) (fun q h => h) (fun r_116 u t H1 locs ht hvm w_115 hB hz1 hk1 hS => ?_)
            obtain ⟨f_114, hI, kc_117, k_118⟩ := hB
            rw [ht] at hI
            have k_119 : f_114 (gr g h0 4) = .inl (gc g 1, 906, .inr (.inl q_99)) := Kp.at kc_117 i_1 (by decide) k_101
            have k_120 : f_114 (gr g h0 7) = .inl (gc g 1, 1812, .inr (.inl im)) := Kp.at kc_117 i_4 (by decide) k_102
            have k_121 : f_114 (gr g h0 8) = .inl (gc g 3, 2, .inl kt) := Kp.at kc_117 i_5 (by decide) k_103
            have k_122 : f_114 (gr g h0 5) = .inl (gc g 1, 9060, .inr (.inl u1_39)) := Kp.at kc_117 i_3 (by decide) k_105
            have k_118 : f_114 h0 = .inr (12, [.int (0 : Int32), .int 0, .ref (gr g h0 2), .ref (gr g h0 3), .ref (gr g h0 4), .ref (gr g h0 5), .ref (gr g h0 6), .ref (gr g h0 7), .ref (gr g h0 8), .ref (gr g h0 9), .int w10_38, .ref (gr g h0 11), .int z12, .int z13, .int z14, .int z15, .long z16, .int z17, .int z18, .ref (gr g h0 19), .ref (gr g h0 20), .ref (gr g h0 21), .ref (gr g h0 22), .int z23, .long z24, .long z25, .long z26]) := k_118
            have kp_123 := Kp.call kp_100 kc_117 (by decide)
            generalize H1 = H at hI hS ⊢
            refine W.widen (k := 0) (n := 0) (Nat.le_of_ble_eq_true rfl) (Nat.le_of_ble_eq_true rfl) ?_
            have w_115 : r_116.toInt = y_54.toInt := w_115
            exact W.iret (v := r_116) hx hb hr (fun t ht hW => ⟨⟨r_116, (), rfl, trivial, ⟨f_114, k_ret ht hI, kp_123, (0 : Int32), 0, w10_38, z12, z13, z14, z15, z16, z17, z18, z23, z24, z25, z26, q_99, u1_39, im, kt, k_118, (by first | omega | decide), (by first | omega | decide), (by first | omega | decide), k_119, ok_107, k_122, k_120, k_121, z_43⟩⟩, hS.F ht⟩) hS.2.2 dX12_quota_151
          refine lv_if_le (tgt := 131) hx hb dX12_quota_123 (by decide) (fun c_124 => ?_) (fun c_124 => ?_)
          · have c_124 := kc_le rfl (by decide : Int32.toInt 0 = 0) c_124
            refine lv_lconst (v := 0) hx hb dX12_quota_131 (by decide) ?_
            exact J_132 0 _ _ _ hI hS (by first | omega | decide | (simp only [show Int64.toInt 0 = 0 from by decide]; omega)) (lv_sub hl [0, 1, 2, 3, 4, 5] rfl)
          · have c_124 := kn_le rfl (by decide : Int32.toInt 0 = 0) c_124
            refine lv_iload_n hx hb dX12_quota_126 rfl (lv_at hl 5 rfl) ?_
            refine lv_i2l (v := p3.toInt64) hx hb dX12_quota_127 rfl ?_
            have t_125 := Int32.toInt_toInt64 p3
            refine lv_goto (tgt := 132) hx hb dX12_quota_128 (by decide) ?_
            exact J_132 p3.toInt64 _ _ _ hI hS (by first | omega | decide) (lv_sub hl [0, 1, 2, 3, 4, 5] rfl)
        refine lv_if_le (tgt := 98) hx hb dX12_quota_81 (by decide) (fun c_126 => ?_) (fun c_126 => ?_)
        · have c_126 := lc_le rfl (by decide : Int64.toInt 0 = 0) ((lg_cmp_le _ _).mp c_126)
          refine lv_iconst (v := (-1)) hx hb dX12_quota_98 (by decide) ?_
          exact J_99 (-1) _ _ _ hI hS  (lv_sub hl [0, 1, 2, 3, 4] rfl)
        · have c_126 := ln_le rfl (by decide : Int64.toInt 0 = 0) (fun h9 => c_126 ((lg_cmp_le _ _).mpr h9))
          refine lv_aload_n hx hb dX12_quota_84 rfl (lv_at hl 1 rfl) ?_
          refine k_get (ci := 12) (v := .ref (gr g h0 4)) (C := RX12) (T := TX12) (N := 27) hx hb hts (fun _ h0_ => List.mem_cons_of_mem _ (List.mem_append_right _ (List.mem_append_left _ h0_))) hown hK hI i_h0.1 k_40 rfl 4 (by decide) (hts (.fieldLink RX12 16 "DeadlineShareModel" "row" "[J") (List.mem_cons_of_mem _ (List.mem_append_left _ (List.mem_of_getElem? (i := 16) rfl)))) (fun _ h9 => h9) rfl dX12_quota_85 ?_
          refine lv_iload hx hb dX12_quota_88 (lv_at hl 0 rfl) ?_
          refine lv_bipush (v := 40) hx hb dX12_quota_90 (by decide) ?_
          refine lv_iadd hx hb dX12_quota_92 ?_
          refine k_topi (y := nI (6 + 43 * m_48 + 40)) ((nI_add (6 + 43 * m_48) 40).trans (congrArg nI (by omega))) ?_
          refine k_lald hx hb hK hI i_1.1 1 k_44 rfl (vp_in_nI (by omega) (by omega)) dX12_quota_93 ?_
          refine k_topl (y := q (6 + 43 * m_48 + 40)) (congrArg q (nI_clamp (by omega))) ?_
          refine lv_l2i (v := (q (6 + 43 * m_48 + 40)).toInt32) hx hb dX12_quota_94 rfl ?_
          refine lv_topi (fun v_129 ev_129 => ?_)
          have tv_129 := k_l2i (q (6 + 43 * m_48 + 40))
          rw [← ev_129] at tv_129
          refine lv_goto (tgt := 99) hx hb dX12_quota_95 (by decide) ?_
          exact J_99 v_129 _ _ _ hI hS  (lv_sub hl [0, 1, 2, 3, 4] rfl)
      · have c_34 := kc_eq rfl (by decide : Int32.toInt 0 = 0) c_34
        refine lv_aload_n hx hb dX12_quota_50 rfl (lv_at hl 0 rfl) ?_
        refine lv_bipush (v := (-2)) hx hb dX12_quota_51 (by decide) ?_
        refine va_calli (va_runV (As := [.int (-2)]) (rest := []) ⟨hx, hb, hml, hown, hts⟩ (c_X12_refuse l dC dI g A hG f_6 h0 (-2) 0 z1 z10 z12 z13 z14 z15 z16 z17 z18 z23 z24 z25 z26 i_h0 k_9 (by first | omega | (simp only [k_c0]; omega)) (by first | omega | (simp only [k_c0]; omega)) (by first | omega | (simp only [k_c0]; omega)) (by decide)) (cwV 1 hts (gi_V (fun w_ h0_ => ⟨List.mem_cons_of_mem _ (List.mem_append_right _ (List.mem_append_right _ (List.mem_append_right _ (List.mem_append_left _ h0_)))), (tb_c_X12_refuse w_ h0_).2⟩) (List.mem_cons_of_mem _ (List.mem_append_left _ (List.mem_of_getElem? (i := 5) rfl))) (List.mem_cons_of_mem _ (List.mem_append_left _ (List.mem_of_getElem? (i := 6) rfl))) (List.mem_cons_of_mem _ (List.mem_append_left _ (List.mem_of_getElem? (i := 7) rfl))) (List.mem_cons_of_mem _ (List.mem_append_left _ (List.mem_of_getElem? (i := 4) rfl)))) rfl rfl rfl (by decide +kernel) ⟨Nat.le_of_ble_eq_true rfl, Nat.le_of_ble_eq_true rfl⟩) ⟨fun a U g mk q => ⟨q.1, q.2.calling rfl rfl⟩, k_recv hK hI i_h0.1 k_9 (ci := 12) rfl, fun U hU hW => ⟨rfl, kIn.of hI hK hE hS hU hW⟩⟩ rfl rfl hl.1 rfl (lv_room (Nat.le_of_ble_eq_true rfl)) dX12_quota_53 ⟨Nat.le_of_ble_eq_true rfl, Nat.le_of_ble_eq_true rfl⟩) hS (fun q _ h => h) (fun q h => h) (fun r_132 u t H1 locs ht hvm w_131 hB hz1 hk1 hS => ?_)
        obtain ⟨f_130, hI, kc_133, k_134⟩ := hB
        rw [ht] at hI
        have k_135 : f_130 (gr g h0 4) = .inl (gc g 1, 906, .inr (.inl q)) := Kp.at kc_133 i_1 (by decide) k_10
        have k_136 : f_130 (gr g h0 5) = .inl (gc g 1, 9060, .inr (.inl u)) := Kp.at kc_133 i_3 (by decide) k_11
        have k_137 : f_130 (gr g h0 7) = .inl (gc g 1, 1812, .inr (.inl im)) := Kp.at kc_133 i_4 (by decide) k_12
        have k_138 : f_130 (gr g h0 8) = .inl (gc g 3, 2, .inl kt) := Kp.at kc_133 i_5 (by decide) k_13
        have k_134 : f_130 h0 = .inr (12, [.int (0 : Int32), .int (-2 : Int32), .ref (gr g h0 2), .ref (gr g h0 3), .ref (gr g h0 4), .ref (gr g h0 5), .ref (gr g h0 6), .ref (gr g h0 7), .ref (gr g h0 8), .ref (gr g h0 9), .int z10, .ref (gr g h0 11), .int z12, .int z13, .int z14, .int z15, .long z16, .int z17, .int z18, .ref (gr g h0 19), .ref (gr g h0 20), .ref (gr g h0 21), .ref (gr g h0 22), .int z23, .long z24, .long z25, .long z26]) := k_134
        have kp_139 := Kp.call kp_8 kc_133 (by decide)
        generalize H1 = H at hI hS ⊢
        refine W.widen (k := 0) (n := 0) (Nat.le_of_ble_eq_true rfl) (Nat.le_of_ble_eq_true rfl) ?_
        have w_131 : r_132.toInt = (-2 : Int32).toInt := w_131
        have g_140 : Int32.toInt ((-2)) = (-2) := by decide
        exact W.iret (v := r_132) hx hb hr (fun t ht hW => ⟨⟨r_132, (), rfl, trivial, ⟨f_130, k_ret ht hI, kp_139, (0 : Int32), (-2 : Int32), z10, z12, z13, z14, z15, z16, z17, z18, z23, z24, z25, z26, q, u, im, kt, k_134, (by first | omega | decide), (by first | omega | decide), (by first | omega | decide), k_135, hc1_ok, k_136, k_137, k_138, hU⟩⟩, hS.F ht⟩) hS.2.2 dX12_quota_56
    refine lv_if_le (tgt := 42) hx hb dX12_quota_18 (by decide) (fun c_141 => ?_) (fun c_141 => ?_)
    · have c_141 := kc_le rfl (by decide : Int32.toInt 0 = 0) c_141
      exact J_42  _ _ _ hI hS (by first | omega | decide) (lv_sub hl [0, 1, 2, 3] rfl)
    · have c_141 := kn_le rfl (by decide : Int32.toInt 0 = 0) c_141
      refine lv_iload_n hx hb dX12_quota_21 rfl (lv_at hl 3 rfl) ?_
      refine lv_i2l (v := p3.toInt64) hx hb dX12_quota_22 rfl ?_
      have t_142 := Int32.toInt_toInt64 p3
      refine lv_iload_n hx hb dX12_quota_23 rfl (lv_at hl 2 rfl) ?_
      refine lv_i2l (v := p2.toInt64) hx hb dX12_quota_24 rfl ?_
      have t_143 := Int32.toInt_toInt64 p2
      refine lv_lconst (v := 1) hx hb dX12_quota_25 (by decide) ?_
      refine lv_ladd hx hb dX12_quota_26 ?_
      refine lv_topl (fun v_144 ev_144 => ?_)
      have tv_144 := l_ad p2.toInt64 1
      rw [← ev_144, show Int64.toInt 1 = 1 from by decide] at tv_144
      refine lv_ldc2 hx hb hown (hts (.constantLong RX12 172 (60)) (List.mem_cons_of_mem _ (List.mem_append_left _ (List.mem_of_getElem? (i := 20) rfl)))) dX12_quota_27 ?_
      refine va_calli (va_runS (As := [.long p3.toInt64, .long v_144, .long 60]) (rest := []) ⟨hx, hb, hml, hown, hts⟩ (c_X12_in l dC dI g A hG f_6 p3.toInt64 v_144 60) (va_cwS 3 hts (gi_S (fun w_ h0_ => ⟨List.mem_cons_of_mem _ (List.mem_append_right _ (List.mem_append_right _ (List.mem_append_left _ h0_))), (tb_c_X12_in w_ h0_).2⟩) (List.mem_cons_of_mem _ (List.mem_append_left _ (List.mem_of_getElem? (i := 2) rfl))) (List.mem_cons_of_mem _ (List.mem_append_left _ (List.mem_of_getElem? (i := 3) rfl))) (List.mem_cons_of_mem _ (List.mem_append_left _ (List.mem_of_getElem? (i := 4) rfl)))) rfl rfl rfl (by decide +kernel) ⟨Nat.le_of_ble_eq_true rfl, Nat.le_of_ble_eq_true rfl⟩) ⟨fun a U g mk q => ⟨q.1, q.2.calling rfl rfl⟩, fun U hU hW => ⟨rfl, kIn.of hI hK hE hS hU hW⟩⟩ rfl rfl hl.1 rfl (lv_room (Nat.le_of_ble_eq_true rfl)) dX12_quota_30 ⟨Nat.le_of_ble_eq_true rfl, Nat.le_of_ble_eq_true rfl⟩) hS (fun q _ h => h) (fun q h => h) (fun r_146 u t H1 locs ht hvm w_145 hB hz1 hk1 hS => ?_)
      have hI : Iv dC dI g A f_6 t.heap := hB
      rw [ht] at hI
      generalize H1 = H at hI hS ⊢
      refine W.widen (k := 0) (n := 0) (Nat.le_of_ble_eq_true rfl) (Nat.le_of_ble_eq_true rfl) ?_
      have w_145 : (r_146.toInt = 0 ∧ (p3.toInt64.toInt < v_144.toInt ∨ (60 : Int64).toInt < p3.toInt64.toInt)) ∨ (r_146.toInt = 1 ∧ v_144.toInt ≤ p3.toInt64.toInt ∧ p3.toInt64.toInt ≤ (60 : Int64).toInt) := w_145
      have g_147 : Int64.toInt (60) = 60 := by decide
      refine lv_if_ne (tgt := 42) hx hb dX12_quota_33 (by decide) (fun c_148 => ?_) (fun c_148 => ?_)
      · have c_148 := kn_eq rfl (by decide : Int32.toInt 0 = 0) c_148
        exact J_42  _ _ _ hI hS (by first | omega | decide) (lv_sub hl [0, 1, 2, 3] rfl)
      · have c_148 := kc_eq rfl (by decide : Int32.toInt 0 = 0) c_148
        exact J_36  _ _ _ hI hS  (lv_sub hl [0, 1, 2, 3] rfl)
theorem tw_1008 : q_g (.fieldLink RX12 26 "DeadlineShareModel" "images" "[J") := ⟨(List.mem_append_right _ (List.mem_of_getElem? (i := 1104) (by decide +kernel))), good_of_word (by decide +kernel)⟩
theorem tw_1009 : q_g (.fieldLink RX12 29 "DeadlineShareModel" "isKept" "[Z") := ⟨(List.mem_append_right _ (List.mem_of_getElem? (i := 1105) (by decide +kernel))), good_of_word (by decide +kernel)⟩
theorem tw_1010 : q_g (.code yX12_image cX12_image 3 (some .int)) := ⟨(List.mem_append_right _ (List.mem_of_getElem? (i := 1329) (by decide +kernel))), good_of_word (by decide +kernel)⟩
def ow_c_X12_image : List Cond := [.fieldLink RX12 67 "DeadlineShareModel" "thrown" "I", .methodLink RX12 83 yX12_in, .static yX12_in, .initialized RX12, .fieldLink RX12 29 "DeadlineShareModel" "isKept" "[Z", .fieldLink RX12 16 "DeadlineShareModel" "row" "[J", .methodLink RX12 80 yX12_tell, .instanceMethod yX12_tell, .selects RX12 yX12_tell yX12_tell, .fieldLink RX12 26 "DeadlineShareModel" "images" "[J", .methodLink RX12 76 yX12_refuse, .instanceMethod yX12_refuse, .selects RX12 yX12_refuse yX12_refuse]
def wq_c_X12_image : List Cond := .code yX12_image cX12_image 3 (some .int) :: (ow_c_X12_image ++ (u_ws RX12 TX12 27 ++ (wq_c_X12_in ++ (wq_c_X12_tell ++ (wq_c_X12_refuse ++ ([] : List Cond))))))
theorem tb_c_X12_image : ∀ w ∈ wq_c_X12_image, q_g w := by
  unfold wq_c_X12_image ow_c_X12_image
  exact q_cons tw_1010 (q_app (q_cons tw_927 (q_cons tw_730 (q_cons tw_729 (q_cons tw_728 (q_cons tw_1009 (q_cons tw_731 (q_cons tw_960 (q_cons tw_959 (q_cons tw_958 (q_cons tw_1008 (q_cons tw_966 (q_cons tw_965 (q_cons tw_964 q_nil))))))))))))) (q_app tu_X12 (q_app tb_c_X12_in (q_app tb_c_X12_tell (q_app tb_c_X12_refuse q_nil)))))
set_option maxHeartbeats 4000000 in
set_option maxRecDepth 100000 in
theorem c_X12_image (l : Launch) (dC : Nat → ClassId) (dI : Nat → Nat → Nat) (g : kG) (A : Nat → Prop) (hG : kWf g) (f : Nat → va_E) (h0 : Nat) (p1 : Int32) (z0 : Int32) (z1 : Int32) (z10 : Int32) (z12 : Int32) (z13 : Int32) (z14 : Int32) (z15 : Int32) (z16 : Int64) (z17 : Int32) (z18 : Int32) (z23 : Int32) (z24 : Int64) (z25 : Int64) (z26 : Int64) (q : Nat → Int64) (u : Nat → Int64) (im : Nat → Int64) (kt : Nat → Int32) (i_h0 : ik g 12 h0) (hc0 : f h0 = .inr (12, [.int z0, .int z1, .ref (gr g h0 2), .ref (gr g h0 3), .ref (gr g h0 4), .ref (gr g h0 5), .ref (gr g h0 6), .ref (gr g h0 7), .ref (gr g h0 8), .ref (gr g h0 9), .int z10, .ref (gr g h0 11), .int z12, .int z13, .int z14, .int z15, .long z16, .int z17, .int z18, .ref (gr g h0 19), .ref (gr g h0 20), .ref (gr g h0 21), .ref (gr g h0 22), .int z23, .long z24, .long z25, .long z26])) (hc0_10 : 0 ≤ z10.toInt ∧ z10.toInt ≤ 10) (hc0_12 : 0 ≤ z12.toInt ∧ z12.toInt ≤ 200) (hc0_23 : 0 ≤ z23.toInt ∧ z23.toInt ≤ 8) (hc1 : f (gr g h0 4) = .inl (gc g 1, 906, .inr (.inl q))) (hc1_ok : RowOK q) (hc2 : f (gr g h0 5) = .inl (gc g 1, 9060, .inr (.inl u))) (hc3 : f (gr g h0 7) = .inl (gc g 1, 1812, .inr (.inl im))) (hc4 : f (gr g h0 8) = .inl (gc g 3, 2, .inl kt)) (hU : UIq z10 u im kt) : Met l yX12_image wq_c_X12_image ({ frames := 1, cells := 0, slots := 0, locals := 25 } : Room) (va_Pc [.ref h0, .int p1] (fun U => kIn dC dI g A f U)) (va_Qi (fun (r : Int32) (_ : Unit) => True) (fun (_ : Unit) t => ∃ f1 : Nat → va_E, Iv dC dI g A f1 t.heap ∧ Kp g [12, 30, 35, 36] f f1 ∧ ∃ (w0 : Int32) (w1 : Int32) (w10 : Int32) (w12 : Int32) (w13 : Int32) (w14 : Int32) (w15 : Int32) (w16 : Int64) (w17 : Int32) (w18 : Int32) (w23 : Int32) (w24 : Int64) (w25 : Int64) (w26 : Int64) (q1 : Nat → Int64) (u1 : Nat → Int64) (im1 : Nat → Int64) (ik1 : Nat → Int32), (f1 h0 = .inr (12, [.int w0, .int w1, .ref (gr g h0 2), .ref (gr g h0 3), .ref (gr g h0 4), .ref (gr g h0 5), .ref (gr g h0 6), .ref (gr g h0 7), .ref (gr g h0 8), .ref (gr g h0 9), .int w10, .ref (gr g h0 11), .int w12, .int w13, .int w14, .int w15, .long w16, .int w17, .int w18, .ref (gr g h0 19), .ref (gr g h0 20), .ref (gr g h0 21), .ref (gr g h0 22), .int w23, .long w24, .long w25, .long w26])) ∧ (0 ≤ w10.toInt ∧ w10.toInt ≤ 10) ∧ (0 ≤ w12.toInt ∧ w12.toInt ≤ 200) ∧ (0 ≤ w23.toInt ∧ w23.toInt ≤ 8) ∧ (f1 (gr g h0 4) = .inl (gc g 1, 906, .inr (.inl q1))) ∧ (RowOK q1) ∧ (f1 (gr g h0 5) = .inl (gc g 1, 9060, .inr (.inl u1))) ∧ (f1 (gr g h0 7) = .inl (gc g 1, 1812, .inr (.inl im1))) ∧ (f1 (gr g h0 8) = .inl (gc g 3, 2, .inl ik1)) ∧ (UIq w10 u1 im1 ik1)) A) 0 0 A := by
  refine Met.ofW (cc := cX12_image) (maxL := 3) (ret := (some .int)) (by decide) rfl ?_
  intro p e s m args below meth c s₁ B hml hv
  obtain ⟨rfl, hI, hK, hE⟩ := hv
  have hx := B.exec
  have hb := B.bytes
  have hr := B.returns
  have hts := atoms_spec (ws := wq_c_X12_image) B.pre
  have hown : s.vm.findClass RX12 = some m.cls := findClass_of_methodNamed B.named
  have hlocks := B.notSynchronized
  have hS : va_S A s.heap s.heap [] := va_S.rf
  have hk0 : Kp g [12, 30, 35, 36] f f := Kp.rf
  have hl := lv_entry ([.ref h0, .int p1]) (n := 3) (Nat.le_of_ble_eq_true rfl)
  rw [lg_entry_eq]
  generalize (lg_sl ([.ref h0, .int p1]) ++ List.replicate (3 - (lg_sl ([.ref h0, .int p1])).length) Slot.unset).toArray = ls at hl ⊢
  have hl : lv_has ls 3 [(0, .ref h0), (1, .int p1)] := hl
  have i_1 := kw_12_4 hG i_h0
  have d_2 := rk_hd hc1_ok
  have i_3 := kw_12_5 hG i_h0
  have i_4 := kw_12_7 hG i_h0
  have i_5 := kw_12_8 hG i_h0
  refine lv_aload_n hx hb dX12_image_0 rfl (lv_at hl 0 rfl) ?_
  refine lv_iconst (v := 0) hx hb dX12_image_1 (by decide) ?_
  refine k_put (ci := 12) (v := .int 0) (ty := .int) (C := RX12) (T := TX12) (N := 27) hx hb hts (fun _ h0_ => List.mem_cons_of_mem _ (List.mem_append_right _ (List.mem_append_left _ h0_))) tyX12 tyX12_ok nmX12 hown hK hI hS i_h0.1 hc0 rfl 0 (by decide) (hts (.fieldLink RX12 67 "DeadlineShareModel" "thrown" "I") (List.mem_cons_of_mem _ (List.mem_append_left _ (List.mem_of_getElem? (i := 0) rfl)))) (fun _ h9 => h9) rfl (by decide +kernel) rfl rfl (Nat.le_of_ble_eq_true rfl) rfl (cl_12 i_h0 (by omega) (by omega) (by omega)) dX12_image_2 (fun f_6 H locs e_7 hI hS => ?_)
  have k_9 : f_6 h0 = .inr (12, [.int 0, .int z1, .ref (gr g h0 2), .ref (gr g h0 3), .ref (gr g h0 4), .ref (gr g h0 5), .ref (gr g h0 6), .ref (gr g h0 7), .ref (gr g h0 8), .ref (gr g h0 9), .int z10, .ref (gr g h0 11), .int z12, .int z13, .int z14, .int z15, .long z16, .int z17, .int z18, .ref (gr g h0 19), .ref (gr g h0 20), .ref (gr g h0 21), .ref (gr g h0 22), .int z23, .long z24, .long z25, .long z26]) := by rw [e_7]; exact va_up_self _ _ _
  have k_10 : f_6 (gr g h0 4) = .inl (gc g 1, 906, .inr (.inl q)) := by rw [e_7, va_up_ne _ _ (ik_ne i_1 i_h0 (by decide))]; exact hc1
  have k_11 : f_6 (gr g h0 5) = .inl (gc g 1, 9060, .inr (.inl u)) := by rw [e_7, va_up_ne _ _ (ik_ne i_3 i_h0 (by decide))]; exact hc2
  have k_12 : f_6 (gr g h0 7) = .inl (gc g 1, 1812, .inr (.inl im)) := by rw [e_7, va_up_ne _ _ (ik_ne i_4 i_h0 (by decide))]; exact hc3
  have k_13 : f_6 (gr g h0 8) = .inl (gc g 3, 2, .inl kt) := by rw [e_7, va_up_ne _ _ (ik_ne i_5 i_h0 (by decide))]; exact hc4
  have kp_8 := Kp.put hk0 i_h0 (by decide) e_7
  refine lv_iload_n hx hb dX12_image_5 rfl (lv_at hl 1 rfl) ?_
  refine lv_i2l (v := p1.toInt64) hx hb dX12_image_6 rfl ?_
  have t_14 := Int32.toInt_toInt64 p1
  refine lv_lconst (v := 0) hx hb dX12_image_7 (by decide) ?_
  refine lv_lconst (v := 1) hx hb dX12_image_8 (by decide) ?_
  refine va_calli (va_runS (As := [.long p1.toInt64, .long 0, .long 1]) (rest := []) ⟨hx, hb, hml, hown, hts⟩ (c_X12_in l dC dI g A hG f_6 p1.toInt64 0 1) (va_cwS 3 hts (gi_S (fun w_ h0_ => ⟨List.mem_cons_of_mem _ (List.mem_append_right _ (List.mem_append_right _ (List.mem_append_left _ h0_))), (tb_c_X12_in w_ h0_).2⟩) (List.mem_cons_of_mem _ (List.mem_append_left _ (List.mem_of_getElem? (i := 1) rfl))) (List.mem_cons_of_mem _ (List.mem_append_left _ (List.mem_of_getElem? (i := 2) rfl))) (List.mem_cons_of_mem _ (List.mem_append_left _ (List.mem_of_getElem? (i := 3) rfl)))) rfl rfl rfl (by decide +kernel) ⟨Nat.le_of_ble_eq_true rfl, Nat.le_of_ble_eq_true rfl⟩) ⟨fun a U g mk q => ⟨q.1, q.2.calling rfl rfl⟩, fun U hU hW => ⟨rfl, kIn.of hI hK hE hS hU hW⟩⟩ rfl rfl hl.1 rfl (lv_room (Nat.le_of_ble_eq_true rfl)) dX12_image_9 ⟨Nat.le_of_ble_eq_true rfl, Nat.le_of_ble_eq_true rfl⟩) hS (fun q _ h => h) (fun q h => h) (fun r_16 u t H1 locs ht hvm w_15 hB hz1 hk1 hS => ?_)
  have hI : Iv dC dI g A f_6 t.heap := hB
  rw [ht] at hI
  generalize H1 = H at hI hS ⊢
  refine W.widen (k := 0) (n := 0) (Nat.le_of_ble_eq_true rfl) (Nat.le_of_ble_eq_true rfl) ?_
  have w_15 : (r_16.toInt = 0 ∧ (p1.toInt64.toInt < (0 : Int64).toInt ∨ (1 : Int64).toInt < p1.toInt64.toInt)) ∨ (r_16.toInt = 1 ∧ (0 : Int64).toInt ≤ p1.toInt64.toInt ∧ p1.toInt64.toInt ≤ (1 : Int64).toInt) := w_15
  have g_17 : Int64.toInt (0) = 0 := by decide
  have g_18 : Int64.toInt (1) = 1 := by decide
  refine lv_if_ne (tgt := 21) hx hb dX12_image_12 (by decide) (fun c_19 => ?_) (fun c_19 => ?_)
  · have c_19 := kn_eq rfl (by decide : Int32.toInt 0 = 0) c_19
    obtain ⟨m_20, em_20, tm_20⟩ := k_nat (x := p1) (by omega)
    refine lv_iconst (v := 0) hx hb dX12_image_21 (by decide) ?_
    refine lv_istore_n (lv' := [(2, .int 0), (0, .ref h0), (1, .int p1)]) hx hb dX12_image_22 rfl hl (by decide) rfl (fun ls hl => ?_)
    have K_23 : ∀ (nn : Nat) (y_21 : Nat) (q_23 : Nat → Int64) (f_22 : Nat → va_E) (H : Heap) (locs : List Loc) (ls : Array Slot), 906 - y_21 < nn → Iv dC dI g A f_22 H → va_S A s.heap H locs → f_22 (gr g h0 7) = .inl (gc g 1, 1812, .inr (.inl q_23)) → f_22 h0 = .inr (12, [.int 0, .int z1, .ref (gr g h0 2), .ref (gr g h0 3), .ref (gr g h0 4), .ref (gr g h0 5), .ref (gr g h0 6), .ref (gr g h0 7), .ref (gr g h0 8), .ref (gr g h0 9), .int z10, .ref (gr g h0 11), .int z12, .int z13, .int z14, .int z15, .long z16, .int z17, .int z18, .ref (gr g h0 19), .ref (gr g h0 20), .ref (gr g h0 21), .ref (gr g h0 22), .int z23, .long z24, .long z25, .long z26]) → f_22 (gr g h0 4) = .inl (gc g 1, 906, .inr (.inl q)) → f_22 (gr g h0 5) = .inl (gc g 1, 9060, .inr (.inl u)) → f_22 (gr g h0 8) = .inl (gc g 3, 2, .inl kt) → Kp g [12, 30, 35, 36] f f_22 → (y_21 ≤ 906) → (∀ j : Nat, j < y_21 → q_23 (906 * m_20 + j) = q j) → (∀ j : Nat, (j < 906 * m_20 ∨ 906 * m_20 + 906 ≤ j) → q_23 j = im j) → lv_has ls 3 [(2, .int (nI y_21)), (0, .ref h0), (1, .int p1)] → W p l e (headSpec wq_c_X12_image ({ frames := 1, cells := 0, slots := 0, locals := 25 } : Room)).room s m ([.ref h0, .int p1].toArray) below meth c H locs 0 0 (MQ below (va_Qi (fun (r : Int32) (_ : Unit) => True) (fun (_ : Unit) t => ∃ f1 : Nat → va_E, Iv dC dI g A f1 t.heap ∧ Kp g [12, 30, 35, 36] f f1 ∧ ∃ (w0 : Int32) (w1 : Int32) (w10 : Int32) (w12 : Int32) (w13 : Int32) (w14 : Int32) (w15 : Int32) (w16 : Int64) (w17 : Int32) (w18 : Int32) (w23 : Int32) (w24 : Int64) (w25 : Int64) (w26 : Int64) (q1 : Nat → Int64) (u1 : Nat → Int64) (im1 : Nat → Int64) (ik1 : Nat → Int32), (f1 h0 = .inr (12, [.int w0, .int w1, .ref (gr g h0 2), .ref (gr g h0 3), .ref (gr g h0 4), .ref (gr g h0 5), .ref (gr g h0 6), .ref (gr g h0 7), .ref (gr g h0 8), .ref (gr g h0 9), .int w10, .ref (gr g h0 11), .int w12, .int w13, .int w14, .int w15, .long w16, .int w17, .int w18, .ref (gr g h0 19), .ref (gr g h0 20), .ref (gr g h0 21), .ref (gr g h0 22), .int w23, .long w24, .long w25, .long w26])) ∧ (0 ≤ w10.toInt ∧ w10.toInt ≤ 10) ∧ (0 ≤ w12.toInt ∧ w12.toInt ≤ 200) ∧ (0 ≤ w23.toInt ∧ w23.toInt ≤ 8) ∧ (f1 (gr g h0 4) = .inl (gc g 1, 906, .inr (.inl q1))) ∧ (RowOK q1) ∧ (f1 (gr g h0 5) = .inl (gc g 1, 9060, .inr (.inl u1))) ∧ (f1 (gr g h0 7) = .inl (gc g 1, 1812, .inr (.inl im1))) ∧ (f1 (gr g h0 8) = .inl (gc g 3, 2, .inl ik1)) ∧ (UIq w10 u1 im1 ik1)) A) ([.ref h0, .int p1].toArray) s 0 0 A) (F0 m 23 ls []) := by
      intro nn
      induction nn with
      | zero => intro y_21 q_23 f_22 H locs ls m_33; exact absurd m_33 (Nat.not_lt_zero _)
      | succ nn ih =>
        intro y_21 q_23 f_22 H locs ls m_33 hI hS k_24 k_25 k_26 k_27 k_28 kp_29 t_30 t_31 t_32 hl
        refine lv_iload_n hx hb dX12_image_23 rfl (lv_at hl 0 rfl) ?_
        refine lv_sipush (v := 906) hx hb dX12_image_24 (by decide) ?_
        refine lv_icmp_ge (tgt := 54) hx hb dX12_image_27 (by decide) (fun c_34 => ?_) (fun c_34 => ?_)
        · have c_34 := kc_le (by decide : Int32.toInt 906 = 906) (nI_toInt (n := y_21) (by omega)) c_34
          refine lv_aload_n hx hb dX12_image_54 rfl (lv_at hl 1 rfl) ?_
          refine k_get (ci := 12) (v := .ref (gr g h0 8)) (C := RX12) (T := TX12) (N := 27) hx hb hts (fun _ h0_ => List.mem_cons_of_mem _ (List.mem_append_right _ (List.mem_append_left _ h0_))) hown hK hI i_h0.1 k_25 rfl 8 (by decide) (hts (.fieldLink RX12 29 "DeadlineShareModel" "isKept" "[Z") (List.mem_cons_of_mem _ (List.mem_append_left _ (List.mem_of_getElem? (i := 4) rfl)))) (fun _ h9 => h9) rfl dX12_image_55 ?_
          refine lv_iload_n hx hb dX12_image_58 rfl (lv_at hl 2 rfl) ?_
          refine k_topi (y := nI m_20) em_20 ?_
          refine lv_iconst (v := 1) hx hb dX12_image_59 (by decide) ?_
          refine k_zast hx hb hK hI hS i_5.1 3 k_28 rfl (vp_in_nI (by omega) (by omega)) (cl_36 i_5) dX12_image_60 (fun f_37 H locs e_38 hI hS => ?_)
          generalize eq_39 : upd kt (Int32.toNatClampNeg (nI m_20)) (vp_nar .boolean 1) = q_39 at e_38
          have k_41 : f_37 (gr g h0 7) = .inl (gc g 1, 1812, .inr (.inl q_23)) := by rw [e_38, va_up_ne _ _ (ik_ne i_4 i_5 (by decide))]; exact k_24
          have k_42 : f_37 h0 = .inr (12, [.int 0, .int z1, .ref (gr g h0 2), .ref (gr g h0 3), .ref (gr g h0 4), .ref (gr g h0 5), .ref (gr g h0 6), .ref (gr g h0 7), .ref (gr g h0 8), .ref (gr g h0 9), .int z10, .ref (gr g h0 11), .int z12, .int z13, .int z14, .int z15, .long z16, .int z17, .int z18, .ref (gr g h0 19), .ref (gr g h0 20), .ref (gr g h0 21), .ref (gr g h0 22), .int z23, .long z24, .long z25, .long z26]) := by rw [e_38, va_up_ne _ _ (ik_ne i_h0 i_5 (by decide))]; exact k_25
          have k_43 : f_37 (gr g h0 4) = .inl (gc g 1, 906, .inr (.inl q)) := by rw [e_38, va_up_ne _ _ (ik_ne i_1 i_5 (by decide))]; exact k_26
          have k_44 : f_37 (gr g h0 5) = .inl (gc g 1, 9060, .inr (.inl u)) := by rw [e_38, va_up_ne _ _ (ik_ne i_3 i_5 (by decide))]; exact k_27
          have k_45 : f_37 (gr g h0 8) = .inl (gc g 3, 2, .inl q_39) := by rw [e_38]; exact va_up_self _ _ _
          have kp_40 := Kp.put kp_29 i_5 (by decide) e_38
          refine lv_aload_n hx hb dX12_image_61 rfl (lv_at hl 1 rfl) ?_
          refine lv_aload_n hx hb dX12_image_62 rfl (lv_at hl 1 rfl) ?_
          refine k_get (ci := 12) (v := .ref (gr g h0 4)) (C := RX12) (T := TX12) (N := 27) hx hb hts (fun _ h0_ => List.mem_cons_of_mem _ (List.mem_append_right _ (List.mem_append_left _ h0_))) hown hK hI i_h0.1 k_42 rfl 4 (by decide) (hts (.fieldLink RX12 16 "DeadlineShareModel" "row" "[J") (List.mem_cons_of_mem _ (List.mem_append_left _ (List.mem_of_getElem? (i := 5) rfl)))) (fun _ h9 => h9) rfl dX12_image_63 ?_
          refine lv_iconst (v := 1) hx hb dX12_image_66 (by decide) ?_
          refine k_lald hx hb hK hI i_1.1 1 k_43 rfl (by unfold vp_in; decide) dX12_image_67 ?_
          refine k_topl (y := q 1) (congrArg q (show Int32.toNatClampNeg 1 = 1 by decide)) ?_
          refine lv_l2i (v := (q 1).toInt32) hx hb dX12_image_68 rfl ?_
          refine lv_topi (fun v_48 ev_48 => ?_)
          have tv_48 := k_l2i (q 1)
          rw [← ev_48] at tv_48
          refine va_calli (va_runV (As := [.int v_48]) (rest := []) ⟨hx, hb, hml, hown, hts⟩ (c_X12_tell l dC dI g A hG f_37 h0 v_48 0 z1 z10 z12 z13 z14 z15 z16 z17 z18 z23 z24 z25 z26 i_h0 k_42 (by first | omega | (simp only [k_c0]; omega)) (by first | omega | (simp only [k_c0]; omega)) (by first | omega | (simp only [k_c0]; omega))) (cwV 1 hts (gi_V (fun w_ h0_ => ⟨List.mem_cons_of_mem _ (List.mem_append_right _ (List.mem_append_right _ (List.mem_append_right _ (List.mem_append_left _ h0_)))), (tb_c_X12_tell w_ h0_).2⟩) (List.mem_cons_of_mem _ (List.mem_append_left _ (List.mem_of_getElem? (i := 6) rfl))) (List.mem_cons_of_mem _ (List.mem_append_left _ (List.mem_of_getElem? (i := 7) rfl))) (List.mem_cons_of_mem _ (List.mem_append_left _ (List.mem_of_getElem? (i := 8) rfl))) (List.mem_cons_of_mem _ (List.mem_append_left _ (List.mem_of_getElem? (i := 3) rfl)))) rfl rfl rfl (by decide +kernel) ⟨Nat.le_of_ble_eq_true rfl, Nat.le_of_ble_eq_true rfl⟩) ⟨fun a U g mk q => ⟨q.1, q.2.calling rfl rfl⟩, k_recv hK hI i_h0.1 k_42 (ci := 12) rfl, fun U hU hW => ⟨rfl, kIn.of hI hK hE hS hU hW⟩⟩ rfl rfl hl.1 rfl (lv_room (Nat.le_of_ble_eq_true rfl)) dX12_image_69 ⟨Nat.le_of_ble_eq_true rfl, Nat.le_of_ble_eq_true rfl⟩) hS (fun q _ h => h) (fun q h => h) (fun r_51 u t H1 locs ht hvm w_50 hB hz1 hk1 hS => ?_)
          obtain ⟨f_49, hI, kc_52, k_53⟩ := hB
          rw [ht] at hI
          have k_54 : f_49 (gr g h0 7) = .inl (gc g 1, 1812, .inr (.inl q_23)) := Kp.at kc_52 i_4 (by decide) k_41
          have k_55 : f_49 (gr g h0 4) = .inl (gc g 1, 906, .inr (.inl q)) := Kp.at kc_52 i_1 (by decide) k_43
          have k_56 : f_49 (gr g h0 5) = .inl (gc g 1, 9060, .inr (.inl u)) := Kp.at kc_52 i_3 (by decide) k_44
          have k_57 : f_49 (gr g h0 8) = .inl (gc g 3, 2, .inl q_39) := Kp.at kc_52 i_5 (by decide) k_45
          have k_53 : f_49 h0 = .inr (12, [.int (0 : Int32), .int 0, .ref (gr g h0 2), .ref (gr g h0 3), .ref (gr g h0 4), .ref (gr g h0 5), .ref (gr g h0 6), .ref (gr g h0 7), .ref (gr g h0 8), .ref (gr g h0 9), .int z10, .ref (gr g h0 11), .int z12, .int z13, .int z14, .int z15, .long z16, .int z17, .int z18, .ref (gr g h0 19), .ref (gr g h0 20), .ref (gr g h0 21), .ref (gr g h0 22), .int z23, .long z24, .long z25, .long z26]) := k_53
          have kp_58 := Kp.call kp_40 kc_52 (by decide)
          generalize H1 = H at hI hS ⊢
          refine W.widen (k := 0) (n := 0) (Nat.le_of_ble_eq_true rfl) (Nat.le_of_ble_eq_true rfl) ?_
          have w_50 : r_51.toInt = v_48.toInt := w_50
          exact W.iret (v := r_51) hx hb hr (fun t ht hW => ⟨⟨r_51, (), rfl, trivial, ⟨f_49, k_ret ht hI, kp_58, (0 : Int32), 0, z10, z12, z13, z14, z15, z16, z17, z18, z23, z24, z25, z26, q, u, q_23, q_39, k_53, (by first | omega | decide), (by first | omega | decide), (by first | omega | decide), k_55, hc1_ok, k_56, k_54, k_57, (ui_image hU hc1_ok (fun j9 h9 => t_31 j9 (by omega)) (fun j9 h9 => t_32 j9 h9) (fun k9 h9 => by rw [← eq_39, nI_clamp (by omega)]; exact pk_un h9))⟩⟩, hS.F ht⟩) hS.2.2 dX12_image_72
        · have c_34 := kn_le (by decide : Int32.toInt 906 = 906) (nI_toInt (n := y_21) (by omega)) c_34
          refine lv_aload_n hx hb dX12_image_30 rfl (lv_at hl 1 rfl) ?_
          refine k_get (ci := 12) (v := .ref (gr g h0 7)) (C := RX12) (T := TX12) (N := 27) hx hb hts (fun _ h0_ => List.mem_cons_of_mem _ (List.mem_append_right _ (List.mem_append_left _ h0_))) hown hK hI i_h0.1 k_25 rfl 7 (by decide) (hts (.fieldLink RX12 26 "DeadlineShareModel" "images" "[J") (List.mem_cons_of_mem _ (List.mem_append_left _ (List.mem_of_getElem? (i := 9) rfl)))) (fun _ h9 => h9) rfl dX12_image_31 ?_
          refine lv_sipush (v := 906) hx hb dX12_image_34 (by decide) ?_
          refine lv_iload_n hx hb dX12_image_37 rfl (lv_at hl 2 rfl) ?_
          refine k_topi (y := nI m_20) em_20 ?_
          refine lv_imul hx hb dX12_image_38 ?_
          refine k_topi (y := nI (906 * m_20)) ((pk_mul 906 m_20).trans (congrArg nI (by omega))) ?_
          refine lv_iload_n hx hb dX12_image_39 rfl (lv_at hl 0 rfl) ?_
          refine lv_iadd hx hb dX12_image_40 ?_
          refine k_topi (y := nI (906 * m_20 + y_21)) ((nI_add (906 * m_20) y_21).trans (congrArg nI (by omega))) ?_
          refine lv_aload_n hx hb dX12_image_41 rfl (lv_at hl 1 rfl) ?_
          refine k_get (ci := 12) (v := .ref (gr g h0 4)) (C := RX12) (T := TX12) (N := 27) hx hb hts (fun _ h0_ => List.mem_cons_of_mem _ (List.mem_append_right _ (List.mem_append_left _ h0_))) hown hK hI i_h0.1 k_25 rfl 4 (by decide) (hts (.fieldLink RX12 16 "DeadlineShareModel" "row" "[J") (List.mem_cons_of_mem _ (List.mem_append_left _ (List.mem_of_getElem? (i := 5) rfl)))) (fun _ h9 => h9) rfl dX12_image_42 ?_
          refine lv_iload_n hx hb dX12_image_45 rfl (lv_at hl 0 rfl) ?_
          refine k_lald hx hb hK hI i_1.1 1 k_26 rfl (vp_in_nI (by omega) (by omega)) dX12_image_46 ?_
          refine k_topl (y := q y_21) (congrArg q (nI_clamp (by omega))) ?_
          refine k_last hx hb hK hI hS i_4.1 1 k_24 rfl (vp_in_nI (by omega) (by omega)) (cl_35 i_4) dX12_image_47 (fun f_63 H locs e_64 hI hS => ?_)
          generalize eq_65 : vp_updL q_23 (Int32.toNatClampNeg (nI (906 * m_20 + y_21))) (q y_21) = q_65 at e_64
          have k_67 : f_63 (gr g h0 7) = .inl (gc g 1, 1812, .inr (.inl q_65)) := by rw [e_64]; exact va_up_self _ _ _
          have k_68 : f_63 h0 = .inr (12, [.int 0, .int z1, .ref (gr g h0 2), .ref (gr g h0 3), .ref (gr g h0 4), .ref (gr g h0 5), .ref (gr g h0 6), .ref (gr g h0 7), .ref (gr g h0 8), .ref (gr g h0 9), .int z10, .ref (gr g h0 11), .int z12, .int z13, .int z14, .int z15, .long z16, .int z17, .int z18, .ref (gr g h0 19), .ref (gr g h0 20), .ref (gr g h0 21), .ref (gr g h0 22), .int z23, .long z24, .long z25, .long z26]) := by rw [e_64, va_up_ne _ _ (ik_ne i_h0 i_4 (by decide))]; exact k_25
          have k_69 : f_63 (gr g h0 4) = .inl (gc g 1, 906, .inr (.inl q)) := by rw [e_64, va_up_ne _ _ (ik_ne i_1 i_4 (by decide))]; exact k_26
          have k_70 : f_63 (gr g h0 5) = .inl (gc g 1, 9060, .inr (.inl u)) := by rw [e_64, va_up_ne _ _ (ik_ne i_3 i_4 (by decide))]; exact k_27
          have k_71 : f_63 (gr g h0 8) = .inl (gc g 3, 2, .inl kt) := by rw [e_64, va_up_ne _ _ (ik_ne i_5 i_4 (by decide))]; exact k_28
          have kp_66 := Kp.put kp_29 i_4 (by decide) e_64
          have u_72 : vp_updL q_23 (906 * m_20 + y_21) (q y_21) = q_65 := by rw [← eq_65, show Int32.toNatClampNeg (nI (906 * m_20 + y_21)) = 906 * m_20 + y_21 from (nI_clamp (by omega))]
          refine lv_iinc (v := nI (y_21 + 1)) (lv' := [(2, .int (nI (y_21 + 1))), (0, .ref h0), (1, .int p1)]) hx hb dX12_image_48 hl (k := 0) rfl (nI_1 _) (by decide) rfl (fun ls hl => ?_)
          refine lv_goto (tgt := 23) hx hb dX12_image_51 (by decide) ?_
          exact ih (y_21 + 1) q_65 f_63 _ _ _ (by omega) hI hS k_67 k_68 k_69 k_70 k_71 kp_66 (by first | omega | decide) (fun j9 h9 => by rw [← u_72]; exact if h8 : j9 = y_21 then (by subst h8; exact pk_uLs) else (by rw [pk_uLn (by omega)]; exact t_31 j9 (by omega))) (fun j9 h9 => by rw [← u_72, pk_uLn (by omega)]; exact t_32 j9 h9) (lv_sub hl [0, 1, 2] rfl)
    exact K_23 _ 0 im f_6 _ _ _ (Nat.lt_succ_self _) hI hS k_12 k_9 k_10 k_11 k_13 kp_8 (by first | omega | decide) (fun j9 h9 => absurd h9 (Nat.not_lt_zero j9)) (fun j9 h9 => rfl) (lv_sub hl [0, 1, 2] rfl)
  · have c_19 := kc_eq rfl (by decide : Int32.toInt 0 = 0) c_19
    refine lv_aload_n hx hb dX12_image_15 rfl (lv_at hl 0 rfl) ?_
    refine lv_iconst (v := (-1)) hx hb dX12_image_16 (by decide) ?_
    refine va_calli (va_runV (As := [.int (-1)]) (rest := []) ⟨hx, hb, hml, hown, hts⟩ (c_X12_refuse l dC dI g A hG f_6 h0 (-1) 0 z1 z10 z12 z13 z14 z15 z16 z17 z18 z23 z24 z25 z26 i_h0 k_9 (by first | omega | (simp only [k_c0]; omega)) (by first | omega | (simp only [k_c0]; omega)) (by first | omega | (simp only [k_c0]; omega)) (by decide)) (cwV 1 hts (gi_V (fun w_ h0_ => ⟨List.mem_cons_of_mem _ (List.mem_append_right _ (List.mem_append_right _ (List.mem_append_right _ (List.mem_append_right _ (List.mem_append_left _ h0_))))), (tb_c_X12_refuse w_ h0_).2⟩) (List.mem_cons_of_mem _ (List.mem_append_left _ (List.mem_of_getElem? (i := 10) rfl))) (List.mem_cons_of_mem _ (List.mem_append_left _ (List.mem_of_getElem? (i := 11) rfl))) (List.mem_cons_of_mem _ (List.mem_append_left _ (List.mem_of_getElem? (i := 12) rfl))) (List.mem_cons_of_mem _ (List.mem_append_left _ (List.mem_of_getElem? (i := 3) rfl)))) rfl rfl rfl (by decide +kernel) ⟨Nat.le_of_ble_eq_true rfl, Nat.le_of_ble_eq_true rfl⟩) ⟨fun a U g mk q => ⟨q.1, q.2.calling rfl rfl⟩, k_recv hK hI i_h0.1 k_9 (ci := 12) rfl, fun U hU hW => ⟨rfl, kIn.of hI hK hE hS hU hW⟩⟩ rfl rfl hl.1 rfl (lv_room (Nat.le_of_ble_eq_true rfl)) dX12_image_17 ⟨Nat.le_of_ble_eq_true rfl, Nat.le_of_ble_eq_true rfl⟩) hS (fun q _ h => h) (fun q h => h) (fun r_75 u t H1 locs ht hvm w_74 hB hz1 hk1 hS => ?_)
    obtain ⟨f_73, hI, kc_76, k_77⟩ := hB
    rw [ht] at hI
    have k_78 : f_73 (gr g h0 4) = .inl (gc g 1, 906, .inr (.inl q)) := Kp.at kc_76 i_1 (by decide) k_10
    have k_79 : f_73 (gr g h0 5) = .inl (gc g 1, 9060, .inr (.inl u)) := Kp.at kc_76 i_3 (by decide) k_11
    have k_80 : f_73 (gr g h0 7) = .inl (gc g 1, 1812, .inr (.inl im)) := Kp.at kc_76 i_4 (by decide) k_12
    have k_81 : f_73 (gr g h0 8) = .inl (gc g 3, 2, .inl kt) := Kp.at kc_76 i_5 (by decide) k_13
    have k_77 : f_73 h0 = .inr (12, [.int (0 : Int32), .int (-1 : Int32), .ref (gr g h0 2), .ref (gr g h0 3), .ref (gr g h0 4), .ref (gr g h0 5), .ref (gr g h0 6), .ref (gr g h0 7), .ref (gr g h0 8), .ref (gr g h0 9), .int z10, .ref (gr g h0 11), .int z12, .int z13, .int z14, .int z15, .long z16, .int z17, .int z18, .ref (gr g h0 19), .ref (gr g h0 20), .ref (gr g h0 21), .ref (gr g h0 22), .int z23, .long z24, .long z25, .long z26]) := k_77
    have kp_82 := Kp.call kp_8 kc_76 (by decide)
    generalize H1 = H at hI hS ⊢
    refine W.widen (k := 0) (n := 0) (Nat.le_of_ble_eq_true rfl) (Nat.le_of_ble_eq_true rfl) ?_
    have w_74 : r_75.toInt = (-1 : Int32).toInt := w_74
    have g_83 : Int32.toInt ((-1)) = (-1) := by decide
    exact W.iret (v := r_75) hx hb hr (fun t ht hW => ⟨⟨r_75, (), rfl, trivial, ⟨f_73, k_ret ht hI, kp_82, (0 : Int32), (-1 : Int32), z10, z12, z13, z14, z15, z16, z17, z18, z23, z24, z25, z26, q, u, im, kt, k_77, (by first | omega | decide), (by first | omega | decide), (by first | omega | decide), k_78, hc1_ok, k_79, k_80, k_81, hU⟩⟩, hS.F ht⟩) hS.2.2 dX12_image_20
