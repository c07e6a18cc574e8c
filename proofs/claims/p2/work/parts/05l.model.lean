theorem tw_972 : q_g (.constantLong RX12 165 (99)) := ⟨(List.mem_append_right _ (List.mem_of_getElem? (i := 1311) (by decide +kernel))), good_of_word (by decide +kernel)⟩
theorem tw_973 : q_g (.code yX12_wish cX12_wish 7 (some .int)) := ⟨(List.mem_append_right _ (List.mem_of_getElem? (i := 1310) (by decide +kernel))), good_of_word (by decide +kernel)⟩
def ow_c_X12_wish : List Cond := [.fieldLink RX12 67 "DeadlineShareModel" "thrown" "I", .constantLong RX12 165 (99), .methodLink RX12 83 yX12_in, .static yX12_in, .initialized RX12, .methodLink RX12 142 yX12_isTask, .instanceMethod yX12_isTask, .selects RX12 yX12_isTask yX12_isTask, .methodLink RX12 139 yX12_remember, .instanceMethod yX12_remember, .selects RX12 yX12_remember yX12_remember, .methodLink RX12 105 yX12_heavy, .instanceMethod yX12_heavy, .selects RX12 yX12_heavy yX12_heavy, .methodLink RX12 90 yX12_isOn, .instanceMethod yX12_isOn, .selects RX12 yX12_isOn yX12_isOn, .methodLink RX12 94 yX12_weight, .instanceMethod yX12_weight, .selects RX12 yX12_weight yX12_weight, .methodLink RX12 161 yX12_slices, .instanceMethod yX12_slices, .selects RX12 yX12_slices yX12_slices, .methodLink RX12 80 yX12_tell, .instanceMethod yX12_tell, .selects RX12 yX12_tell yX12_tell, .constantLong RX12 137 (20), .methodLink RX12 76 yX12_refuse, .instanceMethod yX12_refuse, .selects RX12 yX12_refuse yX12_refuse]
def wq_c_X12_wish : List Cond := .code yX12_wish cX12_wish 7 (some .int) :: (ow_c_X12_wish ++ (u_ws RX12 TX12 27 ++ (wq_c_X12_in ++ (wq_c_X12_isTask ++ (wq_c_X12_remember ++ (wq_c_X12_heavy ++ (wq_c_X12_isOn ++ (wq_c_X12_weight ++ (wq_c_X12_slices ++ (wq_c_X12_tell ++ (wq_c_X12_refuse ++ ([] : List Cond))))))))))))
theorem tb_c_X12_wish : ∀ w ∈ wq_c_X12_wish, q_g w := by
  unfold wq_c_X12_wish ow_c_X12_wish
  exact q_cons tw_973 (q_app (q_cons tw_927 (q_cons tw_972 (q_cons tw_730 (q_cons tw_729 (q_cons tw_728 (q_cons tw_951 (q_cons tw_950 (q_cons tw_949 (q_cons tw_963 (q_cons tw_962 (q_cons tw_961 (q_cons tw_752 (q_cons tw_751 (q_cons tw_750 (q_cons tw_744 (q_cons tw_743 (q_cons tw_742 (q_cons tw_741 (q_cons tw_740 (q_cons tw_739 (q_cons tw_831 (q_cons tw_830 (q_cons tw_829 (q_cons tw_960 (q_cons tw_959 (q_cons tw_958 (q_cons tw_970 (q_cons tw_966 (q_cons tw_965 (q_cons tw_964 q_nil)))))))))))))))))))))))))))))) (q_app tu_X12 (q_app tb_c_X12_in (q_app tb_c_X12_isTask (q_app tb_c_X12_remember (q_app tb_c_X12_heavy (q_app tb_c_X12_isOn (q_app tb_c_X12_weight (q_app tb_c_X12_slices (q_app tb_c_X12_tell (q_app tb_c_X12_refuse q_nil)))))))))))
set_option maxHeartbeats 4000000 in
set_option maxRecDepth 100000 in
theorem c_X12_wish (l : Launch) (dC : Nat → ClassId) (dI : Nat → Nat → Nat) (g : kG) (A : Nat → Prop) (hG : kWf g) (f : Nat → va_E) (h0 : Nat) (p1 : Int32) (p2 : Int32) (z0 : Int32) (z1 : Int32) (z10 : Int32) (z12 : Int32) (z13 : Int32) (z14 : Int32) (z15 : Int32) (z16 : Int64) (z17 : Int32) (z18 : Int32) (z23 : Int32) (z24 : Int64) (z25 : Int64) (z26 : Int64) (q : Nat → Int64) (u : Nat → Int64) (im : Nat → Int64) (kt : Nat → Int32) (i_h0 : ik g 12 h0) (hc0 : f h0 = .inr (12, [.int z0, .int z1, .ref (gr g h0 2), .ref (gr g h0 3), .ref (gr g h0 4), .ref (gr g h0 5), .ref (gr g h0 6), .ref (gr g h0 7), .ref (gr g h0 8), .ref (gr g h0 9), .int z10, .ref (gr g h0 11), .int z12, .int z13, .int z14, .int z15, .long z16, .int z17, .int z18, .ref (gr g h0 19), .ref (gr g h0 20), .ref (gr g h0 21), .ref (gr g h0 22), .int z23, .long z24, .long z25, .long z26])) (hc0_10 : 0 ≤ z10.toInt ∧ z10.toInt ≤ 10) (hc0_12 : 0 ≤ z12.toInt ∧ z12.toInt ≤ 200) (hc0_23 : 0 ≤ z23.toInt ∧ z23.toInt ≤ 8) (hc1 : f (gr g h0 4) = .inl (gc g 1, 906, .inr (.inl q))) (hc1_ok : RowOK q) (hc2 : f (gr g h0 5) = .inl (gc g 1, 9060, .inr (.inl u))) (hc3 : f (gr g h0 7) = .inl (gc g 1, 1812, .inr (.inl im))) (hc4 : f (gr g h0 8) = .inl (gc g 3, 2, .inl kt)) (hU : UIq z10 u im kt) : Met l yX12_wish wq_c_X12_wish ({ frames := 3, cells := 0, slots := 0, locals := 64 } : Room) (va_Pc [.ref h0, .int p1, .int p2] (fun U => kIn dC dI g A f U)) (va_Qi (fun (r : Int32) (_ : Unit) => True) (fun (_ : Unit) t => ∃ f1 : Nat → va_E, Iv dC dI g A f1 t.heap ∧ Kp g [12, 30, 32, 33, 37] f f1 ∧ ∃ (w0 : Int32) (w1 : Int32) (w10 : Int32) (w12 : Int32) (w13 : Int32) (w14 : Int32) (w15 : Int32) (w16 : Int64) (w17 : Int32) (w18 : Int32) (w23 : Int32) (w24 : Int64) (w25 : Int64) (w26 : Int64) (q1 : Nat → Int64) (u1 : Nat → Int64) (im1 : Nat → Int64) (ik1 : Nat → Int32), (f1 h0 = .inr (12, [.int w0, .int w1, .ref (gr g h0 2), .ref (gr g h0 3), .ref (gr g h0 4), .ref (gr g h0 5), .ref (gr g h0 6), .ref (gr g h0 7), .ref (gr g h0 8), .ref (gr g h0 9), .int w10, .ref (gr g h0 11), .int w12, .int w13, .int w14, .int w15, .long w16, .int w17, .int w18, .ref (gr g h0 19), .ref (gr g h0 20), .ref (gr g h0 21), .ref (gr g h0 22), .int w23, .long w24, .long w25, .long w26])) ∧ (0 ≤ w10.toInt ∧ w10.toInt ≤ 10) ∧ (0 ≤ w12.toInt ∧ w12.toInt ≤ 200) ∧ (0 ≤ w23.toInt ∧ w23.toInt ≤ 8) ∧ (f1 (gr g h0 4) = .inl (gc g 1, 906, .inr (.inl q1))) ∧ (RowOK q1) ∧ (f1 (gr g h0 5) = .inl (gc g 1, 9060, .inr (.inl u1))) ∧ (f1 (gr g h0 7) = .inl (gc g 1, 1812, .inr (.inl im1))) ∧ (f1 (gr g h0 8) = .inl (gc g 3, 2, .inl ik1)) ∧ (UIq w10 u1 im1 ik1)) A) 0 0 A := by
  refine Met.ofW (cc := cX12_wish) (maxL := 7) (ret := (some .int)) (by decide) rfl ?_
  intro p e s m args below meth c s₁ B hml hv
  obtain ⟨rfl, hI, hK, hE⟩ := hv
  have hx := B.exec
  have hb := B.bytes
  have hr := B.returns
  have hts := atoms_spec (ws := wq_c_X12_wish) B.pre
  have hown : s.vm.findClass RX12 = some m.cls := findClass_of_methodNamed B.named
  have hlocks := B.notSynchronized
  have hS : va_S A s.heap s.heap [] := va_S.rf
  have hk0 : Kp g [12, 30, 32, 33, 37] f f := Kp.rf
  have hl := lv_entry ([.ref h0, .int p1, .int p2]) (n := 7) (Nat.le_of_ble_eq_true rfl)
  rw [lg_entry_eq]
  generalize (lg_sl ([.ref h0, .int p1, .int p2]) ++ List.replicate (7 - (lg_sl ([.ref h0, .int p1, .int p2])).length) Slot.unset).toArray = ls at hl ⊢
  have hl : lv_has ls 7 [(0, .ref h0), (1, .int p1), (2, .int p2)] := hl
  have i_1 := kw_12_4 hG i_h0
  have d_2 := rk_hd hc1_ok
  have i_3 := kw_12_5 hG i_h0
  have i_4 := kw_12_7 hG i_h0
  have i_5 := kw_12_8 hG i_h0
  refine lv_aload_n hx hb dX12_wish_0 rfl (lv_at hl 0 rfl) ?_
  refine lv_iconst (v := 0) hx hb dX12_wish_1 (by decide) ?_
  refine k_put (ci := 12) (v := .int 0) (ty := .int) (C := RX12) (T := TX12) (N := 27) hx hb hts (fun _ h0_ => List.mem_cons_of_mem _ (List.mem_append_right _ (List.mem_append_left _ h0_))) tyX12 tyX12_ok nmX12 hown hK hI hS i_h0.1 hc0 rfl 0 (by decide) (hts (.fieldLink RX12 67 "DeadlineShareModel" "thrown" "I") (List.mem_cons_of_mem _ (List.mem_append_left _ (List.mem_of_getElem? (i := 0) rfl)))) (fun _ h9 => h9) rfl (by decide +kernel) rfl rfl (Nat.le_of_ble_eq_true rfl) rfl (cl_12 i_h0 (by omega) (by omega) (by omega)) dX12_wish_2 (fun f_6 H locs e_7 hI hS => ?_)
  have k_9 : f_6 h0 = .inr (12, [.int 0, .int z1, .ref (gr g h0 2), .ref (gr g h0 3), .ref (gr g h0 4), .ref (gr g h0 5), .ref (gr g h0 6), .ref (gr g h0 7), .ref (gr g h0 8), .ref (gr g h0 9), .int z10, .ref (gr g h0 11), .int z12, .int z13, .int z14, .int z15, .long z16, .int z17, .int z18, .ref (gr g h0 19), .ref (gr g h0 20), .ref (gr g h0 21), .ref (gr g h0 22), .int z23, .long z24, .long z25, .long z26]) := by rw [e_7]; exact va_up_self _ _ _
  have k_10 : f_6 (gr g h0 4) = .inl (gc g 1, 906, .inr (.inl q)) := by rw [e_7, va_up_ne _ _ (ik_ne i_1 i_h0 (by decide))]; exact hc1
  have k_11 : f_6 (gr g h0 5) = .inl (gc g 1, 9060, .inr (.inl u)) := by rw [e_7, va_up_ne _ _ (ik_ne i_3 i_h0 (by decide))]; exact hc2
  have k_12 : f_6 (gr g h0 7) = .inl (gc g 1, 1812, .inr (.inl im)) := by rw [e_7, va_up_ne _ _ (ik_ne i_4 i_h0 (by decide))]; exact hc3
  have k_13 : f_6 (gr g h0 8) = .inl (gc g 3, 2, .inl kt) := by rw [e_7, va_up_ne _ _ (ik_ne i_5 i_h0 (by decide))]; exact hc4
  have kp_8 := Kp.put hk0 i_h0 (by decide) e_7
  refine lv_iload_n hx hb dX12_wish_5 rfl (lv_at hl 2 rfl) ?_
  refine lv_i2l (v := p2.toInt64) hx hb dX12_wish_6 rfl ?_
  have t_14 := Int32.toInt_toInt64 p2
  have g_15 := Int32.toInt_lt p2
  have g_16 := Int32.le_toInt p2
  refine lv_lconst (v := 1) hx hb dX12_wish_7 (by decide) ?_
  refine lv_ldc2 hx hb hown (hts (.constantLong RX12 165 (99)) (List.mem_cons_of_mem _ (List.mem_append_left _ (List.mem_of_getElem? (i := 1) rfl)))) dX12_wish_8 ?_
  refine va_calli (va_runS (As := [.long p2.toInt64, .long 1, .long 99]) (rest := []) ⟨hx, hb, hml, hown, hts⟩ (c_X12_in l dC dI g A hG f_6 p2.toInt64 1 99) (va_cwS 3 hts (gi_S (fun w_ h0_ => ⟨List.mem_cons_of_mem _ (List.mem_append_right _ (List.mem_append_right _ (List.mem_append_left _ h0_))), (tb_c_X12_in w_ h0_).2⟩) (List.mem_cons_of_mem _ (List.mem_append_left _ (List.mem_of_getElem? (i := 2) rfl))) (List.mem_cons_of_mem _ (List.mem_append_left _ (List.mem_of_getElem? (i := 3) rfl))) (List.mem_cons_of_mem _ (List.mem_append_left _ (List.mem_of_getElem? (i := 4) rfl)))) rfl rfl rfl (by decide +kernel) ⟨Nat.le_of_ble_eq_true rfl, Nat.le_of_ble_eq_true rfl⟩) ⟨fun a U g mk q => ⟨q.1, q.2.calling rfl rfl⟩, fun U hU hW => ⟨rfl, kIn.of hI hK hE hS hU hW⟩⟩ rfl rfl hl.1 rfl (lv_room (Nat.le_of_ble_eq_true rfl)) dX12_wish_11 ⟨Nat.le_of_ble_eq_true rfl, Nat.le_of_ble_eq_true rfl⟩) hS (fun q _ h => h) (fun q h => h) (fun r_18 u9 t H1 locs ht hvm w_17 hB hz1 hk1 hS => ?_)
  have hI : Iv dC dI g A f_6 t.heap := hB
  rw [ht] at hI
  generalize H1 = H at hI hS ⊢
  refine W.widen (k := 0) (n := 0) (Nat.le_of_ble_eq_true rfl) (Nat.le_of_ble_eq_true rfl) ?_
  have w_17 : (r_18.toInt = 0 ∧ (p2.toInt64.toInt < (1 : Int64).toInt ∨ (99 : Int64).toInt < p2.toInt64.toInt)) ∨ (r_18.toInt = 1 ∧ (1 : Int64).toInt ≤ p2.toInt64.toInt ∧ p2.toInt64.toInt ≤ (99 : Int64).toInt) := w_17
  have g_19 : Int64.toInt (1) = 1 := by decide
  have g_20 : Int64.toInt (99) = 99 := by decide
  refine lv_if_ne (tgt := 23) hx hb dX12_wish_14 (by decide) (fun c_21 => ?_) (fun c_21 => ?_)
  · have c_21 := kn_eq rfl (by decide : Int32.toInt 0 = 0) c_21
    refine lv_aload_n hx hb dX12_wish_23 rfl (lv_at hl 0 rfl) ?_
    refine lv_iload_n hx hb dX12_wish_24 rfl (lv_at hl 1 rfl) ?_
    refine va_calli (va_runV (As := [.int p1]) (rest := []) ⟨hx, hb, hml, hown, hts⟩ (c_X12_isTask l dC dI g A hG f_6 h0 p1 q i_h0 k_10 hc1_ok) (cwV 1 hts (gi_V (fun w_ h0_ => ⟨List.mem_cons_of_mem _ (List.mem_append_right _ (List.mem_append_right _ (List.mem_append_right _ (List.mem_append_left _ h0_)))), (tb_c_X12_isTask w_ h0_).2⟩) (List.mem_cons_of_mem _ (List.mem_append_left _ (List.mem_of_getElem? (i := 5) rfl))) (List.mem_cons_of_mem _ (List.mem_append_left _ (List.mem_of_getElem? (i := 6) rfl))) (List.mem_cons_of_mem _ (List.mem_append_left _ (List.mem_of_getElem? (i := 7) rfl))) (List.mem_cons_of_mem _ (List.mem_append_left _ (List.mem_of_getElem? (i := 4) rfl)))) rfl rfl rfl (by decide +kernel) ⟨Nat.le_of_ble_eq_true rfl, Nat.le_of_ble_eq_true rfl⟩) ⟨fun a U g mk q => ⟨q.1, q.2.calling rfl rfl⟩, k_recv hK hI i_h0.1 k_9 (ci := 12) rfl, fun U hU hW => ⟨rfl, kIn.of hI hK hE hS hU hW⟩⟩ rfl rfl hl.1 rfl (lv_room (Nat.le_of_ble_eq_true rfl)) dX12_wish_25 ⟨Nat.le_of_ble_eq_true rfl, Nat.le_of_ble_eq_true rfl⟩) hS (fun q _ h => h) (fun q h => h) (fun r_23 u9 t H1 locs ht hvm w_22 hB hz1 hk1 hS => ?_)
    have hI : Iv dC dI g A f_6 t.heap := hB
    rw [ht] at hI
    generalize H1 = H at hI hS ⊢
    refine W.widen (k := 0) (n := 0) (Nat.le_of_ble_eq_true rfl) (Nat.le_of_ble_eq_true rfl) ?_
    have w_22 : (r_23.toInt = 0 ∨ r_23.toInt = 1) ∧ (r_23.toInt = 0 ∨ (0 ≤ p1.toInt ∧ p1.toInt < (q 0).toInt)) := w_22
    refine lv_if_ne (tgt := 38) hx hb dX12_wish_28 (by decide) (fun c_24 => ?_) (fun c_24 => ?_)
    · have c_24 := kn_eq rfl (by decide : Int32.toInt 0 = 0) c_24
      refine lv_aload_n hx hb dX12_wish_38 rfl (lv_at hl 0 rfl) ?_
      refine lv_bipush (v := 7) hx hb dX12_wish_39 (by decide) ?_
      refine va_callv (va_runV (As := [.int 7]) (rest := []) ⟨hx, hb, hml, hown, hts⟩ (c_X12_remember l dC dI g A hG f_6 h0 7 0 z1 z10 z12 z13 z14 z15 z16 z17 z18 z23 z24 z25 z26 q u im kt i_h0 k_9 (by first | omega | (simp only [k_c0]; omega)) (by first | omega | (simp only [k_c0]; omega)) (by first | omega | (simp only [k_c0]; omega)) k_10 hc1_ok k_11 k_12 k_13 (by first | omega | decide | (simp only [show Int32.toInt 7 = 7 from by decide] <;> omega))) (cwV 1 hts (gi_V (fun w_ h0_ => ⟨List.mem_cons_of_mem _ (List.mem_append_right _ (List.mem_append_right _ (List.mem_append_right _ (List.mem_append_right _ (List.mem_append_left _ h0_))))), (tb_c_X12_remember w_ h0_).2⟩) (List.mem_cons_of_mem _ (List.mem_append_left _ (List.mem_of_getElem? (i := 8) rfl))) (List.mem_cons_of_mem _ (List.mem_append_left _ (List.mem_of_getElem? (i := 9) rfl))) (List.mem_cons_of_mem _ (List.mem_append_left _ (List.mem_of_getElem? (i := 10) rfl))) (List.mem_cons_of_mem _ (List.mem_append_left _ (List.mem_of_getElem? (i := 4) rfl)))) rfl rfl rfl (by decide +kernel) ⟨Nat.le_of_ble_eq_true rfl, Nat.le_of_ble_eq_true rfl⟩) ⟨fun a U g mk q => ⟨q.1, q.2.calling rfl rfl⟩, k_recv hK hI i_h0.1 k_9 (ci := 12) rfl, fun U hU hW => ⟨rfl, kIn.of hI hK hE hS hU hW⟩⟩ rfl rfl hl.1 rfl (lv_room (Nat.le_of_ble_eq_true rfl)) dX12_wish_41 ⟨Nat.le_of_ble_eq_true rfl, Nat.le_of_ble_eq_true rfl⟩) hS (fun q _ h => h) (fun q h => h) (fun u9 t H1 locs ht hvm _ hB hz1 hk1 hS => ?_)
      obtain ⟨f_25, hI, kc_27, w10_28, u1_29, k_30, z_31, k_32, z_33⟩ := hB
      rw [ht] at hI
      have k_34 : f_25 (gr g h0 4) = .inl (gc g 1, 906, .inr (.inl q)) := Kp.at kc_27 i_1 (by decide) k_10
      have k_35 : f_25 (gr g h0 7) = .inl (gc g 1, 1812, .inr (.inl im)) := Kp.at kc_27 i_4 (by decide) k_12
      have k_36 : f_25 (gr g h0 8) = .inl (gc g 3, 2, .inl kt) := Kp.at kc_27 i_5 (by decide) k_13
      have k_30 : f_25 h0 = .inr (12, [.int (0 : Int32), .int z1, .ref (gr g h0 2), .ref (gr g h0 3), .ref (gr g h0 4), .ref (gr g h0 5), .ref (gr g h0 6), .ref (gr g h0 7), .ref (gr g h0 8), .ref (gr g h0 9), .int w10_28, .ref (gr g h0 11), .int z12, .int z13, .int z14, .int z15, .long z16, .int z17, .int z18, .ref (gr g h0 19), .ref (gr g h0 20), .ref (gr g h0 21), .ref (gr g h0 22), .int z23, .long z24, .long z25, .long z26]) := k_30
      have z_31 : 0 ≤ w10_28.toInt ∧ w10_28.toInt ≤ 10 := z_31
      have z_33 : UIq w10_28 u1_29 im kt := z_33
      have kp_37 := Kp.call kp_8 kc_27 (by decide)
      generalize H1 = H at hI hS ⊢
      refine W.widen (k := 0) (n := 0) (Nat.le_of_ble_eq_true rfl) (Nat.le_of_ble_eq_true rfl) ?_
      refine lv_aload_n hx hb dX12_wish_44 rfl (lv_at hl 0 rfl) ?_
      refine va_calll (va_runV (As := []) (rest := []) ⟨hx, hb, hml, hown, hts⟩ (c_X12_heavy l dC dI g A hG f_25 h0 q i_h0 k_34 hc1_ok) (cwV 0 hts (gi_V (fun w_ h0_ => ⟨List.mem_cons_of_mem _ (List.mem_append_right _ (List.mem_append_right _ (List.mem_append_right _ (List.mem_append_right _ (List.mem_append_right _ (List.mem_append_left _ h0_)))))), (tb_c_X12_heavy w_ h0_).2⟩) (List.mem_cons_of_mem _ (List.mem_append_left _ (List.mem_of_getElem? (i := 11) rfl))) (List.mem_cons_of_mem _ (List.mem_append_left _ (List.mem_of_getElem? (i := 12) rfl))) (List.mem_cons_of_mem _ (List.mem_append_left _ (List.mem_of_getElem? (i := 13) rfl))) (List.mem_cons_of_mem _ (List.mem_append_left _ (List.mem_of_getElem? (i := 4) rfl)))) rfl rfl rfl (by decide +kernel) ⟨Nat.le_of_ble_eq_true rfl, Nat.le_of_ble_eq_true rfl⟩) ⟨fun a U g mk q => ⟨q.1, q.2.calling rfl rfl⟩, k_recv hK hI i_h0.1 k_30 (ci := 12) rfl, fun U hU hW => ⟨rfl, kIn.of hI hK hE hS hU hW⟩⟩ rfl rfl hl.1 rfl (lv_room (Nat.le_of_ble_eq_true rfl)) dX12_wish_45 ⟨Nat.le_of_ble_eq_true rfl, Nat.le_of_ble_eq_true rfl⟩) hS (fun q _ h => h) (fun q h => h) (fun r_39 u9 t H1 locs ht hvm w_38 hB hz1 hk1 hS => ?_)
      have hI : Iv dC dI g A f_25 t.heap := hB
      rw [ht] at hI
      generalize H1 = H at hI hS ⊢
      refine W.widen (k := 0) (n := 0) (Nat.le_of_ble_eq_true rfl) (Nat.le_of_ble_eq_true rfl) ?_
      have w_38 : 0 ≤ r_39.toInt ∧ r_39.toInt ≤ 96 ∧ ∀ t : Nat, (t : Int) < (q 0).toInt → (q (6 + 43 * t + 2)).toInt = 1 → 1 ≤ r_39.toInt := w_38
      refine lv_aload_n hx hb dX12_wish_48 rfl (lv_at hl 0 rfl) ?_
      obtain ⟨m_40, em_40, tm_40⟩ := k_nat (x := p1) (by omega)
      refine lv_iload_n hx hb dX12_wish_49 rfl (lv_at hl 1 rfl) ?_
      refine k_topi (y := nI m_40) em_40 ?_
      refine va_calli (va_runV (As := [.int (nI m_40)]) (rest := [.long r_39]) ⟨hx, hb, hml, hown, hts⟩ (c_X12_isOn l dC dI g A hG f_25 h0 m_40 q i_h0 k_34 hc1_ok (by first | omega | decide | (simp only [k_c0, k_c1, k_cm1] <;> omega))) (cwV 1 hts (gi_V (fun w_ h0_ => ⟨List.mem_cons_of_mem _ (List.mem_append_right _ (List.mem_append_right _ (List.mem_append_right _ (List.mem_append_right _ (List.mem_append_right _ (List.mem_append_right _ (List.mem_append_left _ h0_))))))), (tb_c_X12_isOn w_ h0_).2⟩) (List.mem_cons_of_mem _ (List.mem_append_left _ (List.mem_of_getElem? (i := 14) rfl))) (List.mem_cons_of_mem _ (List.mem_append_left _ (List.mem_of_getElem? (i := 15) rfl))) (List.mem_cons_of_mem _ (List.mem_append_left _ (List.mem_of_getElem? (i := 16) rfl))) (List.mem_cons_of_mem _ (List.mem_append_left _ (List.mem_of_getElem? (i := 4) rfl)))) rfl rfl rfl (by decide +kernel) ⟨Nat.le_of_ble_eq_true rfl, Nat.le_of_ble_eq_true rfl⟩) ⟨fun a U g mk q => ⟨q.1, q.2.calling rfl rfl⟩, k_recv hK hI i_h0.1 k_30 (ci := 12) rfl, fun U hU hW => ⟨rfl, kIn.of hI hK hE hS hU hW⟩⟩ rfl rfl hl.1 rfl (lv_room (Nat.le_of_ble_eq_true rfl)) dX12_wish_50 ⟨Nat.le_of_ble_eq_true rfl, Nat.le_of_ble_eq_true rfl⟩) hS (fun q _ h => h) (fun q h => h) (fun r_42 u9 t H1 locs ht hvm w_41 hB hz1 hk1 hS => ?_)
      have hI : Iv dC dI g A f_25 t.heap := hB
      rw [ht] at hI
      generalize H1 = H at hI hS ⊢
      refine W.widen (k := 0) (n := 0) (Nat.le_of_ble_eq_true rfl) (Nat.le_of_ble_eq_true rfl) ?_
      have w_41 : (r_42.toInt = 0 ∧ (q (6 + 43 * m_40 + 2)).toInt ≠ 1) ∨ (r_42.toInt = 1 ∧ (q (6 + 43 * m_40 + 2)).toInt = 1) := w_41
      have J_65 : ∀ (y_43 : Int64) (H : Heap) (locs : List Loc) (ls : Array Slot), Iv dC dI g A f_25 H → va_S A s.heap H locs → (0 ≤ y_43.toInt ∧ y_43.toInt ≤ 8 ∧ 1 ≤ y_43.toInt + r_39.toInt) → lv_has ls 7 [(0, .ref h0), (1, .int p1), (2, .int p2)] → W p l e (headSpec wq_c_X12_wish ({ frames := 3, cells := 0, slots := 0, locals := 64 } : Room)).room s m ([.ref h0, .int p1, .int p2].toArray) below meth c H locs 0 0 (MQ below (va_Qi (fun (r : Int32) (_ : Unit) => True) (fun (_ : Unit) t => ∃ f1 : Nat → va_E, Iv dC dI g A f1 t.heap ∧ Kp g [12, 30, 32, 33, 37] f f1 ∧ ∃ (w0 : Int32) (w1 : Int32) (w10 : Int32) (w12 : Int32) (w13 : Int32) (w14 : Int32) (w15 : Int32) (w16 : Int64) (w17 : Int32) (w18 : Int32) (w23 : Int32) (w24 : Int64) (w25 : Int64) (w26 : Int64) (q1 : Nat → Int64) (u1 : Nat → Int64) (im1 : Nat → Int64) (ik1 : Nat → Int32), (f1 h0 = .inr (12, [.int w0, .int w1, .ref (gr g h0 2), .ref (gr g h0 3), .ref (gr g h0 4), .ref (gr g h0 5), .ref (gr g h0 6), .ref (gr g h0 7), .ref (gr g h0 8), .ref (gr g h0 9), .int w10, .ref (gr g h0 11), .int w12, .int w13, .int w14, .int w15, .long w16, .int w17, .int w18, .ref (gr g h0 19), .ref (gr g h0 20), .ref (gr g h0 21), .ref (gr g h0 22), .int w23, .long w24, .long w25, .long w26])) ∧ (0 ≤ w10.toInt ∧ w10.toInt ≤ 10) ∧ (0 ≤ w12.toInt ∧ w12.toInt ≤ 200) ∧ (0 ≤ w23.toInt ∧ w23.toInt ≤ 8) ∧ (f1 (gr g h0 4) = .inl (gc g 1, 906, .inr (.inl q1))) ∧ (RowOK q1) ∧ (f1 (gr g h0 5) = .inl (gc g 1, 9060, .inr (.inl u1))) ∧ (f1 (gr g h0 7) = .inl (gc g 1, 1812, .inr (.inl im1))) ∧ (f1 (gr g h0 8) = .inl (gc g 3, 2, .inl ik1)) ∧ (UIq w10 u1 im1 ik1)) A) ([.ref h0, .int p1, .int p2].toArray) s 0 0 A) (F0 m 65 ls [.long y_43, .long r_39]) := by
        intro y_43 H locs ls hI hS t_44 hl
        refine lv_ladd hx hb dX12_wish_65 ?_
        refine lv_topl (fun v_45 ev_45 => ?_)
        have tv_45 := l_ad r_39 y_43
        rw [← ev_45] at tv_45
        refine lv_lstore_n (lv' := [(3, .long v_45), (0, .ref h0), (1, .int p1), (2, .int p2)]) hx hb dX12_wish_66 rfl hl (by decide) rfl (fun ls hl => ?_)
        refine lv_iload_n hx hb dX12_wish_67 rfl (lv_at hl 3 rfl) ?_
        refine lv_i2l (v := p2.toInt64) hx hb dX12_wish_68 rfl ?_
        have t_46 := Int32.toInt_toInt64 p2
        have g_47 := Int32.toInt_lt p2
        have g_48 := Int32.le_toInt p2
        refine lv_aload_n hx hb dX12_wish_69 rfl (lv_at hl 1 rfl) ?_
        refine lv_iload_n hx hb dX12_wish_70 rfl (lv_at hl 2 rfl) ?_
        refine k_topi (y := nI m_40) em_40 ?_
        refine va_calll (va_runV (As := [.int (nI m_40)]) (rest := [.long p2.toInt64]) ⟨hx, hb, hml, hown, hts⟩ (c_X12_weight l dC dI g A hG f_25 h0 m_40 q i_h0 k_34 hc1_ok (by first | omega | decide | (simp only [k_c0, k_c1, k_cm1] <;> omega))) (cwV 1 hts (gi_V (fun w_ h0_ => ⟨List.mem_cons_of_mem _ (List.mem_append_right _ (List.mem_append_right _ (List.mem_append_right _ (List.mem_append_right _ (List.mem_append_right _ (List.mem_append_right _ (List.mem_append_right _ (List.mem_append_left _ h0_)))))))), (tb_c_X12_weight w_ h0_).2⟩) (List.mem_cons_of_mem _ (List.mem_append_left _ (List.mem_of_getElem? (i := 17) rfl))) (List.mem_cons_of_mem _ (List.mem_append_left _ (List.mem_of_getElem? (i := 18) rfl))) (List.mem_cons_of_mem _ (List.mem_append_left _ (List.mem_of_getElem? (i := 19) rfl))) (List.mem_cons_of_mem _ (List.mem_append_left _ (List.mem_of_getElem? (i := 4) rfl)))) rfl rfl rfl (by decide +kernel) ⟨Nat.le_of_ble_eq_true rfl, Nat.le_of_ble_eq_true rfl⟩) ⟨fun a U g mk q => ⟨q.1, q.2.calling rfl rfl⟩, k_recv hK hI i_h0.1 k_30 (ci := 12) rfl, fun U hU hW => ⟨rfl, kIn.of hI hK hE hS hU hW⟩⟩ rfl rfl hl.1 rfl (lv_room (Nat.le_of_ble_eq_true rfl)) dX12_wish_71 ⟨Nat.le_of_ble_eq_true rfl, Nat.le_of_ble_eq_true rfl⟩) hS (fun q _ h => h) (fun q h => h) (fun r_50 u9 t H1 locs ht hvm w_49 hB hz1 hk1 hS => ?_)
        have hI : Iv dC dI g A f_25 t.heap := hB
        rw [ht] at hI
        generalize H1 = H at hI hS ⊢
        refine W.widen (k := 0) (n := 0) (Nat.le_of_ble_eq_true rfl) (Nat.le_of_ble_eq_true rfl) ?_
        have w_49 : r_50 = q (6 + 43 * m_40) := w_49
        refine k_topl (y := q (6 + 43 * m_40)) w_49 ?_
        have d_51 := rk_0 hc1_ok (t := m_40) (by omega)
        refine lv_lmul hx hb dX12_wish_74 ?_
        refine lv_topl (fun v_52 ev_52 => ?_)
        refine lv_lload_n hx hb dX12_wish_75 rfl (lv_at hl 0 rfl) ?_
        refine lv_ldiv hx hb dX12_wish_76 (k_ne0L (by omega)) ?_
        refine lv_topl (fun v_53 ev_53 => ?_)
        refine lv_lstore (lv' := [(5, .long v_53), (3, .long v_45), (0, .ref h0), (1, .int p1), (2, .int p2)]) hx hb dX12_wish_77 hl (by decide) rfl (fun ls hl => ?_)
        refine lv_lload hx hb dX12_wish_79 (lv_at hl 0 rfl) ?_
        refine lv_lconst (v := 1) hx hb dX12_wish_81 (by decide) ?_
        refine W.lcmp hx hb dX12_wish_82 ?_
        have J_107 : ∀ (y_54 : Int64) (H : Heap) (locs : List Loc) (ls : Array Slot), Iv dC dI g A f_25 H → va_S A s.heap H locs → lv_has ls 7 [(5, .long v_53), (3, .long v_45), (0, .ref h0), (1, .int p1), (2, .int p2)] → W p l e (headSpec wq_c_X12_wish ({ frames := 3, cells := 0, slots := 0, locals := 64 } : Room)).room s m ([.ref h0, .int p1, .int p2].toArray) below meth c H locs 0 0 (MQ below (va_Qi (fun (r : Int32) (_ : Unit) => True) (fun (_ : Unit) t => ∃ f1 : Nat → va_E, Iv dC dI g A f1 t.heap ∧ Kp g [12, 30, 32, 33, 37] f f1 ∧ ∃ (w0 : Int32) (w1 : Int32) (w10 : Int32) (w12 : Int32) (w13 : Int32) (w14 : Int32) (w15 : Int32) (w16 : Int64) (w17 : Int32) (w18 : Int32) (w23 : Int32) (w24 : Int64) (w25 : Int64) (w26 : Int64) (q1 : Nat → Int64) (u1 : Nat → Int64) (im1 : Nat → Int64) (ik1 : Nat → Int32), (f1 h0 = .inr (12, [.int w0, .int w1, .ref (gr g h0 2), .ref (gr g h0 3), .ref (gr g h0 4), .ref (gr g h0 5), .ref (gr g h0 6), .ref (gr g h0 7), .ref (gr g h0 8), .ref (gr g h0 9), .int w10, .ref (gr g h0 11), .int w12, .int w13, .int w14, .int w15, .long w16, .int w17, .int w18, .ref (gr g h0 19), .ref (gr g h0 20), .ref (gr g h0 21), .ref (gr g h0 22), .int w23, .long w24, .long w25, .long w26])) ∧ (0 ≤ w10.toInt ∧ w10.toInt ≤ 10) ∧ (0 ≤ w12.toInt ∧ w12.toInt ≤ 200) ∧ (0 ≤ w23.toInt ∧ w23.toInt ≤ 8) ∧ (f1 (gr g h0 4) = .inl (gc g 1, 906, .inr (.inl q1))) ∧ (RowOK q1) ∧ (f1 (gr g h0 5) = .inl (gc g 1, 9060, .inr (.inl u1))) ∧ (f1 (gr g h0 7) = .inl (gc g 1, 1812, .inr (.inl im1))) ∧ (f1 (gr g h0 8) = .inl (gc g 3, 2, .inl ik1)) ∧ (UIq w10 u1 im1 ik1)) A) ([.ref h0, .int p1, .int p2].toArray) s 0 0 A) (F0 m 107 ls [.long y_54]) := by
          intro y_54 H locs ls hI hS  hl
          refine lv_lstore (lv' := [(5, .long y_54), (3, .long v_45), (0, .ref h0), (1, .int p1), (2, .int p2)]) hx hb dX12_wish_107 hl (by decide) rfl (fun ls hl => ?_)
          refine lv_aload_n hx hb dX12_wish_109 rfl (lv_at hl 2 rfl) ?_
          refine lv_iload_n hx hb dX12_wish_110 rfl (lv_at hl 3 rfl) ?_
          refine k_topi (y := nI m_40) em_40 ?_
          refine lv_lload hx hb dX12_wish_111 (lv_at hl 0 rfl) ?_
          refine va_callv (va_runV (As := [.int (nI m_40), .long y_54]) (rest := []) ⟨hx, hb, hml, hown, hts⟩ (c_X12_slices l dC dI g A hG f_25 h0 m_40 y_54 q i_h0 k_34 hc1_ok (by first | omega | decide | (simp only [k_c0, k_c1, k_cm1] <;> omega))) (cwV 2 hts (gi_V (fun w_ h0_ => ⟨List.mem_cons_of_mem _ (List.mem_append_right _ (List.mem_append_right _ (List.mem_append_right _ (List.mem_append_right _ (List.mem_append_right _ (List.mem_append_right _ (List.mem_append_right _ (List.mem_append_right _ (List.mem_append_left _ h0_))))))))), (tb_c_X12_slices w_ h0_).2⟩) (List.mem_cons_of_mem _ (List.mem_append_left _ (List.mem_of_getElem? (i := 20) rfl))) (List.mem_cons_of_mem _ (List.mem_append_left _ (List.mem_of_getElem? (i := 21) rfl))) (List.mem_cons_of_mem _ (List.mem_append_left _ (List.mem_of_getElem? (i := 22) rfl))) (List.mem_cons_of_mem _ (List.mem_append_left _ (List.mem_of_getElem? (i := 4) rfl)))) rfl rfl rfl (by decide +kernel) ⟨Nat.le_of_ble_eq_true rfl, Nat.le_of_ble_eq_true rfl⟩) ⟨fun a U g mk q => ⟨q.1, q.2.calling rfl rfl⟩, k_recv hK hI i_h0.1 k_30 (ci := 12) rfl, fun U hU hW => ⟨rfl, kIn.of hI hK hE hS hU hW⟩⟩ rfl rfl hl.1 rfl (lv_room (Nat.le_of_ble_eq_true rfl)) dX12_wish_113 ⟨Nat.le_of_ble_eq_true rfl, Nat.le_of_ble_eq_true rfl⟩) hS (fun q _ h => h) (fun q h => h) (fun u9 t H1 locs ht hvm _ hB hz1 hk1 hS => ?_)
          obtain ⟨f_55, hI, kc_57, q1_58, k_59, z_60, z_61, z_62, z_63⟩ := hB
          rw [ht] at hI
          have k_64 : f_55 (gr g h0 7) = .inl (gc g 1, 1812, .inr (.inl im)) := Kp.at kc_57 i_4 (by decide) k_35
          have k_65 : f_55 (gr g h0 8) = .inl (gc g 3, 2, .inl kt) := Kp.at kc_57 i_5 (by decide) k_36
          have k_66 : f_55 h0 = .inr (12, [.int (0 : Int32), .int z1, .ref (gr g h0 2), .ref (gr g h0 3), .ref (gr g h0 4), .ref (gr g h0 5), .ref (gr g h0 6), .ref (gr g h0 7), .ref (gr g h0 8), .ref (gr g h0 9), .int w10_28, .ref (gr g h0 11), .int z12, .int z13, .int z14, .int z15, .long z16, .int z17, .int z18, .ref (gr g h0 19), .ref (gr g h0 20), .ref (gr g h0 21), .ref (gr g h0 22), .int z23, .long z24, .long z25, .long z26]) := Kp.at kc_57 i_h0 (by decide) k_30
          have k_67 : f_55 (gr g h0 5) = .inl (gc g 1, 9060, .inr (.inl u1_29)) := Kp.at kc_57 i_3 (by decide) k_32
          have z_60 : RowOK q1_58 := z_60
          have d_68 := rk_hd z_60
          have z_61 : (q1_58 0).toInt = (q 0).toInt := z_61
          have z_62 : (q1_58 1).toInt = (q 1).toInt := z_62
          have z_63 : ∀ j : Nat, 11 ≤ j → j < 43 → q1_58 (6 + 43 * m_40 + j) = q (6 + 43 * m_40 + j) := z_63
          have kp_69 := Kp.call kp_37 kc_57 (by decide)
          generalize H1 = H at hI hS ⊢
          refine W.widen (k := 0) (n := 0) (Nat.le_of_ble_eq_true rfl) (Nat.le_of_ble_eq_true rfl) ?_
          refine lv_aload_n hx hb dX12_wish_116 rfl (lv_at hl 2 rfl) ?_
          refine lv_lload hx hb dX12_wish_117 (lv_at hl 0 rfl) ?_
          refine lv_l2i (v := y_54.toInt32) hx hb dX12_wish_119 rfl ?_
          refine lv_topi (fun v_70 ev_70 => ?_)
          have tv_70 := k_l2i y_54
          rw [← ev_70] at tv_70
          refine va_calli (va_runV (As := [.int v_70]) (rest := []) ⟨hx, hb, hml, hown, hts⟩ (c_X12_tell l dC dI g A hG f_55 h0 v_70 (0 : Int32) z1 w10_28 z12 z13 z14 z15 z16 z17 z18 z23 z24 z25 z26 i_h0 k_66 (by first | omega | (simp only [k_c0]; omega)) (by first | omega | (simp only [k_c0]; omega)) (by first | omega | (simp only [k_c0]; omega))) (cwV 1 hts (gi_V (fun w_ h0_ => ⟨List.mem_cons_of_mem _ (List.mem_append_right _ (List.mem_append_right _ (List.mem_append_right _ (List.mem_append_right _ (List.mem_append_right _ (List.mem_append_right _ (List.mem_append_right _ (List.mem_append_right _ (List.mem_append_right _ (List.mem_append_left _ h0_)))))))))), (tb_c_X12_tell w_ h0_).2⟩) (List.mem_cons_of_mem _ (List.mem_append_left _ (List.mem_of_getElem? (i := 23) rfl))) (List.mem_cons_of_mem _ (List.mem_append_left _ (List.mem_of_getElem? (i := 24) rfl))) (List.mem_cons_of_mem _ (List.mem_append_left _ (List.mem_of_getElem? (i := 25) rfl))) (List.mem_cons_of_mem _ (List.mem_append_left _ (List.mem_of_getElem? (i := 4) rfl)))) rfl rfl rfl (by decide +kernel) ⟨Nat.le_of_ble_eq_true rfl, Nat.le_of_ble_eq_true rfl⟩) ⟨fun a U g mk q => ⟨q.1, q.2.calling rfl rfl⟩, k_recv hK hI i_h0.1 k_66 (ci := 12) rfl, fun U hU hW => ⟨rfl, kIn.of hI hK hE hS hU hW⟩⟩ rfl rfl hl.1 rfl (lv_room (Nat.le_of_ble_eq_true rfl)) dX12_wish_120 ⟨Nat.le_of_ble_eq_true rfl, Nat.le_of_ble_eq_true rfl⟩) hS (fun q _ h => h) (fun q h => h) (fun r_73 u9 t H1 locs ht hvm w_72 hB hz1 hk1 hS => ?_)
          obtain ⟨f_71, hI, kc_74, k_75⟩ := hB
          rw [ht] at hI
          have k_76 : f_71 (gr g h0 7) = .inl (gc g 1, 1812, .inr (.inl im)) := Kp.at kc_74 i_4 (by decide) k_64
          have k_77 : f_71 (gr g h0 8) = .inl (gc g 3, 2, .inl kt) := Kp.at kc_74 i_5 (by decide) k_65
          have k_78 : f_71 (gr g h0 5) = .inl (gc g 1, 9060, .inr (.inl u1_29)) := Kp.at kc_74 i_3 (by decide) k_67
          have k_79 : f_71 (gr g h0 4) = .inl (gc g 1, 906, .inr (.inl q1_58)) := Kp.at kc_74 i_1 (by decide) k_59
          have k_75 : f_71 h0 = .inr (12, [.int (0 : Int32), .int 0, .ref (gr g h0 2), .ref (gr g h0 3), .ref (gr g h0 4), .ref (gr g h0 5), .ref (gr g h0 6), .ref (gr g h0 7), .ref (gr g h0 8), .ref (gr g h0 9), .int w10_28, .ref (gr g h0 11), .int z12, .int z13, .int z14, .int z15, .long z16, .int z17, .int z18, .ref (gr g h0 19), .ref (gr g h0 20), .ref (gr g h0 21), .ref (gr g h0 22), .int z23, .long z24, .long z25, .long z26]) := k_75
          have kp_80 := Kp.call kp_69 kc_74 (by decide)
          generalize H1 = H at hI hS ⊢
          refine W.widen (k := 0) (n := 0) (Nat.le_of_ble_eq_true rfl) (Nat.le_of_ble_eq_true rfl) ?_
          have w_72 : r_73.toInt = v_70.toInt := w_72
          exact W.iret (v := r_73) hx hb hr (fun t ht hW => ⟨⟨r_73, (), rfl, trivial, ⟨f_71, k_ret ht hI, kp_80, (0 : Int32), 0, w10_28, z12, z13, z14, z15, z16, z17, z18, z23, z24, z25, z26, q1_58, u1_29, im, kt, k_75, (by first | omega | decide), (by first | omega | decide), (by first | omega | decide), k_79, z_60, k_78, k_76, k_77, z_33⟩⟩, hS.F ht⟩) hS.2.2 dX12_wish_123
        refine lv_if_ge (tgt := 90) hx hb dX12_wish_83 (by decide) (fun c_81 => ?_) (fun c_81 => ?_)
        · have c_81 := lc_le (by decide : Int64.toInt 1 = 1) rfl ((lg_cmp_ge _ _).mp c_81)
          refine lv_lload hx hb dX12_wish_90 (lv_at hl 0 rfl) ?_
          refine lv_ldc2 hx hb hown (hts (.constantLong RX12 137 (20)) (List.mem_cons_of_mem _ (List.mem_append_left _ (List.mem_of_getElem? (i := 26) rfl)))) dX12_wish_92 ?_
          refine W.lcmp hx hb dX12_wish_95 ?_
          refine lv_if_le (tgt := 105) hx hb dX12_wish_96 (by decide) (fun c_82 => ?_) (fun c_82 => ?_)
          · have c_82 := lc_le rfl (by decide : Int64.toInt 20 = 20) ((lg_cmp_le _ _).mp c_82)
            refine lv_lload hx hb dX12_wish_105 (lv_at hl 0 rfl) ?_
            exact J_107 v_53 _ _ _ hI hS  (lv_sub hl [0, 1, 2, 3, 4] rfl)
          · have c_82 := ln_le rfl (by decide : Int64.toInt 20 = 20) (fun h9 => c_82 ((lg_cmp_le _ _).mpr h9))
            refine lv_ldc2 hx hb hown (hts (.constantLong RX12 137 (20)) (List.mem_cons_of_mem _ (List.mem_append_left _ (List.mem_of_getElem? (i := 26) rfl)))) dX12_wish_99 ?_
            refine lv_goto (tgt := 107) hx hb dX12_wish_102 (by decide) ?_
            exact J_107 20 _ _ _ hI hS  (lv_sub hl [0, 1, 2, 3, 4] rfl)
        · have c_81 := ln_le (by decide : Int64.toInt 1 = 1) rfl (fun h9 => c_81 ((lg_cmp_ge _ _).mpr h9))
          refine lv_lconst (v := 1) hx hb dX12_wish_86 (by decide) ?_
          refine lv_goto (tgt := 107) hx hb dX12_wish_87 (by decide) ?_
          exact J_107 1 _ _ _ hI hS  (lv_sub hl [0, 1, 2, 3, 4] rfl)
      refine lv_if_eq (tgt := 60) hx hb dX12_wish_53 (by decide) (fun c_83 => ?_) (fun c_83 => ?_)
      · have c_83 := kc_eq rfl (by decide : Int32.toInt 0 = 0) c_83
        refine lv_aload_n hx hb dX12_wish_60 rfl (lv_at hl 0 rfl) ?_
        refine lv_iload_n hx hb dX12_wish_61 rfl (lv_at hl 1 rfl) ?_
        refine k_topi (y := nI m_40) em_40 ?_
        refine va_calll (va_runV (As := [.int (nI m_40)]) (rest := [.long r_39]) ⟨hx, hb, hml, hown, hts⟩ (c_X12_weight l dC dI g A hG f_25 h0 m_40 q i_h0 k_34 hc1_ok (by first | omega | decide | (simp only [k_c0, k_c1, k_cm1] <;> omega))) (cwV 1 hts (gi_V (fun w_ h0_ => ⟨List.mem_cons_of_mem _ (List.mem_append_right _ (List.mem_append_right _ (List.mem_append_right _ (List.mem_append_right _ (List.mem_append_right _ (List.mem_append_right _ (List.mem_append_right _ (List.mem_append_left _ h0_)))))))), (tb_c_X12_weight w_ h0_).2⟩) (List.mem_cons_of_mem _ (List.mem_append_left _ (List.mem_of_getElem? (i := 17) rfl))) (List.mem_cons_of_mem _ (List.mem_append_left _ (List.mem_of_getElem? (i := 18) rfl))) (List.mem_cons_of_mem _ (List.mem_append_left _ (List.mem_of_getElem? (i := 19) rfl))) (List.mem_cons_of_mem _ (List.mem_append_left _ (List.mem_of_getElem? (i := 4) rfl)))) rfl rfl rfl (by decide +kernel) ⟨Nat.le_of_ble_eq_true rfl, Nat.le_of_ble_eq_true rfl⟩) ⟨fun a U g mk q => ⟨q.1, q.2.calling rfl rfl⟩, k_recv hK hI i_h0.1 k_30 (ci := 12) rfl, fun U hU hW => ⟨rfl, kIn.of hI hK hE hS hU hW⟩⟩ rfl rfl hl.1 rfl (lv_room (Nat.le_of_ble_eq_true rfl)) dX12_wish_62 ⟨Nat.le_of_ble_eq_true rfl, Nat.le_of_ble_eq_true rfl⟩) hS (fun q _ h => h) (fun q h => h) (fun r_85 u9 t H1 locs ht hvm w_84 hB hz1 hk1 hS => ?_)
        have hI : Iv dC dI g A f_25 t.heap := hB
        rw [ht] at hI
        generalize H1 = H at hI hS ⊢
        refine W.widen (k := 0) (n := 0) (Nat.le_of_ble_eq_true rfl) (Nat.le_of_ble_eq_true rfl) ?_
        have w_84 : r_85 = q (6 + 43 * m_40) := w_84
        refine k_topl (y := q (6 + 43 * m_40)) w_84 ?_
        have d_86 := rk_0 hc1_ok (t := m_40) (by omega)
        exact J_65 (q (6 + 43 * m_40)) _ _ _ hI hS (by first | omega | decide | exact Or.inl (by decide)) (lv_sub hl [0, 1, 2] rfl)
      · have c_83 := kn_eq rfl (by decide : Int32.toInt 0 = 0) c_83
        have d_87 := w_38.2.2 m_40 (by omega) (by omega)
        refine lv_lconst (v := 0) hx hb dX12_wish_56 (by decide) ?_
        refine lv_goto (tgt := 65) hx hb dX12_wish_57 (by decide) ?_
        exact J_65 0 _ _ _ hI hS (by first | omega | decide | exact Or.inl (by decide) | (simp only [show Int64.toInt 0 = 0 from by decide] <;> omega)) (lv_sub hl [0, 1, 2] rfl)
    · have c_24 := kc_eq rfl (by decide : Int32.toInt 0 = 0) c_24
      refine lv_aload_n hx hb dX12_wish_31 rfl (lv_at hl 0 rfl) ?_
      refine lv_bipush (v := (-2)) hx hb dX12_wish_32 (by decide) ?_
      refine va_calli (va_runV (As := [.int (-2)]) (rest := []) ⟨hx, hb, hml, hown, hts⟩ (c_X12_refuse l dC dI g A hG f_6 h0 (-2) 0 z1 z10 z12 z13 z14 z15 z16 z17 z18 z23 z24 z25 z26 i_h0 k_9 (by first | omega | (simp only [k_c0]; omega)) (by first | omega | (simp only [k_c0]; omega)) (by first | omega | (simp only [k_c0]; omega)) (by first | omega | decide | (simp only [show Int32.toInt (-2) = (-2) from by decide] <;> omega))) (cwV 1 hts (gi_V (fun w_ h0_ => ⟨List.mem_cons_of_mem _ (List.mem_append_right _ (List.mem_append_right _ (List.mem_append_right _ (List.mem_append_right _ (List.mem_append_right _ (List.mem_append_right _ (List.mem_append_right _ (List.mem_append_right _ (List.mem_append_right _ (List.mem_append_right _ (List.mem_append_left _ h0_))))))))))), (tb_c_X12_refuse w_ h0_).2⟩) (List.mem_cons_of_mem _ (List.mem_append_left _ (List.mem_of_getElem? (i := 27) rfl))) (List.mem_cons_of_mem _ (List.mem_append_left _ (List.mem_of_getElem? (i := 28) rfl))) (List.mem_cons_of_mem _ (List.mem_append_left _ (List.mem_of_getElem? (i := 29) rfl))) (List.mem_cons_of_mem _ (List.mem_append_left _ (List.mem_of_getElem? (i := 4) rfl)))) rfl rfl rfl (by decide +kernel) ⟨Nat.le_of_ble_eq_true rfl, Nat.le_of_ble_eq_true rfl⟩) ⟨fun a U g mk q => ⟨q.1, q.2.calling rfl rfl⟩, k_recv hK hI i_h0.1 k_9 (ci := 12) rfl, fun U hU hW => ⟨rfl, kIn.of hI hK hE hS hU hW⟩⟩ rfl rfl hl.1 rfl (lv_room (Nat.le_of_ble_eq_true rfl)) dX12_wish_34 ⟨Nat.le_of_ble_eq_true rfl, Nat.le_of_ble_eq_true rfl⟩) hS (fun q _ h => h) (fun q h => h) (fun r_90 u9 t H1 locs ht hvm w_89 hB hz1 hk1 hS => ?_)
      obtain ⟨f_88, hI, kc_91, k_92⟩ := hB
      rw [ht] at hI
      have k_93 : f_88 (gr g h0 4) = .inl (gc g 1, 906, .inr (.inl q)) := Kp.at kc_91 i_1 (by decide) k_10
      have k_94 : f_88 (gr g h0 5) = .inl (gc g 1, 9060, .inr (.inl u)) := Kp.at kc_91 i_3 (by decide) k_11
      have k_95 : f_88 (gr g h0 7) = .inl (gc g 1, 1812, .inr (.inl im)) := Kp.at kc_91 i_4 (by decide) k_12
      have k_96 : f_88 (gr g h0 8) = .inl (gc g 3, 2, .inl kt) := Kp.at kc_91 i_5 (by decide) k_13
      have k_92 : f_88 h0 = .inr (12, [.int (0 : Int32), .int (-2 : Int32), .ref (gr g h0 2), .ref (gr g h0 3), .ref (gr g h0 4), .ref (gr g h0 5), .ref (gr g h0 6), .ref (gr g h0 7), .ref (gr g h0 8), .ref (gr g h0 9), .int z10, .ref (gr g h0 11), .int z12, .int z13, .int z14, .int z15, .long z16, .int z17, .int z18, .ref (gr g h0 19), .ref (gr g h0 20), .ref (gr g h0 21), .ref (gr g h0 22), .int z23, .long z24, .long z25, .long z26]) := k_92
      have kp_97 := Kp.call kp_8 kc_91 (by decide)
      generalize H1 = H at hI hS ⊢
      refine W.widen (k := 0) (n := 0) (Nat.le_of_ble_eq_true rfl) (Nat.le_of_ble_eq_true rfl) ?_
      have w_89 : r_90.toInt = (-2 : Int32).toInt := w_89
      have g_98 : Int32.toInt ((-2)) = (-2) := by decide
      exact W.iret (v := r_90) hx hb hr (fun t ht hW => ⟨⟨r_90, (), rfl, trivial, ⟨f_88, k_ret ht hI, kp_97, (0 : Int32), (-2 : Int32), z10, z12, z13, z14, z15, z16, z17, z18, z23, z24, z25, z26, q, u, im, kt, k_92, (by first | omega | decide), (by first | omega | decide), (by first | omega | decide), k_93, hc1_ok, k_94, k_95, k_96, hU⟩⟩, hS.F ht⟩) hS.2.2 dX12_wish_37
  · have c_21 := kc_eq rfl (by decide : Int32.toInt 0 = 0) c_21
    refine lv_aload_n hx hb dX12_wish_17 rfl (lv_at hl 0 rfl) ?_
    refine lv_iconst (v := (-1)) hx hb dX12_wish_18 (by decide) ?_
    refine va_calli (va_runV (As := [.int (-1)]) (rest := []) ⟨hx, hb, hml, hown, hts⟩ (c_X12_refuse l dC dI g A hG f_6 h0 (-1) 0 z1 z10 z12 z13 z14 z15 z16 z17 z18 z23 z24 z25 z26 i_h0 k_9 (by first | omega | (simp only [k_c0]; omega)) (by first | omega | (simp only [k_c0]; omega)) (by first | omega | (simp only [k_c0]; omega)) (by first | omega | decide | (simp only [show Int32.toInt (-1) = (-1) from by decide] <;> omega))) (cwV 1 hts (gi_V (fun w_ h0_ => ⟨List.mem_cons_of_mem _ (List.mem_append_right _ (List.mem_append_right _ (List.mem_append_right _ (List.mem_append_right _ (List.mem_append_right _ (List.mem_append_right _ (List.mem_append_right _ (List.mem_append_right _ (List.mem_append_right _ (List.mem_append_right _ (List.mem_append_left _ h0_))))))))))), (tb_c_X12_refuse w_ h0_).2⟩) (List.mem_cons_of_mem _ (List.mem_append_left _ (List.mem_of_getElem? (i := 27) rfl))) (List.mem_cons_of_mem _ (List.mem_append_left _ (List.mem_of_getElem? (i := 28) rfl))) (List.mem_cons_of_mem _ (List.mem_append_left _ (List.mem_of_getElem? (i := 29) rfl))) (List.mem_cons_of_mem _ (List.mem_append_left _ (List.mem_of_getElem? (i := 4) rfl)))) rfl rfl rfl (by decide +kernel) ⟨Nat.le_of_ble_eq_true rfl, Nat.le_of_ble_eq_true rfl⟩) ⟨fun a U g mk q => ⟨q.1, q.2.calling rfl rfl⟩, k_recv hK hI i_h0.1 k_9 (ci := 12) rfl, fun U hU hW => ⟨rfl, kIn.of hI hK hE hS hU hW⟩⟩ rfl rfl hl.1 rfl (lv_room (Nat.le_of_ble_eq_true rfl)) dX12_wish_19 ⟨Nat.le_of_ble_eq_true rfl, Nat.le_of_ble_eq_true rfl⟩) hS (fun q _ h => h) (fun q h => h) (fun r_101 u9 t H1 locs ht hvm w_100 hB hz1 hk1 hS => ?_)
    obtain ⟨f_99, hI, kc_102, k_103⟩ := hB
    rw [ht] at hI
    have k_104 : f_99 (gr g h0 4) = .inl (gc g 1, 906, .inr (.inl q)) := Kp.at kc_102 i_1 (by decide) k_10
    have k_105 : f_99 (gr g h0 5) = .inl (gc g 1, 9060, .inr (.inl u)) := Kp.at kc_102 i_3 (by decide) k_11
    have k_106 : f_99 (gr g h0 7) = .inl (gc g 1, 1812, .inr (.inl im)) := Kp.at kc_102 i_4 (by decide) k_12
    have k_107 : f_99 (gr g h0 8) = .inl (gc g 3, 2, .inl kt) := Kp.at kc_102 i_5 (by decide) k_13
    have k_103 : f_99 h0 = .inr (12, [.int (0 : Int32), .int (-1 : Int32), .ref (gr g h0 2), .ref (gr g h0 3), .ref (gr g h0 4), .ref (gr g h0 5), .ref (gr g h0 6), .ref (gr g h0 7), .ref (gr g h0 8), .ref (gr g h0 9), .int z10, .ref (gr g h0 11), .int z12, .int z13, .int z14, .int z15, .long z16, .int z17, .int z18, .ref (gr g h0 19), .ref (gr g h0 20), .ref (gr g h0 21), .ref (gr g h0 22), .int z23, .long z24, .long z25, .long z26]) := k_103
    have kp_108 := Kp.call kp_8 kc_102 (by decide)
    generalize H1 = H at hI hS ⊢
    refine W.widen (k := 0) (n := 0) (Nat.le_of_ble_eq_true rfl) (Nat.le_of_ble_eq_true rfl) ?_
    have w_100 : r_101.toInt = (-1 : Int32).toInt := w_100
    have g_109 : Int32.toInt ((-1)) = (-1) := by decide
    exact W.iret (v := r_101) hx hb hr (fun t ht hW => ⟨⟨r_101, (), rfl, trivial, ⟨f_99, k_ret ht hI, kp_108, (0 : Int32), (-1 : Int32), z10, z12, z13, z14, z15, z16, z17, z18, z23, z24, z25, z26, q, u, im, kt, k_103, (by first | omega | decide), (by first | omega | decide), (by first | omega | decide), k_104, hc1_ok, k_105, k_106, k_107, hU⟩⟩, hS.F ht⟩) hS.2.2 dX12_wish_22
theorem tw_974 : q_g (.code yX12_yields cX12_yields 4 (some .int)) := ⟨(List.mem_append_right _ (List.mem_of_getElem? (i := 1315) (by decide +kernel))), good_of_word (by decide +kernel)⟩
def ow_c_X12_yields : List Cond := [.fieldLink RX12 67 "DeadlineShareModel" "thrown" "I", .methodLink RX12 142 yX12_isTask, .instanceMethod yX12_isTask, .selects RX12 yX12_isTask yX12_isTask, .initialized RX12, .methodLink RX12 90 yX12_isOn, .instanceMethod yX12_isOn, .selects RX12 yX12_isOn yX12_isOn, .methodLink RX12 139 yX12_remember, .instanceMethod yX12_remember, .selects RX12 yX12_remember yX12_remember, .methodLink RX12 87 yX12_at, .static yX12_at, .fieldLink RX12 16 "DeadlineShareModel" "row" "[J", .methodLink RX12 167 yX12_deadline, .instanceMethod yX12_deadline, .selects RX12 yX12_deadline yX12_deadline, .methodLink RX12 80 yX12_tell, .instanceMethod yX12_tell, .selects RX12 yX12_tell yX12_tell, .constantLong RX12 65 (-1), .methodLink RX12 76 yX12_refuse, .instanceMethod yX12_refuse, .selects RX12 yX12_refuse yX12_refuse]
def wq_c_X12_yields : List Cond := .code yX12_yields cX12_yields 4 (some .int) :: (ow_c_X12_yields ++ (u_ws RX12 TX12 27 ++ (wq_c_X12_isTask ++ (wq_c_X12_isOn ++ (wq_c_X12_remember ++ (wq_c_X12_at ++ (wq_c_X12_deadline ++ (wq_c_X12_tell ++ (wq_c_X12_refuse ++ ([] : List Cond))))))))))
theorem tb_c_X12_yields : ∀ w ∈ wq_c_X12_yields, q_g w := by
  unfold wq_c_X12_yields ow_c_X12_yields
  exact q_cons tw_974 (q_app (q_cons tw_927 (q_cons tw_951 (q_cons tw_950 (q_cons tw_949 (q_cons tw_728 (q_cons tw_744 (q_cons tw_743 (q_cons tw_742 (q_cons tw_963 (q_cons tw_962 (q_cons tw_961 (q_cons tw_734 (q_cons tw_733 (q_cons tw_731 (q_cons tw_782 (q_cons tw_781 (q_cons tw_780 (q_cons tw_960 (q_cons tw_959 (q_cons tw_958 (q_cons tw_773 (q_cons tw_966 (q_cons tw_965 (q_cons tw_964 q_nil)))))))))))))))))))))))) (q_app tu_X12 (q_app tb_c_X12_isTask (q_app tb_c_X12_isOn (q_app tb_c_X12_remember (q_app tb_c_X12_at (q_app tb_c_X12_deadline (q_app tb_c_X12_tell (q_app tb_c_X12_refuse q_nil)))))))))
set_option maxHeartbeats 4000000 in
set_option maxRecDepth 100000 in
theorem c_X12_yields (l : Launch) (dC : Nat → ClassId) (dI : Nat → Nat → Nat) (g : kG) (A : Nat → Prop) (hG : kWf g) (f : Nat → va_E) (h0 : Nat) (p1 : Int32) (z0 : Int32) (z1 : Int32) (z10 : Int32) (z12 : Int32) (z13 : Int32) (z14 : Int32) (z15 : Int32) (z16 : Int64) (z17 : Int32) (z18 : Int32) (z23 : Int32) (z24 : Int64) (z25 : Int64) (z26 : Int64) (q : Nat → Int64) (u : Nat → Int64) (im : Nat → Int64) (kt : Nat → Int32) (i_h0 : ik g 12 h0) (hc0 : f h0 = .inr (12, [.int z0, .int z1, .ref (gr g h0 2), .ref (gr g h0 3), .ref (gr g h0 4), .ref (gr g h0 5), .ref (gr g h0 6), .ref (gr g h0 7), .ref (gr g h0 8), .ref (gr g h0 9), .int z10, .ref (gr g h0 11), .int z12, .int z13, .int z14, .int z15, .long z16, .int z17, .int z18, .ref (gr g h0 19), .ref (gr g h0 20), .ref (gr g h0 21), .ref (gr g h0 22), .int z23, .long z24, .long z25, .long z26])) (hc0_10 : 0 ≤ z10.toInt ∧ z10.toInt ≤ 10) (hc0_12 : 0 ≤ z12.toInt ∧ z12.toInt ≤ 200) (hc0_23 : 0 ≤ z23.toInt ∧ z23.toInt ≤ 8) (hc1 : f (gr g h0 4) = .inl (gc g 1, 906, .inr (.inl q))) (hc1_ok : RowOK q) (hc2 : f (gr g h0 5) = .inl (gc g 1, 9060, .inr (.inl u))) (hc3 : f (gr g h0 7) = .inl (gc g 1, 1812, .inr (.inl im))) (hc4 : f (gr g h0 8) = .inl (gc g 3, 2, .inl kt)) (hU : UIq z10 u im kt) : Met l yX12_yields wq_c_X12_yields ({ frames := 3, cells := 0, slots := 0, locals := 62 } : Room) (va_Pc [.ref h0, .int p1] (fun U => kIn dC dI g A f U)) (va_Qi (fun (r : Int32) (_ : Unit) => True) (fun (_ : Unit) t => ∃ f1 : Nat → va_E, Iv dC dI g A f1 t.heap ∧ Kp g [12, 30, 32, 33, 37] f f1 ∧ ∃ (w0 : Int32) (w1 : Int32) (w10 : Int32) (w12 : Int32) (w13 : Int32) (w14 : Int32) (w15 : Int32) (w16 : Int64) (w17 : Int32) (w18 : Int32) (w23 : Int32) (w24 : Int64) (w25 : Int64) (w26 : Int64) (q1 : Nat → Int64) (u1 : Nat → Int64) (im1 : Nat → Int64) (ik1 : Nat → Int32), (f1 h0 = .inr (12, [.int w0, .int w1, .ref (gr g h0 2), .ref (gr g h0 3), .ref (gr g h0 4), .ref (gr g h0 5), .ref (gr g h0 6), .ref (gr g h0 7), .ref (gr g h0 8), .ref (gr g h0 9), .int w10, .ref (gr g h0 11), .int w12, .int w13, .int w14, .int w15, .long w16, .int w17, .int w18, .ref (gr g h0 19), .ref (gr g h0 20), .ref (gr g h0 21), .ref (gr g h0 22), .int w23, .long w24, .long w25, .long w26])) ∧ (0 ≤ w10.toInt ∧ w10.toInt ≤ 10) ∧ (0 ≤ w12.toInt ∧ w12.toInt ≤ 200) ∧ (0 ≤ w23.toInt ∧ w23.toInt ≤ 8) ∧ (f1 (gr g h0 4) = .inl (gc g 1, 906, .inr (.inl q1))) ∧ (RowOK q1) ∧ (f1 (gr g h0 5) = .inl (gc g 1, 9060, .inr (.inl u1))) ∧ (f1 (gr g h0 7) = .inl (gc g 1, 1812, .inr (.inl im1))) ∧ (f1 (gr g h0 8) = .inl (gc g 3, 2, .inl ik1)) ∧ (UIq w10 u1 im1 ik1)) A) 0 0 A := by
  refine Met.ofW (cc := cX12_yields) (maxL := 4) (ret := (some .int)) (by decide) rfl ?_
  intro p e s m args below meth c s₁ B hml hv
  obtain ⟨rfl, hI, hK, hE⟩ := hv
  have hx := B.exec
  have hb := B.bytes
  have hr := B.returns
  have hts := atoms_spec (ws := wq_c_X12_yields) B.pre
  have hown : s.vm.findClass RX12 = some m.cls := findClass_of_methodNamed B.named
  have hlocks := B.notSynchronized
  have hS : va_S A s.heap s.heap [] := va_S.rf
  have hk0 : Kp g [12, 30, 32, 33, 37] f f := Kp.rf
  have hl := lv_entry ([.ref h0, .int p1]) (n := 4) (Nat.le_of_ble_eq_true rfl)
  rw [lg_entry_eq]
  generalize (lg_sl ([.ref h0, .int p1]) ++ List.replicate (4 - (lg_sl ([.ref h0, .int p1])).length) Slot.unset).toArray = ls at hl ⊢
  have hl : lv_has ls 4 [(0, .ref h0), (1, .int p1)] := hl
  have i_1 := kw_12_4 hG i_h0
  have d_2 := rk_hd hc1_ok
  have i_3 := kw_12_5 hG i_h0
  have i_4 := kw_12_7 hG i_h0
  have i_5 := kw_12_8 hG i_h0
  refine lv_aload_n hx hb dX12_yields_0 rfl (lv_at hl 0 rfl) ?_
  refine lv_iconst (v := 0) hx hb dX12_yields_1 (by decide) ?_
  refine k_put (ci := 12) (v := .int 0) (ty := .int) (C := RX12) (T := TX12) (N := 27) hx hb hts (fun _ h0_ => List.mem_cons_of_mem _ (List.mem_append_right _ (List.mem_append_left _ h0_))) tyX12 tyX12_ok nmX12 hown hK hI hS i_h0.1 hc0 rfl 0 (by decide) (hts (.fieldLink RX12 67 "DeadlineShareModel" "thrown" "I") (List.mem_cons_of_mem _ (List.mem_append_left _ (List.mem_of_getElem? (i := 0) rfl)))) (fun _ h9 => h9) rfl (by decide +kernel) rfl rfl (Nat.le_of_ble_eq_true rfl) rfl (cl_12 i_h0 (by omega) (by omega) (by omega)) dX12_yields_2 (fun f_6 H locs e_7 hI hS => ?_)
  have k_9 : f_6 h0 = .inr (12, [.int 0, .int z1, .ref (gr g h0 2), .ref (gr g h0 3), .ref (gr g h0 4), .ref (gr g h0 5), .ref (gr g h0 6), .ref (gr g h0 7), .ref (gr g h0 8), .ref (gr g h0 9), .int z10, .ref (gr g h0 11), .int z12, .int z13, .int z14, .int z15, .long z16, .int z17, .int z18, .ref (gr g h0 19), .ref (gr g h0 20), .ref (gr g h0 21), .ref (gr g h0 22), .int z23, .long z24, .long z25, .long z26]) := by rw [e_7]; exact va_up_self _ _ _
  have k_10 : f_6 (gr g h0 4) = .inl (gc g 1, 906, .inr (.inl q)) := by rw [e_7, va_up_ne _ _ (ik_ne i_1 i_h0 (by decide))]; exact hc1
  have k_11 : f_6 (gr g h0 5) = .inl (gc g 1, 9060, .inr (.inl u)) := by rw [e_7, va_up_ne _ _ (ik_ne i_3 i_h0 (by decide))]; exact hc2
  have k_12 : f_6 (gr g h0 7) = .inl (gc g 1, 1812, .inr (.inl im)) := by rw [e_7, va_up_ne _ _ (ik_ne i_4 i_h0 (by decide))]; exact hc3
  have k_13 : f_6 (gr g h0 8) = .inl (gc g 3, 2, .inl kt) := by rw [e_7, va_up_ne _ _ (ik_ne i_5 i_h0 (by decide))]; exact hc4
  have kp_8 := Kp.put hk0 i_h0 (by decide) e_7
  refine lv_aload_n hx hb dX12_yields_5 rfl (lv_at hl 0 rfl) ?_
  refine lv_iload_n hx hb dX12_yields_6 rfl (lv_at hl 1 rfl) ?_
  refine va_calli (va_runV (As := [.int p1]) (rest := []) ⟨hx, hb, hml, hown, hts⟩ (c_X12_isTask l dC dI g A hG f_6 h0 p1 q i_h0 k_10 hc1_ok) (cwV 1 hts (gi_V (fun w_ h0_ => ⟨List.mem_cons_of_mem _ (List.mem_append_right _ (List.mem_append_right _ (List.mem_append_left _ h0_))), (tb_c_X12_isTask w_ h0_).2⟩) (List.mem_cons_of_mem _ (List.mem_append_left _ (List.mem_of_getElem? (i := 1) rfl))) (List.mem_cons_of_mem _ (List.mem_append_left _ (List.mem_of_getElem? (i := 2) rfl))) (List.mem_cons_of_mem _ (List.mem_append_left _ (List.mem_of_getElem? (i := 3) rfl))) (List.mem_cons_of_mem _ (List.mem_append_left _ (List.mem_of_getElem? (i := 4) rfl)))) rfl rfl rfl (by decide +kernel) ⟨Nat.le_of_ble_eq_true rfl, Nat.le_of_ble_eq_true rfl⟩) ⟨fun a U g mk q => ⟨q.1, q.2.calling rfl rfl⟩, k_recv hK hI i_h0.1 k_9 (ci := 12) rfl, fun U hU hW => ⟨rfl, kIn.of hI hK hE hS hU hW⟩⟩ rfl rfl hl.1 rfl (lv_room (Nat.le_of_ble_eq_true rfl)) dX12_yields_7 ⟨Nat.le_of_ble_eq_true rfl, Nat.le_of_ble_eq_true rfl⟩) hS (fun q _ h => h) (fun q h => h) (fun r_15 u9 t H1 locs ht hvm w_14 hB hz1 hk1 hS => ?_)
  have hI : Iv dC dI g A f_6 t.heap := hB
  rw [ht] at hI
  generalize H1 = H at hI hS ⊢
  refine W.widen (k := 0) (n := 0) (Nat.le_of_ble_eq_true rfl) (Nat.le_of_ble_eq_true rfl) ?_
  have w_14 : (r_15.toInt = 0 ∨ r_15.toInt = 1) ∧ (r_15.toInt = 0 ∨ (0 ≤ p1.toInt ∧ p1.toInt < (q 0).toInt)) := w_14
  refine lv_if_ne (tgt := 20) hx hb dX12_yields_10 (by decide) (fun c_16 => ?_) (fun c_16 => ?_)
  · have c_16 := kn_eq rfl (by decide : Int32.toInt 0 = 0) c_16
    refine lv_aload_n hx hb dX12_yields_20 rfl (lv_at hl 0 rfl) ?_
    obtain ⟨m_17, em_17, tm_17⟩ := k_nat (x := p1) (by omega)
    refine lv_iload_n hx hb dX12_yields_21 rfl (lv_at hl 1 rfl) ?_
    refine k_topi (y := nI m_17) em_17 ?_
    refine va_calli (va_runV (As := [.int (nI m_17)]) (rest := []) ⟨hx, hb, hml, hown, hts⟩ (c_X12_isOn l dC dI g A hG f_6 h0 m_17 q i_h0 k_10 hc1_ok (by first | omega | decide | (simp only [k_c0, k_c1, k_cm1] <;> omega))) (cwV 1 hts (gi_V (fun w_ h0_ => ⟨List.mem_cons_of_mem _ (List.mem_append_right _ (List.mem_append_right _ (List.mem_append_right _ (List.mem_append_left _ h0_)))), (tb_c_X12_isOn w_ h0_).2⟩) (List.mem_cons_of_mem _ (List.mem_append_left _ (List.mem_of_getElem? (i := 5) rfl))) (List.mem_cons_of_mem _ (List.mem_append_left _ (List.mem_of_getElem? (i := 6) rfl))) (List.mem_cons_of_mem _ (List.mem_append_left _ (List.mem_of_getElem? (i := 7) rfl))) (List.mem_cons_of_mem _ (List.mem_append_left _ (List.mem_of_getElem? (i := 4) rfl)))) rfl rfl rfl (by decide +kernel) ⟨Nat.le_of_ble_eq_true rfl, Nat.le_of_ble_eq_true rfl⟩) ⟨fun a U g mk q => ⟨q.1, q.2.calling rfl rfl⟩, k_recv hK hI i_h0.1 k_9 (ci := 12) rfl, fun U hU hW => ⟨rfl, kIn.of hI hK hE hS hU hW⟩⟩ rfl rfl hl.1 rfl (lv_room (Nat.le_of_ble_eq_true rfl)) dX12_yields_22 ⟨Nat.le_of_ble_eq_true rfl, Nat.le_of_ble_eq_true rfl⟩) hS (fun q _ h => h) (fun q h => h) (fun r_19 u9 t H1 locs ht hvm w_18 hB hz1 hk1 hS => ?_)
    have hI : Iv dC dI g A f_6 t.heap := hB
    rw [ht] at hI
    generalize H1 = H at hI hS ⊢
    refine W.widen (k := 0) (n := 0) (Nat.le_of_ble_eq_true rfl) (Nat.le_of_ble_eq_true rfl) ?_
    have w_18 : (r_19.toInt = 0 ∧ (q (6 + 43 * m_17 + 2)).toInt ≠ 1) ∨ (r_19.toInt = 1 ∧ (q (6 + 43 * m_17 + 2)).toInt = 1) := w_18
    refine lv_if_ne (tgt := 35) hx hb dX12_yields_25 (by decide) (fun c_20 => ?_) (fun c_20 => ?_)
    · have c_20 := kn_eq rfl (by decide : Int32.toInt 0 = 0) c_20
      refine lv_aload_n hx hb dX12_yields_35 rfl (lv_at hl 0 rfl) ?_
      refine lv_bipush (v := 8) hx hb dX12_yields_36 (by decide) ?_
      refine va_callv (va_runV (As := [.int 8]) (rest := []) ⟨hx, hb, hml, hown, hts⟩ (c_X12_remember l dC dI g A hG f_6 h0 8 0 z1 z10 z12 z13 z14 z15 z16 z17 z18 z23 z24 z25 z26 q u im kt i_h0 k_9 (by first | omega | (simp only [k_c0]; omega)) (by first | omega | (simp only [k_c0]; omega)) (by first | omega | (simp only [k_c0]; omega)) k_10 hc1_ok k_11 k_12 k_13 (by first | omega | decide | (simp only [show Int32.toInt 8 = 8 from by decide] <;> omega))) (cwV 1 hts (gi_V (fun w_ h0_ => ⟨List.mem_cons_of_mem _ (List.mem_append_right _ (List.mem_append_right _ (List.mem_append_right _ (List.mem_append_right _ (List.mem_append_left _ h0_))))), (tb_c_X12_remember w_ h0_).2⟩) (List.mem_cons_of_mem _ (List.mem_append_left _ (List.mem_of_getElem? (i := 8) rfl))) (List.mem_cons_of_mem _ (List.mem_append_left _ (List.mem_of_getElem? (i := 9) rfl))) (List.mem_cons_of_mem _ (List.mem_append_left _ (List.mem_of_getElem? (i := 10) rfl))) (List.mem_cons_of_mem _ (List.mem_append_left _ (List.mem_of_getElem? (i := 4) rfl)))) rfl rfl rfl (by decide +kernel) ⟨Nat.le_of_ble_eq_true rfl, Nat.le_of_ble_eq_true rfl⟩) ⟨fun a U g mk q => ⟨q.1, q.2.calling rfl rfl⟩, k_recv hK hI i_h0.1 k_9 (ci := 12) rfl, fun U hU hW => ⟨rfl, kIn.of hI hK hE hS hU hW⟩⟩ rfl rfl hl.1 rfl (lv_room (Nat.le_of_ble_eq_true rfl)) dX12_yields_38 ⟨Nat.le_of_ble_eq_true rfl, Nat.le_of_ble_eq_true rfl⟩) hS (fun q _ h => h) (fun q h => h) (fun u9 t H1 locs ht hvm _ hB hz1 hk1 hS => ?_)
      obtain ⟨f_21, hI, kc_23, w10_24, u1_25, k_26, z_27, k_28, z_29⟩ := hB
      rw [ht] at hI
      have k_30 : f_21 (gr g h0 4) = .inl (gc g 1, 906, .inr (.inl q)) := Kp.at kc_23 i_1 (by decide) k_10
      have k_31 : f_21 (gr g h0 7) = .inl (gc g 1, 1812, .inr (.inl im)) := Kp.at kc_23 i_4 (by decide) k_12
      have k_32 : f_21 (gr g h0 8) = .inl (gc g 3, 2, .inl kt) := Kp.at kc_23 i_5 (by decide) k_13
      have k_26 : f_21 h0 = .inr (12, [.int (0 : Int32), .int z1, .ref (gr g h0 2), .ref (gr g h0 3), .ref (gr g h0 4), .ref (gr g h0 5), .ref (gr g h0 6), .ref (gr g h0 7), .ref (gr g h0 8), .ref (gr g h0 9), .int w10_24, .ref (gr g h0 11), .int z12, .int z13, .int z14, .int z15, .long z16, .int z17, .int z18, .ref (gr g h0 19), .ref (gr g h0 20), .ref (gr g h0 21), .ref (gr g h0 22), .int z23, .long z24, .long z25, .long z26]) := k_26
      have z_27 : 0 ≤ w10_24.toInt ∧ w10_24.toInt ≤ 10 := z_27
      have z_29 : UIq w10_24 u1_25 im kt := z_29
      have kp_33 := Kp.call kp_8 kc_23 (by decide)
      generalize H1 = H at hI hS ⊢
      refine W.widen (k := 0) (n := 0) (Nat.le_of_ble_eq_true rfl) (Nat.le_of_ble_eq_true rfl) ?_
      refine lv_iload_n hx hb dX12_yields_41 rfl (lv_at hl 1 rfl) ?_
      refine k_topi (y := nI m_17) em_17 ?_
      refine va_calli (va_runS (As := [.int (nI m_17)]) (rest := []) ⟨hx, hb, hml, hown, hts⟩ (c_X12_at l dC dI g A hG f_21 m_17) (va_cwS 1 hts (gi_S (fun w_ h0_ => ⟨List.mem_cons_of_mem _ (List.mem_append_right _ (List.mem_append_right _ (List.mem_append_right _ (List.mem_append_right _ (List.mem_append_right _ (List.mem_append_left _ h0_)))))), (tb_c_X12_at w_ h0_).2⟩) (List.mem_cons_of_mem _ (List.mem_append_left _ (List.mem_of_getElem? (i := 11) rfl))) (List.mem_cons_of_mem _ (List.mem_append_left _ (List.mem_of_getElem? (i := 12) rfl))) (List.mem_cons_of_mem _ (List.mem_append_left _ (List.mem_of_getElem? (i := 4) rfl)))) rfl rfl rfl (by decide +kernel) ⟨Nat.le_of_ble_eq_true rfl, Nat.le_of_ble_eq_true rfl⟩) ⟨fun a U g mk q => ⟨q.1, q.2.calling rfl rfl⟩, fun U hU hW => ⟨rfl, kIn.of hI hK hE hS hU hW⟩⟩ rfl rfl hl.1 rfl (lv_room (Nat.le_of_ble_eq_true rfl)) dX12_yields_42 ⟨Nat.le_of_ble_eq_true rfl, Nat.le_of_ble_eq_true rfl⟩) hS (fun q _ h => h) (fun q h => h) (fun r_35 u9 t H1 locs ht hvm w_34 hB hz1 hk1 hS => ?_)
      have hI : Iv dC dI g A f_21 t.heap := hB
      rw [ht] at hI
      generalize H1 = H at hI hS ⊢
      refine W.widen (k := 0) (n := 0) (Nat.le_of_ble_eq_true rfl) (Nat.le_of_ble_eq_true rfl) ?_
      have w_34 : r_35 = nI (6 + 43 * m_17) := w_34
      refine k_topi (y := nI (6 + 43 * m_17)) w_34 ?_
      refine lv_istore_n (lv' := [(2, .int (nI (6 + 43 * m_17))), (0, .ref h0), (1, .int p1)]) hx hb dX12_yields_45 rfl hl (by decide) rfl (fun ls hl => ?_)
      refine lv_aload_n hx hb dX12_yields_46 rfl (lv_at hl 1 rfl) ?_
      refine k_get (ci := 12) (v := .ref (gr g h0 4)) (C := RX12) (T := TX12) (N := 27) hx hb hts (fun _ h0_ => List.mem_cons_of_mem _ (List.mem_append_right _ (List.mem_append_left _ h0_))) hown hK hI i_h0.1 k_26 rfl 4 (by decide) (hts (.fieldLink RX12 16 "DeadlineShareModel" "row" "[J") (List.mem_cons_of_mem _ (List.mem_append_left _ (List.mem_of_getElem? (i := 13) rfl)))) (fun _ h9 => h9) rfl dX12_yields_47 ?_
      refine lv_iload_n hx hb dX12_yields_50 rfl (lv_at hl 0 rfl) ?_
      refine lv_iconst (v := 3) hx hb dX12_yields_51 (by decide) ?_
      refine lv_iadd hx hb dX12_yields_52 ?_
      refine k_topi (y := nI (6 + 43 * m_17 + 3)) ((nI_add (6 + 43 * m_17) 3).trans (congrArg nI (by omega))) ?_
      refine k_lald hx hb hK hI i_1.1 1 k_30 rfl (vp_in_nI (by omega) (by omega)) dX12_yields_53 ?_
      refine k_topl (y := q (6 + 43 * m_17 + 3)) (congrArg q (nI_clamp (by omega))) ?_
      refine lv_l2i (v := (q (6 + 43 * m_17 + 3)).toInt32) hx hb dX12_yields_54 rfl ?_
      refine lv_topi (fun v_38 ev_38 => ?_)
      have tv_38 := k_l2i (q (6 + 43 * m_17 + 3))
      rw [← ev_38] at tv_38
      refine lv_istore_n (lv' := [(3, .int v_38), (2, .int (nI (6 + 43 * m_17))), (0, .ref h0), (1, .int p1)]) hx hb dX12_yields_55 rfl hl (by decide) rfl (fun ls hl => ?_)
      refine lv_aload_n hx hb dX12_yields_56 rfl (lv_at hl 2 rfl) ?_
      refine k_get (ci := 12) (v := .ref (gr g h0 4)) (C := RX12) (T := TX12) (N := 27) hx hb hts (fun _ h0_ => List.mem_cons_of_mem _ (List.mem_append_right _ (List.mem_append_left _ h0_))) hown hK hI i_h0.1 k_26 rfl 4 (by decide) (hts (.fieldLink RX12 16 "DeadlineShareModel" "row" "[J") (List.mem_cons_of_mem _ (List.mem_append_left _ (List.mem_of_getElem? (i := 13) rfl)))) (fun _ h9 => h9) rfl dX12_yields_57 ?_
      refine lv_iload_n hx hb dX12_yields_60 rfl (lv_at hl 1 rfl) ?_
      refine lv_bipush (v := 10) hx hb dX12_yields_61 (by decide) ?_
      refine lv_iadd hx hb dX12_yields_63 ?_
      refine k_topi (y := nI (6 + 43 * m_17 + 10)) ((nI_add (6 + 43 * m_17) 10).trans (congrArg nI (by omega))) ?_
      refine lv_aload_n hx hb dX12_yields_64 rfl (lv_at hl 2 rfl) ?_
      refine lv_iload_n hx hb dX12_yields_65 rfl (lv_at hl 3 rfl) ?_
      refine k_topi (y := nI m_17) em_17 ?_
      refine va_calll (va_runV (As := [.int (nI m_17)]) (rest := [.int (nI (6 + 43 * m_17 + 10)), .ref (gr g h0 4)]) ⟨hx, hb, hml, hown, hts⟩ (c_X12_deadline l dC dI g A hG f_21 h0 m_17 q i_h0 k_30 hc1_ok (by first | omega | decide | (simp only [k_c0, k_c1, k_cm1] <;> omega))) (cwV 1 hts (gi_V (fun w_ h0_ => ⟨List.mem_cons_of_mem _ (List.mem_append_right _ (List.mem_append_right _ (List.mem_append_right _ (List.mem_append_right _ (List.mem_append_right _ (List.mem_append_right _ (List.mem_append_left _ h0_))))))), (tb_c_X12_deadline w_ h0_).2⟩) (List.mem_cons_of_mem _ (List.mem_append_left _ (List.mem_of_getElem? (i := 14) rfl))) (List.mem_cons_of_mem _ (List.mem_append_left _ (List.mem_of_getElem? (i := 15) rfl))) (List.mem_cons_of_mem _ (List.mem_append_left _ (List.mem_of_getElem? (i := 16) rfl))) (List.mem_cons_of_mem _ (List.mem_append_left _ (List.mem_of_getElem? (i := 4) rfl)))) rfl rfl rfl (by decide +kernel) ⟨Nat.le_of_ble_eq_true rfl, Nat.le_of_ble_eq_true rfl⟩) ⟨fun a U g mk q => ⟨q.1, q.2.calling rfl rfl⟩, k_recv hK hI i_h0.1 k_26 (ci := 12) rfl, fun U hU hW => ⟨rfl, kIn.of hI hK hE hS hU hW⟩⟩ rfl rfl hl.1 rfl (lv_room (Nat.le_of_ble_eq_true rfl)) dX12_yields_66 ⟨Nat.le_of_ble_eq_true rfl, Nat.le_of_ble_eq_true rfl⟩) hS (fun q _ h => h) (fun q h => h) (fun r_42 u9 t H1 locs ht hvm w_41 hB hz1 hk1 hS => ?_)
      have hI : Iv dC dI g A f_21 t.heap := hB
      rw [ht] at hI
      generalize H1 = H at hI hS ⊢
      refine W.widen (k := 0) (n := 0) (Nat.le_of_ble_eq_true rfl) (Nat.le_of_ble_eq_true rfl) ?_
      refine k_last hx hb hK hI hS i_1.1 1 k_30 rfl (vp_in_nI (by omega) (by omega)) (cl_32 i_1) dX12_yields_69 (fun f_43 H locs e_44 hI hS => ?_)
      generalize eq_45 : vp_updL q (Int32.toNatClampNeg (nI (6 + 43 * m_17 + 10))) r_42 = q_45 at e_44
      have k_47 : f_43 (gr g h0 4) = .inl (gc g 1, 906, .inr (.inl q_45)) := by rw [e_44]; exact va_up_self _ _ _
      have k_48 : f_43 (gr g h0 7) = .inl (gc g 1, 1812, .inr (.inl im)) := by rw [e_44, va_up_ne _ _ (ik_ne i_4 i_1 (by decide))]; exact k_31
      have k_49 : f_43 (gr g h0 8) = .inl (gc g 3, 2, .inl kt) := by rw [e_44, va_up_ne _ _ (ik_ne i_5 i_1 (by decide))]; exact k_32
      have k_50 : f_43 h0 = .inr (12, [.int (0 : Int32), .int z1, .ref (gr g h0 2), .ref (gr g h0 3), .ref (gr g h0 4), .ref (gr g h0 5), .ref (gr g h0 6), .ref (gr g h0 7), .ref (gr g h0 8), .ref (gr g h0 9), .int w10_24, .ref (gr g h0 11), .int z12, .int z13, .int z14, .int z15, .long z16, .int z17, .int z18, .ref (gr g h0 19), .ref (gr g h0 20), .ref (gr g h0 21), .ref (gr g h0 22), .int z23, .long z24, .long z25, .long z26]) := by rw [e_44, va_up_ne _ _ (ik_ne i_h0 i_1 (by decide))]; exact k_26
      have k_51 : f_43 (gr g h0 5) = .inl (gc g 1, 9060, .inr (.inl u1_25)) := by rw [e_44, va_up_ne _ _ (ik_ne i_3 i_1 (by decide))]; exact k_28
      have kp_46 := Kp.put kp_33 i_1 (by decide) e_44
      have u_52 : vp_updL q (6 + 43 * m_17 + 10) r_42 = q_45 := by rw [← eq_45, show Int32.toNatClampNeg (nI (6 + 43 * m_17 + 10)) = 6 + 43 * m_17 + 10 from (nI_clamp (by omega))]
      have ok_53 : RowOK q_45 := by rw [← u_52]; exact rk_upd hc1_ok (by refine ⟨⟨by omega, by omega, by omega, by omega, by omega⟩, fun t9 ht9 => ⟨by omega, by omega, by omega, by omega, by omega, by omega⟩, fun t9 k9 ht9 hk9 => ⟨by omega, by omega, by omega⟩, by omega⟩)
      have d_54 := rk_hd ok_53
      have n_55 : (q_45 0).toInt = (q 0).toInt := by rw [← u_52, pk_uLn (by omega)]
      have n_56 : (q_45 1).toInt = (q 1).toInt := by rw [← u_52, pk_uLn (by omega)]
      have n_57 : (q_45 3).toInt = (q 3).toInt := by rw [← u_52, pk_uLn (by omega)]
      have n_58 : (q_45 4).toInt = (q 4).toInt := by rw [← u_52, pk_uLn (by omega)]
      have n_59 : (q_45 5).toInt = (q 5).toInt := by rw [← u_52, pk_uLn (by omega)]
      refine lv_aload_n hx hb dX12_yields_70 rfl (lv_at hl 2 rfl) ?_
      refine k_get (ci := 12) (v := .ref (gr g h0 4)) (C := RX12) (T := TX12) (N := 27) hx hb hts (fun _ h0_ => List.mem_cons_of_mem _ (List.mem_append_right _ (List.mem_append_left _ h0_))) hown hK hI i_h0.1 k_50 rfl 4 (by decide) (hts (.fieldLink RX12 16 "DeadlineShareModel" "row" "[J") (List.mem_cons_of_mem _ (List.mem_append_left _ (List.mem_of_getElem? (i := 13) rfl)))) (fun _ h9 => h9) rfl dX12_yields_71 ?_
      refine lv_iload_n hx hb dX12_yields_74 rfl (lv_at hl 1 rfl) ?_
      refine lv_iconst (v := 3) hx hb dX12_yields_75 (by decide) ?_
      refine lv_iadd hx hb dX12_yields_76 ?_
      refine k_topi (y := nI (6 + 43 * m_17 + 3)) ((nI_add (6 + 43 * m_17) 3).trans (congrArg nI (by omega))) ?_
      refine lv_aload_n hx hb dX12_yields_77 rfl (lv_at hl 2 rfl) ?_
      refine k_get (ci := 12) (v := .ref (gr g h0 4)) (C := RX12) (T := TX12) (N := 27) hx hb hts (fun _ h0_ => List.mem_cons_of_mem _ (List.mem_append_right _ (List.mem_append_left _ h0_))) hown hK hI i_h0.1 k_50 rfl 4 (by decide) (hts (.fieldLink RX12 16 "DeadlineShareModel" "row" "[J") (List.mem_cons_of_mem _ (List.mem_append_left _ (List.mem_of_getElem? (i := 13) rfl)))) (fun _ h9 => h9) rfl dX12_yields_78 ?_
      refine lv_iload_n hx hb dX12_yields_81 rfl (lv_at hl 1 rfl) ?_
      refine lv_iconst (v := 1) hx hb dX12_yields_82 (by decide) ?_
      refine lv_iadd hx hb dX12_yields_83 ?_
      refine k_topi (y := nI (6 + 43 * m_17 + 1)) ((nI_add (6 + 43 * m_17) 1).trans (congrArg nI (by omega))) ?_
      refine k_lald hx hb hK hI i_1.1 1 k_47 rfl (vp_in_nI (by omega) (by omega)) dX12_yields_84 ?_
      refine k_topl (y := q_45 (6 + 43 * m_17 + 1)) (congrArg q_45 (nI_clamp (by omega))) ?_
      refine k_last hx hb hK hI hS i_1.1 1 k_47 rfl (vp_in_nI (by omega) (by omega)) (cl_32 i_1) dX12_yields_85 (fun f_64 H locs e_65 hI hS => ?_)
      generalize eq_66 : vp_updL q_45 (Int32.toNatClampNeg (nI (6 + 43 * m_17 + 3))) (q_45 (6 + 43 * m_17 + 1)) = q_66 at e_65
      have k_68 : f_64 (gr g h0 4) = .inl (gc g 1, 906, .inr (.inl q_66)) := by rw [e_65]; exact va_up_self _ _ _
      have k_69 : f_64 (gr g h0 7) = .inl (gc g 1, 1812, .inr (.inl im)) := by rw [e_65, va_up_ne _ _ (ik_ne i_4 i_1 (by decide))]; exact k_48
      have k_70 : f_64 (gr g h0 8) = .inl (gc g 3, 2, .inl kt) := by rw [e_65, va_up_ne _ _ (ik_ne i_5 i_1 (by decide))]; exact k_49
      have k_71 : f_64 h0 = .inr (12, [.int (0 : Int32), .int z1, .ref (gr g h0 2), .ref (gr g h0 3), .ref (gr g h0 4), .ref (gr g h0 5), .ref (gr g h0 6), .ref (gr g h0 7), .ref (gr g h0 8), .ref (gr g h0 9), .int w10_24, .ref (gr g h0 11), .int z12, .int z13, .int z14, .int z15, .long z16, .int z17, .int z18, .ref (gr g h0 19), .ref (gr g h0 20), .ref (gr g h0 21), .ref (gr g h0 22), .int z23, .long z24, .long z25, .long z26]) := by rw [e_65, va_up_ne _ _ (ik_ne i_h0 i_1 (by decide))]; exact k_50
      have k_72 : f_64 (gr g h0 5) = .inl (gc g 1, 9060, .inr (.inl u1_25)) := by rw [e_65, va_up_ne _ _ (ik_ne i_3 i_1 (by decide))]; exact k_51
      have kp_67 := Kp.put kp_46 i_1 (by decide) e_65
      have u_73 : vp_updL q_45 (6 + 43 * m_17 + 3) (q_45 (6 + 43 * m_17 + 1)) = q_66 := by rw [← eq_66, show Int32.toNatClampNeg (nI (6 + 43 * m_17 + 3)) = 6 + 43 * m_17 + 3 from (nI_clamp (by omega))]
      have ok_74 : RowOK q_66 := by rw [← u_73]; exact rk_upd ok_53 (by refine ⟨⟨by omega, by omega, by omega, by omega, by omega⟩, fun t9 ht9 => ⟨by omega, by omega, by omega, by omega, by omega, by omega⟩, fun t9 k9 ht9 hk9 => ⟨by omega, by omega, by omega⟩, by omega⟩)
      have d_75 := rk_hd ok_74
      have n_76 : (q_66 0).toInt = (q_45 0).toInt := by rw [← u_73, pk_uLn (by omega)]
      have n_77 : (q_66 1).toInt = (q_45 1).toInt := by rw [← u_73, pk_uLn (by omega)]
      have n_78 : (q_66 3).toInt = (q_45 3).toInt := by rw [← u_73, pk_uLn (by omega)]
      have n_79 : (q_66 4).toInt = (q_45 4).toInt := by rw [← u_73, pk_uLn (by omega)]
      have n_80 : (q_66 5).toInt = (q_45 5).toInt := by rw [← u_73, pk_uLn (by omega)]
      refine lv_aload_n hx hb dX12_yields_86 rfl (lv_at hl 2 rfl) ?_
      refine k_get (ci := 12) (v := .ref (gr g h0 4)) (C := RX12) (T := TX12) (N := 27) hx hb hts (fun _ h0_ => List.mem_cons_of_mem _ (List.mem_append_right _ (List.mem_append_left _ h0_))) hown hK hI i_h0.1 k_71 rfl 4 (by decide) (hts (.fieldLink RX12 16 "DeadlineShareModel" "row" "[J") (List.mem_cons_of_mem _ (List.mem_append_left _ (List.mem_of_getElem? (i := 13) rfl)))) (fun _ h9 => h9) rfl dX12_yields_87 ?_
      refine lv_iconst (v := 4) hx hb dX12_yields_90 (by decide) ?_
      refine lv_aload_n hx hb dX12_yields_91 rfl (lv_at hl 2 rfl) ?_
      refine k_get (ci := 12) (v := .ref (gr g h0 4)) (C := RX12) (T := TX12) (N := 27) hx hb hts (fun _ h0_ => List.mem_cons_of_mem _ (List.mem_append_right _ (List.mem_append_left _ h0_))) hown hK hI i_h0.1 k_71 rfl 4 (by decide) (hts (.fieldLink RX12 16 "DeadlineShareModel" "row" "[J") (List.mem_cons_of_mem _ (List.mem_append_left _ (List.mem_of_getElem? (i := 13) rfl)))) (fun _ h9 => h9) rfl dX12_yields_92 ?_
      refine lv_iconst (v := 4) hx hb dX12_yields_95 (by decide) ?_
      refine k_lald hx hb hK hI i_1.1 1 k_68 rfl (by unfold vp_in; decide) dX12_yields_96 ?_
      refine k_topl (y := q_66 4) (congrArg q_66 (show Int32.toNatClampNeg 4 = 4 by decide)) ?_
      refine lv_iload_n hx hb dX12_yields_97 rfl (lv_at hl 3 rfl) ?_
      refine k_topi (y := nI m_17) em_17 ?_
      refine lv_i2l (v := lN (m_17)) hx hb dX12_yields_98 (nI_l (by omega)) ?_
      refine W.lcmp hx hb dX12_yields_99 ?_
      have J_115 : ∀ (y_85 : Int64) (H : Heap) (locs : List Loc) (ls : Array Slot), Iv dC dI g A f_64 H → va_S A s.heap H locs → (-1 ≤ y_85.toInt ∧ y_85.toInt < (q 0).toInt) → lv_has ls 4 [(3, .int v_38), (2, .int (nI (6 + 43 * m_17))), (0, .ref h0), (1, .int p1)] → W p l e (headSpec wq_c_X12_yields ({ frames := 3, cells := 0, slots := 0, locals := 62 } : Room)).room s m ([.ref h0, .int p1].toArray) below meth c H locs 0 0 (MQ below (va_Qi (fun (r : Int32) (_ : Unit) => True) (fun (_ : Unit) t => ∃ f1 : Nat → va_E, Iv dC dI g A f1 t.heap ∧ Kp g [12, 30, 32, 33, 37] f f1 ∧ ∃ (w0 : Int32) (w1 : Int32) (w10 : Int32) (w12 : Int32) (w13 : Int32) (w14 : Int32) (w15 : Int32) (w16 : Int64) (w17 : Int32) (w18 : Int32) (w23 : Int32) (w24 : Int64) (w25 : Int64) (w26 : Int64) (q1 : Nat → Int64) (u1 : Nat → Int64) (im1 : Nat → Int64) (ik1 : Nat → Int32), (f1 h0 = .inr (12, [.int w0, .int w1, .ref (gr g h0 2), .ref (gr g h0 3), .ref (gr g h0 4), .ref (gr g h0 5), .ref (gr g h0 6), .ref (gr g h0 7), .ref (gr g h0 8), .ref (gr g h0 9), .int w10, .ref (gr g h0 11), .int w12, .int w13, .int w14, .int w15, .long w16, .int w17, .int w18, .ref (gr g h0 19), .ref (gr g h0 20), .ref (gr g h0 21), .ref (gr g h0 22), .int w23, .long w24, .long w25, .long w26])) ∧ (0 ≤ w10.toInt ∧ w10.toInt ≤ 10) ∧ (0 ≤ w12.toInt ∧ w12.toInt ≤ 200) ∧ (0 ≤ w23.toInt ∧ w23.toInt ≤ 8) ∧ (f1 (gr g h0 4) = .inl (gc g 1, 906, .inr (.inl q1))) ∧ (RowOK q1) ∧ (f1 (gr g h0 5) = .inl (gc g 1, 9060, .inr (.inl u1))) ∧ (f1 (gr g h0 7) = .inl (gc g 1, 1812, .inr (.inl im1))) ∧ (f1 (gr g h0 8) = .inl (gc g 3, 2, .inl ik1)) ∧ (UIq w10 u1 im1 ik1)) A) ([.ref h0, .int p1].toArray) s 0 0 A) (F0 m 115 ls [.long y_85, .int 4, .ref (gr g h0 4)]) := by
        intro y_85 H locs ls hI hS t_86 hl
        refine k_last hx hb hK hI hS i_1.1 1 k_68 rfl (by unfold vp_in; decide) (cl_32 i_1) dX12_yields_115 (fun f_87 H locs e_88 hI hS => ?_)
        generalize eq_89 : vp_updL q_66 (Int32.toNatClampNeg 4) y_85 = q_89 at e_88
        have k_91 : f_87 (gr g h0 4) = .inl (gc g 1, 906, .inr (.inl q_89)) := by rw [e_88]; exact va_up_self _ _ _
        have k_92 : f_87 (gr g h0 7) = .inl (gc g 1, 1812, .inr (.inl im)) := by rw [e_88, va_up_ne _ _ (ik_ne i_4 i_1 (by decide))]; exact k_69
        have k_93 : f_87 (gr g h0 8) = .inl (gc g 3, 2, .inl kt) := by rw [e_88, va_up_ne _ _ (ik_ne i_5 i_1 (by decide))]; exact k_70
        have k_94 : f_87 h0 = .inr (12, [.int (0 : Int32), .int z1, .ref (gr g h0 2), .ref (gr g h0 3), .ref (gr g h0 4), .ref (gr g h0 5), .ref (gr g h0 6), .ref (gr g h0 7), .ref (gr g h0 8), .ref (gr g h0 9), .int w10_24, .ref (gr g h0 11), .int z12, .int z13, .int z14, .int z15, .long z16, .int z17, .int z18, .ref (gr g h0 19), .ref (gr g h0 20), .ref (gr g h0 21), .ref (gr g h0 22), .int z23, .long z24, .long z25, .long z26]) := by rw [e_88, va_up_ne _ _ (ik_ne i_h0 i_1 (by decide))]; exact k_71
        have k_95 : f_87 (gr g h0 5) = .inl (gc g 1, 9060, .inr (.inl u1_25)) := by rw [e_88, va_up_ne _ _ (ik_ne i_3 i_1 (by decide))]; exact k_72
        have kp_90 := Kp.put kp_67 i_1 (by decide) e_88
        have u_96 : vp_updL q_66 4 y_85 = q_89 := by rw [← eq_89, show Int32.toNatClampNeg 4 = 4 from (show Int32.toNatClampNeg 4 = 4 by decide)]
        have ok_97 : RowOK q_89 := by rw [← u_96]; exact rk_upd ok_74 (by refine ⟨⟨by omega, by omega, by omega, by omega, by omega⟩, fun t9 ht9 => ⟨by omega, by omega, by omega, by omega, by omega, by omega⟩, fun t9 k9 ht9 hk9 => ⟨by omega, by omega, by omega⟩, by omega⟩)
        have d_98 := rk_hd ok_97
        have n_99 : (q_89 0).toInt = (q_66 0).toInt := by rw [← u_96, pk_uLn (by omega)]
        have n_100 : (q_89 1).toInt = (q_66 1).toInt := by rw [← u_96, pk_uLn (by omega)]
        have n_101 : (q_89 3).toInt = (q_66 3).toInt := by rw [← u_96, pk_uLn (by omega)]
        have n_102 : (q_89 4).toInt = Int64.toInt y_85 := by rw [← u_96, pk_uLs]
        have n_103 : (q_89 5).toInt = (q_66 5).toInt := by rw [← u_96, pk_uLn (by omega)]
        refine lv_aload_n hx hb dX12_yields_116 rfl (lv_at hl 2 rfl) ?_
        refine lv_iload_n hx hb dX12_yields_117 rfl (lv_at hl 0 rfl) ?_
        refine va_calli (va_runV (As := [.int v_38]) (rest := []) ⟨hx, hb, hml, hown, hts⟩ (c_X12_tell l dC dI g A hG f_87 h0 v_38 (0 : Int32) z1 w10_24 z12 z13 z14 z15 z16 z17 z18 z23 z24 z25 z26 i_h0 k_94 (by first | omega | (simp only [k_c0]; omega)) (by first | omega | (simp only [k_c0]; omega)) (by first | omega | (simp only [k_c0]; omega))) (cwV 1 hts (gi_V (fun w_ h0_ => ⟨List.mem_cons_of_mem _ (List.mem_append_right _ (List.mem_append_right _ (List.mem_append_right _ (List.mem_append_right _ (List.mem_append_right _ (List.mem_append_right _ (List.mem_append_right _ (List.mem_append_left _ h0_)))))))), (tb_c_X12_tell w_ h0_).2⟩) (List.mem_cons_of_mem _ (List.mem_append_left _ (List.mem_of_getElem? (i := 17) rfl))) (List.mem_cons_of_mem _ (List.mem_append_left _ (List.mem_of_getElem? (i := 18) rfl))) (List.mem_cons_of_mem _ (List.mem_append_left _ (List.mem_of_getElem? (i := 19) rfl))) (List.mem_cons_of_mem _ (List.mem_append_left _ (List.mem_of_getElem? (i := 4) rfl)))) rfl rfl rfl (by decide +kernel) ⟨Nat.le_of_ble_eq_true rfl, Nat.le_of_ble_eq_true rfl⟩) ⟨fun a U g mk q => ⟨q.1, q.2.calling rfl rfl⟩, k_recv hK hI i_h0.1 k_94 (ci := 12) rfl, fun U hU hW => ⟨rfl, kIn.of hI hK hE hS hU hW⟩⟩ rfl rfl hl.1 rfl (lv_room (Nat.le_of_ble_eq_true rfl)) dX12_yields_118 ⟨Nat.le_of_ble_eq_true rfl, Nat.le_of_ble_eq_true rfl⟩) hS (fun q _ h => h) (fun q h => h) (fun r_106 u9 t H1 locs ht hvm w_105 hB hz1 hk1 hS => ?_)
        obtain ⟨f_104, hI, kc_107, k_108⟩ := hB
        rw [ht] at hI
        have k_109 : f_104 (gr g h0 4) = .inl (gc g 1, 906, .inr (.inl q_89)) := Kp.at kc_107 i_1 (by decide) k_91
        have k_110 : f_104 (gr g h0 7) = .inl (gc g 1, 1812, .inr (.inl im)) := Kp.at kc_107 i_4 (by decide) k_92
        have k_111 : f_104 (gr g h0 8) = .inl (gc g 3, 2, .inl kt) := Kp.at kc_107 i_5 (by decide) k_93
        have k_112 : f_104 (gr g h0 5) = .inl (gc g 1, 9060, .inr (.inl u1_25)) := Kp.at kc_107 i_3 (by decide) k_95
        have k_108 : f_104 h0 = .inr (12, [.int (0 : Int32), .int 0, .ref (gr g h0 2), .ref (gr g h0 3), .ref (gr g h0 4), .ref (gr g h0 5), .ref (gr g h0 6), .ref (gr g h0 7), .ref (gr g h0 8), .ref (gr g h0 9), .int w10_24, .ref (gr g h0 11), .int z12, .int z13, .int z14, .int z15, .long z16, .int z17, .int z18, .ref (gr g h0 19), .ref (gr g h0 20), .ref (gr g h0 21), .ref (gr g h0 22), .int z23, .long z24, .long z25, .long z26]) := k_108
        have kp_113 := Kp.call kp_90 kc_107 (by decide)
        generalize H1 = H at hI hS ⊢
        refine W.widen (k := 0) (n := 0) (Nat.le_of_ble_eq_true rfl) (Nat.le_of_ble_eq_true rfl) ?_
        have w_105 : r_106.toInt = v_38.toInt := w_105
        exact W.iret (v := r_106) hx hb hr (fun t ht hW => ⟨⟨r_106, (), rfl, trivial, ⟨f_104, k_ret ht hI, kp_113, (0 : Int32), 0, w10_24, z12, z13, z14, z15, z16, z17, z18, z23, z24, z25, z26, q_89, u1_25, im, kt, k_108, (by first | omega | decide), (by first | omega | decide), (by first | omega | decide), k_109, ok_97, k_112, k_110, k_111, z_29⟩⟩, hS.F ht⟩) hS.2.2 dX12_yields_121
      refine lv_if_ne (tgt := 109) hx hb dX12_yields_100 (by decide) (fun c_114 => ?_) (fun c_114 => ?_)
      · have c_114 := ln_eq rfl (lN_toInt (n := m_17) (by omega)) (fun h9 => c_114 ((lg_cmp_eq _ _).mpr h9))
        refine lv_aload_n hx hb dX12_yields_109 rfl (lv_at hl 2 rfl) ?_
        refine k_get (ci := 12) (v := .ref (gr g h0 4)) (C := RX12) (T := TX12) (N := 27) hx hb hts (fun _ h0_ => List.mem_cons_of_mem _ (List.mem_append_right _ (List.mem_append_left _ h0_))) hown hK hI i_h0.1 k_71 rfl 4 (by decide) (hts (.fieldLink RX12 16 "DeadlineShareModel" "row" "[J") (List.mem_cons_of_mem _ (List.mem_append_left _ (List.mem_of_getElem? (i := 13) rfl)))) (fun _ h9 => h9) rfl dX12_yields_110 ?_
        refine lv_iconst (v := 4) hx hb dX12_yields_113 (by decide) ?_
        refine k_lald hx hb hK hI i_1.1 1 k_68 rfl (by unfold vp_in; decide) dX12_yields_114 ?_
        refine k_topl (y := q_66 4) (congrArg q_66 (show Int32.toNatClampNeg 4 = 4 by decide)) ?_
        exact J_115 (q_66 4) _ _ _ hI hS (by first | omega | decide | exact Or.inl (by decide)) (lv_sub hl [0, 1, 2, 3] rfl)
      · have c_114 := lc_eq rfl (lN_toInt (n := m_17) (by omega)) ((lg_cmp_eq _ _).mp c_114)
        refine lv_ldc2 hx hb hown (hts (.constantLong RX12 65 (-1)) (List.mem_cons_of_mem _ (List.mem_append_left _ (List.mem_of_getElem? (i := 20) rfl)))) dX12_yields_103 ?_
        refine lv_goto (tgt := 115) hx hb dX12_yields_106 (by decide) ?_
        exact J_115 (-1) _ _ _ hI hS (by first | omega | decide | exact Or.inl (by decide) | (simp only [show Int64.toInt (-1) = (-1) from by decide] <;> omega)) (lv_sub hl [0, 1, 2, 3] rfl)
    · have c_20 := kc_eq rfl (by decide : Int32.toInt 0 = 0) c_20
      refine lv_aload_n hx hb dX12_yields_28 rfl (lv_at hl 0 rfl) ?_
      refine lv_bipush (v := (-4)) hx hb dX12_yields_29 (by decide) ?_
      refine va_calli (va_runV (As := [.int (-4)]) (rest := []) ⟨hx, hb, hml, hown, hts⟩ (c_X12_refuse l dC dI g A hG f_6 h0 (-4) 0 z1 z10 z12 z13 z14 z15 z16 z17 z18 z23 z24 z25 z26 i_h0 k_9 (by first | omega | (simp only [k_c0]; omega)) (by first | omega | (simp only [k_c0]; omega)) (by first | omega | (simp only [k_c0]; omega)) (by first | omega | decide | (simp only [show Int32.toInt (-4) = (-4) from by decide] <;> omega))) (cwV 1 hts (gi_V (fun w_ h0_ => ⟨List.mem_cons_of_mem _ (List.mem_append_right _ (List.mem_append_right _ (List.mem_append_right _ (List.mem_append_right _ (List.mem_append_right _ (List.mem_append_right _ (List.mem_append_right _ (List.mem_append_right _ (List.mem_append_left _ h0_))))))))), (tb_c_X12_refuse w_ h0_).2⟩) (List.mem_cons_of_mem _ (List.mem_append_left _ (List.mem_of_getElem? (i := 21) rfl))) (List.mem_cons_of_mem _ (List.mem_append_left _ (List.mem_of_getElem? (i := 22) rfl))) (List.mem_cons_of_mem _ (List.mem_append_left _ (List.mem_of_getElem? (i := 23) rfl))) (List.mem_cons_of_mem _ (List.mem_append_left _ (List.mem_of_getElem? (i := 4) rfl)))) rfl rfl rfl (by decide +kernel) ⟨Nat.le_of_ble_eq_true rfl, Nat.le_of_ble_eq_true rfl⟩) ⟨fun a U g mk q => ⟨q.1, q.2.calling rfl rfl⟩, k_recv hK hI i_h0.1 k_9 (ci := 12) rfl, fun U hU hW => ⟨rfl, kIn.of hI hK hE hS hU hW⟩⟩ rfl rfl hl.1 rfl (lv_room (Nat.le_of_ble_eq_true rfl)) dX12_yields_31 ⟨Nat.le_of_ble_eq_true rfl, Nat.le_of_ble_eq_true rfl⟩) hS (fun q _ h => h) (fun q h => h) (fun r_119 u9 t H1 locs ht hvm w_118 hB hz1 hk1 hS => ?_)
      obtain ⟨f_117, hI, kc_120, k_121⟩ := hB
      rw [ht] at hI
      have k_122 : f_117 (gr g h0 4) = .inl (gc g 1, 906, .inr (.inl q)) := Kp.at kc_120 i_1 (by decide) k_10
      have k_123 : f_117 (gr g h0 5) = .inl (gc g 1, 9060, .inr (.inl u)) := Kp.at kc_120 i_3 (by decide) k_11
      have k_124 : f_117 (gr g h0 7) = .inl (gc g 1, 1812, .inr (.inl im)) := Kp.at kc_120 i_4 (by decide) k_12
      have k_125 : f_117 (gr g h0 8) = .inl (gc g 3, 2, .inl kt) := Kp.at kc_120 i_5 (by decide) k_13
      have k_121 : f_117 h0 = .inr (12, [.int (0 : Int32), .int (-4 : Int32), .ref (gr g h0 2), .ref (gr g h0 3), .ref (gr g h0 4), .ref (gr g h0 5), .ref (gr g h0 6), .ref (gr g h0 7), .ref (gr g h0 8), .ref (gr g h0 9), .int z10, .ref (gr g h0 11), .int z12, .int z13, .int z14, .int z15, .long z16, .int z17, .int z18, .ref (gr g h0 19), .ref (gr g h0 20), .ref (gr g h0 21), .ref (gr g h0 22), .int z23, .long z24, .long z25, .long z26]) := k_121
      have kp_126 := Kp.call kp_8 kc_120 (by decide)
      generalize H1 = H at hI hS ⊢
      refine W.widen (k := 0) (n := 0) (Nat.le_of_ble_eq_true rfl) (Nat.le_of_ble_eq_true rfl) ?_
      have w_118 : r_119.toInt = (-4 : Int32).toInt := w_118
      have g_127 : Int32.toInt ((-4)) = (-4) := by decide
      exact W.iret (v := r_119) hx hb hr (fun t ht hW => ⟨⟨r_119, (), rfl, trivial, ⟨f_117, k_ret ht hI, kp_126, (0 : Int32), (-4 : Int32), z10, z12, z13, z14, z15, z16, z17, z18, z23, z24, z25, z26, q, u, im, kt, k_121, (by first | omega | decide), (by first | omega | decide), (by first | omega | decide), k_122, hc1_ok, k_123, k_124, k_125, hU⟩⟩, hS.F ht⟩) hS.2.2 dX12_yields_34
  · have c_16 := kc_eq rfl (by decide : Int32.toInt 0 = 0) c_16
    refine lv_aload_n hx hb dX12_yields_13 rfl (lv_at hl 0 rfl) ?_
    refine lv_bipush (v := (-2)) hx hb dX12_yields_14 (by decide) ?_
    refine va_calli (va_runV (As := [.int (-2)]) (rest := []) ⟨hx, hb, hml, hown, hts⟩ (c_X12_refuse l dC dI g A hG f_6 h0 (-2) 0 z1 z10 z12 z13 z14 z15 z16 z17 z18 z23 z24 z25 z26 i_h0 k_9 (by first | omega | (simp only [k_c0]; omega)) (by first | omega | (simp only [k_c0]; omega)) (by first | omega | (simp only [k_c0]; omega)) (by first | omega | decide | (simp only [show Int32.toInt (-2) = (-2) from by decide] <;> omega))) (cwV 1 hts (gi_V (fun w_ h0_ => ⟨List.mem_cons_of_mem _ (List.mem_append_right _ (List.mem_append_right _ (List.mem_append_right _ (List.mem_append_right _ (List.mem_append_right _ (List.mem_append_right _ (List.mem_append_right _ (List.mem_append_right _ (List.mem_append_left _ h0_))))))))), (tb_c_X12_refuse w_ h0_).2⟩) (List.mem_cons_of_mem _ (List.mem_append_left _ (List.mem_of_getElem? (i := 21) rfl))) (List.mem_cons_of_mem _ (List.mem_append_left _ (List.mem_of_getElem? (i := 22) rfl))) (List.mem_cons_of_mem _ (List.mem_append_left _ (List.mem_of_getElem? (i := 23) rfl))) (List.mem_cons_of_mem _ (List.mem_append_left _ (List.mem_of_getElem? (i := 4) rfl)))) rfl rfl rfl (by decide +kernel) ⟨Nat.le_of_ble_eq_true rfl, Nat.le_of_ble_eq_true rfl⟩) ⟨fun a U g mk q => ⟨q.1, q.2.calling rfl rfl⟩, k_recv hK hI i_h0.1 k_9 (ci := 12) rfl, fun U hU hW => ⟨rfl, kIn.of hI hK hE hS hU hW⟩⟩ rfl rfl hl.1 rfl (lv_room (Nat.le_of_ble_eq_true rfl)) dX12_yields_16 ⟨Nat.le_of_ble_eq_true rfl, Nat.le_of_ble_eq_true rfl⟩) hS (fun q _ h => h) (fun q h => h) (fun r_130 u9 t H1 locs ht hvm w_129 hB hz1 hk1 hS => ?_)
    obtain ⟨f_128, hI, kc_131, k_132⟩ := hB
    rw [ht] at hI
    have k_133 : f_128 (gr g h0 4) = .inl (gc g 1, 906, .inr (.inl q)) := Kp.at kc_131 i_1 (by decide) k_10
    have k_134 : f_128 (gr g h0 5) = .inl (gc g 1, 9060, .inr (.inl u)) := Kp.at kc_131 i_3 (by decide) k_11
    have k_135 : f_128 (gr g h0 7) = .inl (gc g 1, 1812, .inr (.inl im)) := Kp.at kc_131 i_4 (by decide) k_12
    have k_136 : f_128 (gr g h0 8) = .inl (gc g 3, 2, .inl kt) := Kp.at kc_131 i_5 (by decide) k_13
    have k_132 : f_128 h0 = .inr (12, [.int (0 : Int32), .int (-2 : Int32), .ref (gr g h0 2), .ref (gr g h0 3), .ref (gr g h0 4), .ref (gr g h0 5), .ref (gr g h0 6), .ref (gr g h0 7), .ref (gr g h0 8), .ref (gr g h0 9), .int z10, .ref (gr g h0 11), .int z12, .int z13, .int z14, .int z15, .long z16, .int z17, .int z18, .ref (gr g h0 19), .ref (gr g h0 20), .ref (gr g h0 21), .ref (gr g h0 22), .int z23, .long z24, .long z25, .long z26]) := k_132
    have kp_137 := Kp.call kp_8 kc_131 (by decide)
    generalize H1 = H at hI hS ⊢
    refine W.widen (k := 0) (n := 0) (Nat.le_of_ble_eq_true rfl) (Nat.le_of_ble_eq_true rfl) ?_
    have w_129 : r_130.toInt = (-2 : Int32).toInt := w_129
    have g_138 : Int32.toInt ((-2)) = (-2) := by decide
    exact W.iret (v := r_130) hx hb hr (fun t ht hW => ⟨⟨r_130, (), rfl, trivial, ⟨f_128, k_ret ht hI, kp_137, (0 : Int32), (-2 : Int32), z10, z12, z13, z14, z15, z16, z17, z18, z23, z24, z25, z26, q, u, im, kt, k_132, (by first | omega | decide), (by first | omega | decide), (by first | omega | decide), k_133, hc1_ok, k_134, k_135, k_136, hU⟩⟩, hS.F ht⟩) hS.2.2 dX12_yields_19
theorem tw_975 : q_g (.code yX12_ran cX12_ran 3 (some .int)) := ⟨(List.mem_append_right _ (List.mem_of_getElem? (i := 1474) (by decide +kernel))), good_of_word (by decide +kernel)⟩
def ow_c_X12_ran : List Cond := [.fieldLink RX12 67 "DeadlineShareModel" "thrown" "I", .methodLink RX12 296 yX12_logAt, .instanceMethod yX12_logAt, .selects RX12 yX12_logAt yX12_logAt, .initialized RX12, .fieldLink RX12 16 "DeadlineShareModel" "row" "[J"]
def wq_c_X12_ran : List Cond := .code yX12_ran cX12_ran 3 (some .int) :: (ow_c_X12_ran ++ (u_ws RX12 TX12 27 ++ (wq_c_X12_logAt ++ ([] : List Cond))))
theorem tb_c_X12_ran : ∀ w ∈ wq_c_X12_ran, q_g w := by
  unfold wq_c_X12_ran ow_c_X12_ran
  exact q_cons tw_975 (q_app (q_cons tw_927 (q_cons tw_913 (q_cons tw_912 (q_cons tw_911 (q_cons tw_728 (q_cons tw_731 q_nil)))))) (q_app tu_X12 (q_app tb_c_X12_logAt q_nil)))
set_option maxHeartbeats 4000000 in
set_option maxRecDepth 100000 in
theorem c_X12_ran (l : Launch) (dC : Nat → ClassId) (dI : Nat → Nat → Nat) (g : kG) (A : Nat → Prop) (hG : kWf g) (f : Nat → va_E) (h0 : Nat) (p1 : Int32) (z0 : Int32) (z1 : Int32) (z10 : Int32) (z12 : Int32) (z13 : Int32) (z14 : Int32) (z15 : Int32) (z16 : Int64) (z17 : Int32) (z18 : Int32) (z23 : Int32) (z24 : Int64) (z25 : Int64) (z26 : Int64) (q : Nat → Int64) (u : Nat → Int64) (im : Nat → Int64) (kt : Nat → Int32) (i_h0 : ik g 12 h0) (hc0 : f h0 = .inr (12, [.int z0, .int z1, .ref (gr g h0 2), .ref (gr g h0 3), .ref (gr g h0 4), .ref (gr g h0 5), .ref (gr g h0 6), .ref (gr g h0 7), .ref (gr g h0 8), .ref (gr g h0 9), .int z10, .ref (gr g h0 11), .int z12, .int z13, .int z14, .int z15, .long z16, .int z17, .int z18, .ref (gr g h0 19), .ref (gr g h0 20), .ref (gr g h0 21), .ref (gr g h0 22), .int z23, .long z24, .long z25, .long z26])) (hc0_10 : 0 ≤ z10.toInt ∧ z10.toInt ≤ 10) (hc0_12 : 0 ≤ z12.toInt ∧ z12.toInt ≤ 200) (hc0_23 : 0 ≤ z23.toInt ∧ z23.toInt ≤ 8) (hc1 : f (gr g h0 4) = .inl (gc g 1, 906, .inr (.inl q))) (hc1_ok : RowOK q) (hc2 : f (gr g h0 5) = .inl (gc g 1, 9060, .inr (.inl u))) (hc3 : f (gr g h0 7) = .inl (gc g 1, 1812, .inr (.inl im))) (hc4 : f (gr g h0 8) = .inl (gc g 3, 2, .inl kt)) (hU : UIq z10 u im kt) : Met l yX12_ran wq_c_X12_ran ({ frames := 2, cells := 0, slots := 0, locals := 49 } : Room) (va_Pc [.ref h0, .int p1] (fun U => kIn dC dI g A f U)) (va_Qi (fun (r : Int32) (_ : Unit) => True) (fun (_ : Unit) t => ∃ f1 : Nat → va_E, Iv dC dI g A f1 t.heap ∧ Kp g [12] f f1 ∧ ∃ (w0 : Int32) (w1 : Int32) (w10 : Int32) (w12 : Int32) (w13 : Int32) (w14 : Int32) (w15 : Int32) (w16 : Int64) (w17 : Int32) (w18 : Int32) (w23 : Int32) (w24 : Int64) (w25 : Int64) (w26 : Int64) (q1 : Nat → Int64) (u1 : Nat → Int64) (im1 : Nat → Int64) (ik1 : Nat → Int32), (f1 h0 = .inr (12, [.int w0, .int w1, .ref (gr g h0 2), .ref (gr g h0 3), .ref (gr g h0 4), .ref (gr g h0 5), .ref (gr g h0 6), .ref (gr g h0 7), .ref (gr g h0 8), .ref (gr g h0 9), .int w10, .ref (gr g h0 11), .int w12, .int w13, .int w14, .int w15, .long w16, .int w17, .int w18, .ref (gr g h0 19), .ref (gr g h0 20), .ref (gr g h0 21), .ref (gr g h0 22), .int w23, .long w24, .long w25, .long w26])) ∧ (0 ≤ w10.toInt ∧ w10.toInt ≤ 10) ∧ (0 ≤ w12.toInt ∧ w12.toInt ≤ 200) ∧ (0 ≤ w23.toInt ∧ w23.toInt ≤ 8) ∧ (f1 (gr g h0 4) = .inl (gc g 1, 906, .inr (.inl q1))) ∧ (RowOK q1) ∧ (f1 (gr g h0 5) = .inl (gc g 1, 9060, .inr (.inl u1))) ∧ (f1 (gr g h0 7) = .inl (gc g 1, 1812, .inr (.inl im1))) ∧ (f1 (gr g h0 8) = .inl (gc g 3, 2, .inl ik1)) ∧ (UIq w10 u1 im1 ik1)) A) 0 0 A := by
  refine Met.ofW (cc := cX12_ran) (maxL := 3) (ret := (some .int)) (by decide) rfl ?_
  intro p e s m args below meth c s₁ B hml hv
  obtain ⟨rfl, hI, hK, hE⟩ := hv
  have hx := B.exec
  have hb := B.bytes
  have hr := B.returns
  have hts := atoms_spec (ws := wq_c_X12_ran) B.pre
  have hown : s.vm.findClass RX12 = some m.cls := findClass_of_methodNamed B.named
  have hlocks := B.notSynchronized
  have hS : va_S A s.heap s.heap [] := va_S.rf
  have hk0 : Kp g [12] f f := Kp.rf
  have hl := lv_entry ([.ref h0, .int p1]) (n := 3) (Nat.le_of_ble_eq_true rfl)
  rw [lg_entry_eq]
  generalize (lg_sl ([.ref h0, .int p1]) ++ List.replicate (3 - (lg_sl ([.ref h0, .int p1])).length) Slot.unset).toArray = ls at hl ⊢
  have hl : lv_has ls 3 [(0, .ref h0), (1, .int p1)] := hl
  have i_1 := kw_12_4 hG i_h0
  have d_2 := rk_hd hc1_ok
  have i_3 := kw_12_5 hG i_h0
  have i_4 := kw_12_7 hG i_h0
  have i_5 := kw_12_8 hG i_h0
  refine lv_aload_n hx hb dX12_ran_0 rfl (lv_at hl 0 rfl) ?_
  refine lv_iconst (v := 0) hx hb dX12_ran_1 (by decide) ?_
  refine k_put (ci := 12) (v := .int 0) (ty := .int) (C := RX12) (T := TX12) (N := 27) hx hb hts (fun _ h0_ => List.mem_cons_of_mem _ (List.mem_append_right _ (List.mem_append_left _ h0_))) tyX12 tyX12_ok nmX12 hown hK hI hS i_h0.1 hc0 rfl 0 (by decide) (hts (.fieldLink RX12 67 "DeadlineShareModel" "thrown" "I") (List.mem_cons_of_mem _ (List.mem_append_left _ (List.mem_of_getElem? (i := 0) rfl)))) (fun _ h9 => h9) rfl (by decide +kernel) rfl rfl (Nat.le_of_ble_eq_true rfl) rfl (cl_12 i_h0 (by omega) (by omega) (by omega)) dX12_ran_2 (fun f_6 H locs e_7 hI hS => ?_)
  have k_9 : f_6 h0 = .inr (12, [.int 0, .int z1, .ref (gr g h0 2), .ref (gr g h0 3), .ref (gr g h0 4), .ref (gr g h0 5), .ref (gr g h0 6), .ref (gr g h0 7), .ref (gr g h0 8), .ref (gr g h0 9), .int z10, .ref (gr g h0 11), .int z12, .int z13, .int z14, .int z15, .long z16, .int z17, .int z18, .ref (gr g h0 19), .ref (gr g h0 20), .ref (gr g h0 21), .ref (gr g h0 22), .int z23, .long z24, .long z25, .long z26]) := by rw [e_7]; exact va_up_self _ _ _
  have k_10 : f_6 (gr g h0 4) = .inl (gc g 1, 906, .inr (.inl q)) := by rw [e_7, va_up_ne _ _ (ik_ne i_1 i_h0 (by decide))]; exact hc1
  have k_11 : f_6 (gr g h0 5) = .inl (gc g 1, 9060, .inr (.inl u)) := by rw [e_7, va_up_ne _ _ (ik_ne i_3 i_h0 (by decide))]; exact hc2
  have k_12 : f_6 (gr g h0 7) = .inl (gc g 1, 1812, .inr (.inl im)) := by rw [e_7, va_up_ne _ _ (ik_ne i_4 i_h0 (by decide))]; exact hc3
  have k_13 : f_6 (gr g h0 8) = .inl (gc g 3, 2, .inl kt) := by rw [e_7, va_up_ne _ _ (ik_ne i_5 i_h0 (by decide))]; exact hc4
  have kp_8 := Kp.put hk0 i_h0 (by decide) e_7
  refine lv_aload_n hx hb dX12_ran_5 rfl (lv_at hl 0 rfl) ?_
  refine lv_iload_n hx hb dX12_ran_6 rfl (lv_at hl 1 rfl) ?_
  refine lv_i2l (v := p1.toInt64) hx hb dX12_ran_7 rfl ?_
  have t_14 := Int32.toInt_toInt64 p1
  have g_15 := Int32.toInt_lt p1
  have g_16 := Int32.le_toInt p1
  refine va_calli (va_runV (As := [.long p1.toInt64]) (rest := []) ⟨hx, hb, hml, hown, hts⟩ (c_X12_logAt l dC dI g A hG f_6 h0 p1.toInt64 q i_h0 k_10 hc1_ok) (cwV 1 hts (gi_V (fun w_ h0_ => ⟨List.mem_cons_of_mem _ (List.mem_append_right _ (List.mem_append_right _ (List.mem_append_left _ h0_))), (tb_c_X12_logAt w_ h0_).2⟩) (List.mem_cons_of_mem _ (List.mem_append_left _ (List.mem_of_getElem? (i := 1) rfl))) (List.mem_cons_of_mem _ (List.mem_append_left _ (List.mem_of_getElem? (i := 2) rfl))) (List.mem_cons_of_mem _ (List.mem_append_left _ (List.mem_of_getElem? (i := 3) rfl))) (List.mem_cons_of_mem _ (List.mem_append_left _ (List.mem_of_getElem? (i := 4) rfl)))) rfl rfl rfl (by decide +kernel) ⟨Nat.le_of_ble_eq_true rfl, Nat.le_of_ble_eq_true rfl⟩) ⟨fun a U g mk q => ⟨q.1, q.2.calling rfl rfl⟩, k_recv hK hI i_h0.1 k_9 (ci := 12) rfl, fun U hU hW => ⟨rfl, kIn.of hI hK hE hS hU hW⟩⟩ rfl rfl hl.1 rfl (lv_room (Nat.le_of_ble_eq_true rfl)) dX12_ran_8 ⟨Nat.le_of_ble_eq_true rfl, Nat.le_of_ble_eq_true rfl⟩) hS (fun q _ h => h) (fun q h => h) (fun r_18 u9 t H1 locs ht hvm w_17 hB hz1 hk1 hS => ?_)
  have hI : Iv dC dI g A f_6 t.heap := hB
  rw [ht] at hI
  generalize H1 = H at hI hS ⊢
  refine W.widen (k := 0) (n := 0) (Nat.le_of_ble_eq_true rfl) (Nat.le_of_ble_eq_true rfl) ?_
  have w_17 : LAp q p1.toInt64.toInt r_18 := w_17
  refine lv_istore_n (lv' := [(2, .int r_18), (0, .ref h0), (1, .int p1)]) hx hb dX12_ran_11 rfl hl (by decide) rfl (fun ls hl => ?_)
  refine lv_iload_n hx hb dX12_ran_12 rfl (lv_at hl 0 rfl) ?_
  refine lv_iconst (v := (-1)) hx hb dX12_ran_13 (by decide) ?_
  refine lv_icmp_ne (tgt := 21) hx hb dX12_ran_14 (by decide) (fun c_19 => ?_) (fun c_19 => ?_)
  · have c_19 := kn_eq rfl (by decide : Int32.toInt (-1) = (-1)) c_19
    obtain ⟨m_20, em_20, tm_20⟩ := la_ne w_17 (by omega)
    refine lv_aload_n hx hb dX12_ran_21 rfl (lv_at hl 1 rfl) ?_
    refine k_get (ci := 12) (v := .ref (gr g h0 4)) (C := RX12) (T := TX12) (N := 27) hx hb hts (fun _ h0_ => List.mem_cons_of_mem _ (List.mem_append_right _ (List.mem_append_left _ h0_))) hown hK hI i_h0.1 k_9 rfl 4 (by decide) (hts (.fieldLink RX12 16 "DeadlineShareModel" "row" "[J") (List.mem_cons_of_mem _ (List.mem_append_left _ (List.mem_of_getElem? (i := 5) rfl)))) (fun _ h9 => h9) rfl dX12_ran_22 ?_
    refine lv_iload_n hx hb dX12_ran_25 rfl (lv_at hl 0 rfl) ?_
    refine k_topi (y := nI (522 + 3 * m_20)) em_20 ?_
    refine k_lald hx hb hK hI i_1.1 1 k_10 rfl (vp_in_nI (by omega) (by omega)) dX12_ran_26 ?_
    refine k_topl (y := q ((522 + 3 * m_20))) (congrArg q (nI_clamp (by omega))) ?_
    refine lv_l2i (v := (q ((522 + 3 * m_20))).toInt32) hx hb dX12_ran_27 rfl ?_
    refine lv_topi (fun v_23 ev_23 => ?_)
    have tv_23 := k_l2i (q ((522 + 3 * m_20)))
    rw [← ev_23] at tv_23
    exact W.iret (v := v_23) hx hb hr (fun t ht hW => ⟨⟨v_23, (), rfl, trivial, ⟨f_6, k_ret ht hI, kp_8, 0, z1, z10, z12, z13, z14, z15, z16, z17, z18, z23, z24, z25, z26, q, u, im, kt, k_9, (by first | omega | decide), (by first | omega | decide), (by first | omega | decide), k_10, hc1_ok, k_11, k_12, k_13, hU⟩⟩, hS.F ht⟩) hS.2.2 dX12_ran_28
  · have c_19 := kc_eq rfl (by decide : Int32.toInt (-1) = (-1)) c_19
    refine lv_iconst (v := (-1)) hx hb dX12_ran_17 (by decide) ?_
    refine lv_goto (tgt := 28) hx hb dX12_ran_18 (by decide) ?_
    exact W.iret (v := (-1)) hx hb hr (fun t ht hW => ⟨⟨(-1), (), rfl, trivial, ⟨f_6, k_ret ht hI, kp_8, 0, z1, z10, z12, z13, z14, z15, z16, z17, z18, z23, z24, z25, z26, q, u, im, kt, k_9, (by first | omega | decide), (by first | omega | decide), (by first | omega | decide), k_10, hc1_ok, k_11, k_12, k_13, hU⟩⟩, hS.F ht⟩) hS.2.2 dX12_ran_28
theorem tw_976 : q_g (.selects RX12 yX12_areKept yX12_areKept) := ⟨(List.mem_append_left _ (List.mem_of_getElem? (i := 60) (by decide +kernel))), good_of_word (by decide +kernel)⟩
theorem tw_977 : q_g (.instanceMethod yX12_areKept) := ⟨(List.mem_append_right _ (List.mem_of_getElem? (i := 1485) (by decide +kernel))), good_of_word (by decide +kernel)⟩
theorem tw_978 : q_g (.methodLink RX12 300 yX12_areKept) := ⟨(List.mem_append_right _ (List.mem_of_getElem? (i := 1483) (by decide +kernel))), good_of_word (by decide +kernel)⟩
theorem tw_979 : q_g (.code yX12_service cX12_service 7 (some .int)) := ⟨(List.mem_append_right _ (List.mem_of_getElem? (i := 1482) (by decide +kernel))), good_of_word (by decide +kernel)⟩
def ow_c_X12_service : List Cond := [.fieldLink RX12 67 "DeadlineShareModel" "thrown" "I", .methodLink RX12 142 yX12_isTask, .instanceMethod yX12_isTask, .selects RX12 yX12_isTask yX12_isTask, .initialized RX12, .methodLink RX12 300 yX12_areKept, .instanceMethod yX12_areKept, .selects RX12 yX12_areKept yX12_areKept, .fieldLink RX12 16 "DeadlineShareModel" "row" "[J", .methodLink RX12 296 yX12_logAt, .instanceMethod yX12_logAt, .selects RX12 yX12_logAt yX12_logAt]
def wq_c_X12_service : List Cond := .code yX12_service cX12_service 7 (some .int) :: (ow_c_X12_service ++ (u_ws RX12 TX12 27 ++ (wq_c_X12_isTask ++ (wq_c_X12_areKept ++ (wq_c_X12_logAt ++ ([] : List Cond))))))
theorem tb_c_X12_service : ∀ w ∈ wq_c_X12_service, q_g w := by
  unfold wq_c_X12_service ow_c_X12_service
  exact q_cons tw_979 (q_app (q_cons tw_927 (q_cons tw_951 (q_cons tw_950 (q_cons tw_949 (q_cons tw_728 (q_cons tw_978 (q_cons tw_977 (q_cons tw_976 (q_cons tw_731 (q_cons tw_913 (q_cons tw_912 (q_cons tw_911 q_nil)))))))))))) (q_app tu_X12 (q_app tb_c_X12_isTask (q_app tb_c_X12_areKept (q_app tb_c_X12_logAt q_nil)))))
set_option maxHeartbeats 4000000 in
set_option maxRecDepth 100000 in
theorem c_X12_service (l : Launch) (dC : Nat → ClassId) (dI : Nat → Nat → Nat) (g : kG) (A : Nat → Prop) (hG : kWf g) (f : Nat → va_E) (h0 : Nat) (p1 : Int32) (p2 : Int32) (p3 : Int32) (z0 : Int32) (z1 : Int32) (z10 : Int32) (z12 : Int32) (z13 : Int32) (z14 : Int32) (z15 : Int32) (z16 : Int64) (z17 : Int32) (z18 : Int32) (z23 : Int32) (z24 : Int64) (z25 : Int64) (z26 : Int64) (q : Nat → Int64) (u : Nat → Int64) (im : Nat → Int64) (kt : Nat → Int32) (i_h0 : ik g 12 h0) (hc0 : f h0 = .inr (12, [.int z0, .int z1, .ref (gr g h0 2), .ref (gr g h0 3), .ref (gr g h0 4), .ref (gr g h0 5), .ref (gr g h0 6), .ref (gr g h0 7), .ref (gr g h0 8), .ref (gr g h0 9), .int z10, .ref (gr g h0 11), .int z12, .int z13, .int z14, .int z15, .long z16, .int z17, .int z18, .ref (gr g h0 19), .ref (gr g h0 20), .ref (gr g h0 21), .ref (gr g h0 22), .int z23, .long z24, .long z25, .long z26])) (hc0_10 : 0 ≤ z10.toInt ∧ z10.toInt ≤ 10) (hc0_12 : 0 ≤ z12.toInt ∧ z12.toInt ≤ 200) (hc0_23 : 0 ≤ z23.toInt ∧ z23.toInt ≤ 8) (hc1 : f (gr g h0 4) = .inl (gc g 1, 906, .inr (.inl q))) (hc1_ok : RowOK q) (hc2 : f (gr g h0 5) = .inl (gc g 1, 9060, .inr (.inl u))) (hc3 : f (gr g h0 7) = .inl (gc g 1, 1812, .inr (.inl im))) (hc4 : f (gr g h0 8) = .inl (gc g 3, 2, .inl kt)) (hU : UIq z10 u im kt) : Met l yX12_service wq_c_X12_service ({ frames := 3, cells := 0, slots := 0, locals := 71 } : Room) (va_Pc [.ref h0, .int p1, .int p2, .int p3] (fun U => kIn dC dI g A f U)) (va_Qi (fun (r : Int32) (_ : Unit) => True) (fun (_ : Unit) t => ∃ f1 : Nat → va_E, Iv dC dI g A f1 t.heap ∧ Kp g [12] f f1 ∧ ∃ (w0 : Int32) (w1 : Int32) (w10 : Int32) (w12 : Int32) (w13 : Int32) (w14 : Int32) (w15 : Int32) (w16 : Int64) (w17 : Int32) (w18 : Int32) (w23 : Int32) (w24 : Int64) (w25 : Int64) (w26 : Int64) (q1 : Nat → Int64) (u1 : Nat → Int64) (im1 : Nat → Int64) (ik1 : Nat → Int32), (f1 h0 = .inr (12, [.int w0, .int w1, .ref (gr g h0 2), .ref (gr g h0 3), .ref (gr g h0 4), .ref (gr g h0 5), .ref (gr g h0 6), .ref (gr g h0 7), .ref (gr g h0 8), .ref (gr g h0 9), .int w10, .ref (gr g h0 11), .int w12, .int w13, .int w14, .int w15, .long w16, .int w17, .int w18, .ref (gr g h0 19), .ref (gr g h0 20), .ref (gr g h0 21), .ref (gr g h0 22), .int w23, .long w24, .long w25, .long w26])) ∧ (0 ≤ w10.toInt ∧ w10.toInt ≤ 10) ∧ (0 ≤ w12.toInt ∧ w12.toInt ≤ 200) ∧ (0 ≤ w23.toInt ∧ w23.toInt ≤ 8) ∧ (f1 (gr g h0 4) = .inl (gc g 1, 906, .inr (.inl q1))) ∧ (RowOK q1) ∧ (f1 (gr g h0 5) = .inl (gc g 1, 9060, .inr (.inl u1))) ∧ (f1 (gr g h0 7) = .inl (gc g 1, 1812, .inr (.inl im1))) ∧ (f1 (gr g h0 8) = .inl (gc g 3, 2, .inl ik1)) ∧ (UIq w10 u1 im1 ik1)) A) 0 0 A := by
  refine Met.ofW (cc := cX12_service) (maxL := 7) (ret := (some .int)) (by decide) rfl ?_
  intro p e s m args below meth c s₁ B hml hv
  obtain ⟨rfl, hI, hK, hE⟩ := hv
  have hx := B.exec
  have hb := B.bytes
  have hr := B.returns
  have hts := atoms_spec (ws := wq_c_X12_service) B.pre
  have hown : s.vm.findClass RX12 = some m.cls := findClass_of_methodNamed B.named
  have hlocks := B.notSynchronized
  have hS : va_S A s.heap s.heap [] := va_S.rf
  have hk0 : Kp g [12] f f := Kp.rf
  have hl := lv_entry ([.ref h0, .int p1, .int p2, .int p3]) (n := 7) (Nat.le_of_ble_eq_true rfl)
  rw [lg_entry_eq]
  generalize (lg_sl ([.ref h0, .int p1, .int p2, .int p3]) ++ List.replicate (7 - (lg_sl ([.ref h0, .int p1, .int p2, .int p3])).length) Slot.unset).toArray = ls at hl ⊢
  have hl : lv_has ls 7 [(0, .ref h0), (1, .int p1), (2, .int p2), (3, .int p3)] := hl
  have i_1 := kw_12_4 hG i_h0
  have d_2 := rk_hd hc1_ok
  have i_3 := kw_12_5 hG i_h0
  have i_4 := kw_12_7 hG i_h0
  have i_5 := kw_12_8 hG i_h0
  refine lv_aload_n hx hb dX12_service_0 rfl (lv_at hl 0 rfl) ?_
  refine lv_iconst (v := 0) hx hb dX12_service_1 (by decide) ?_
  refine k_put (ci := 12) (v := .int 0) (ty := .int) (C := RX12) (T := TX12) (N := 27) hx hb hts (fun _ h0_ => List.mem_cons_of_mem _ (List.mem_append_right _ (List.mem_append_left _ h0_))) tyX12 tyX12_ok nmX12 hown hK hI hS i_h0.1 hc0 rfl 0 (by decide) (hts (.fieldLink RX12 67 "DeadlineShareModel" "thrown" "I") (List.mem_cons_of_mem _ (List.mem_append_left _ (List.mem_of_getElem? (i := 0) rfl)))) (fun _ h9 => h9) rfl (by decide +kernel) rfl rfl (Nat.le_of_ble_eq_true rfl) rfl (cl_12 i_h0 (by omega) (by omega) (by omega)) dX12_service_2 (fun f_6 H locs e_7 hI hS => ?_)
  have k_9 : f_6 h0 = .inr (12, [.int 0, .int z1, .ref (gr g h0 2), .ref (gr g h0 3), .ref (gr g h0 4), .ref (gr g h0 5), .ref (gr g h0 6), .ref (gr g h0 7), .ref (gr g h0 8), .ref (gr g h0 9), .int z10, .ref (gr g h0 11), .int z12, .int z13, .int z14, .int z15, .long z16, .int z17, .int z18, .ref (gr g h0 19), .ref (gr g h0 20), .ref (gr g h0 21), .ref (gr g h0 22), .int z23, .long z24, .long z25, .long z26]) := by rw [e_7]; exact va_up_self _ _ _
  have k_10 : f_6 (gr g h0 4) = .inl (gc g 1, 906, .inr (.inl q)) := by rw [e_7, va_up_ne _ _ (ik_ne i_1 i_h0 (by decide))]; exact hc1
  have k_11 : f_6 (gr g h0 5) = .inl (gc g 1, 9060, .inr (.inl u)) := by rw [e_7, va_up_ne _ _ (ik_ne i_3 i_h0 (by decide))]; exact hc2
  have k_12 : f_6 (gr g h0 7) = .inl (gc g 1, 1812, .inr (.inl im)) := by rw [e_7, va_up_ne _ _ (ik_ne i_4 i_h0 (by decide))]; exact hc3
  have k_13 : f_6 (gr g h0 8) = .inl (gc g 3, 2, .inl kt) := by rw [e_7, va_up_ne _ _ (ik_ne i_5 i_h0 (by decide))]; exact hc4
  have kp_8 := Kp.put hk0 i_h0 (by decide) e_7
  refine lv_aload_n hx hb dX12_service_5 rfl (lv_at hl 0 rfl) ?_
  refine lv_iload_n hx hb dX12_service_6 rfl (lv_at hl 1 rfl) ?_
  refine va_calli (va_runV (As := [.int p1]) (rest := []) ⟨hx, hb, hml, hown, hts⟩ (c_X12_isTask l dC dI g A hG f_6 h0 p1 q i_h0 k_10 hc1_ok) (cwV 1 hts (gi_V (fun w_ h0_ => ⟨List.mem_cons_of_mem _ (List.mem_append_right _ (List.mem_append_right _ (List.mem_append_left _ h0_))), (tb_c_X12_isTask w_ h0_).2⟩) (List.mem_cons_of_mem _ (List.mem_append_left _ (List.mem_of_getElem? (i := 1) rfl))) (List.mem_cons_of_mem _ (List.mem_append_left _ (List.mem_of_getElem? (i := 2) rfl))) (List.mem_cons_of_mem _ (List.mem_append_left _ (List.mem_of_getElem? (i := 3) rfl))) (List.mem_cons_of_mem _ (List.mem_append_left _ (List.mem_of_getElem? (i := 4) rfl)))) rfl rfl rfl (by decide +kernel) ⟨Nat.le_of_ble_eq_true rfl, Nat.le_of_ble_eq_true rfl⟩) ⟨fun a U g mk q => ⟨q.1, q.2.calling rfl rfl⟩, k_recv hK hI i_h0.1 k_9 (ci := 12) rfl, fun U hU hW => ⟨rfl, kIn.of hI hK hE hS hU hW⟩⟩ rfl rfl hl.1 rfl (lv_room (Nat.le_of_ble_eq_true rfl)) dX12_service_7 ⟨Nat.le_of_ble_eq_true rfl, Nat.le_of_ble_eq_true rfl⟩) hS (fun q _ h => h) (fun q h => h) (fun r_15 u9 t H1 locs ht hvm w_14 hB hz1 hk1 hS => ?_)
  have hI : Iv dC dI g A f_6 t.heap := hB
  rw [ht] at hI
  generalize H1 = H at hI hS ⊢
  refine W.widen (k := 0) (n := 0) (Nat.le_of_ble_eq_true rfl) (Nat.le_of_ble_eq_true rfl) ?_
  have w_14 : (r_15.toInt = 0 ∨ r_15.toInt = 1) ∧ (r_15.toInt = 0 ∨ (0 ≤ p1.toInt ∧ p1.toInt < (q 0).toInt)) := w_14
  refine lv_if_eq (tgt := 22) hx hb dX12_service_10 (by decide) (fun c_16 => ?_) (fun c_16 => ?_)
  · have c_16 := kc_eq rfl (by decide : Int32.toInt 0 = 0) c_16
    refine lv_iconst (v := (-1)) hx hb dX12_service_22 (by decide) ?_
    exact W.iret (v := (-1)) hx hb hr (fun t ht hW => ⟨⟨(-1), (), rfl, trivial, ⟨f_6, k_ret ht hI, kp_8, 0, z1, z10, z12, z13, z14, z15, z16, z17, z18, z23, z24, z25, z26, q, u, im, kt, k_9, (by first | omega | decide), (by first | omega | decide), (by first | omega | decide), k_10, hc1_ok, k_11, k_12, k_13, hU⟩⟩, hS.F ht⟩) hS.2.2 dX12_service_23
  · have c_16 := kn_eq rfl (by decide : Int32.toInt 0 = 0) c_16
    refine lv_aload_n hx hb dX12_service_13 rfl (lv_at hl 0 rfl) ?_
    refine lv_iload_n hx hb dX12_service_14 rfl (lv_at hl 2 rfl) ?_
    refine lv_iload_n hx hb dX12_service_15 rfl (lv_at hl 3 rfl) ?_
    refine va_calli (va_runV (As := [.int p2, .int p3]) (rest := []) ⟨hx, hb, hml, hown, hts⟩ (c_X12_areKept l dC dI g A hG f_6 h0 p2 p3 q i_h0 k_10 hc1_ok) (cwV 2 hts (gi_V (fun w_ h0_ => ⟨List.mem_cons_of_mem _ (List.mem_append_right _ (List.mem_append_right _ (List.mem_append_right _ (List.mem_append_left _ h0_)))), (tb_c_X12_areKept w_ h0_).2⟩) (List.mem_cons_of_mem _ (List.mem_append_left _ (List.mem_of_getElem? (i := 5) rfl))) (List.mem_cons_of_mem _ (List.mem_append_left _ (List.mem_of_getElem? (i := 6) rfl))) (List.mem_cons_of_mem _ (List.mem_append_left _ (List.mem_of_getElem? (i := 7) rfl))) (List.mem_cons_of_mem _ (List.mem_append_left _ (List.mem_of_getElem? (i := 4) rfl)))) rfl rfl rfl (by decide +kernel) ⟨Nat.le_of_ble_eq_true rfl, Nat.le_of_ble_eq_true rfl⟩) ⟨fun a U g mk q => ⟨q.1, q.2.calling rfl rfl⟩, k_recv hK hI i_h0.1 k_9 (ci := 12) rfl, fun U hU hW => ⟨rfl, kIn.of hI hK hE hS hU hW⟩⟩ rfl rfl hl.1 rfl (lv_room (Nat.le_of_ble_eq_true rfl)) dX12_service_16 ⟨Nat.le_of_ble_eq_true rfl, Nat.le_of_ble_eq_true rfl⟩) hS (fun q _ h => h) (fun q h => h) (fun r_18 u9 t H1 locs ht hvm w_17 hB hz1 hk1 hS => ?_)
    have hI : Iv dC dI g A f_6 t.heap := hB
    rw [ht] at hI
    generalize H1 = H at hI hS ⊢
    refine W.widen (k := 0) (n := 0) (Nat.le_of_ble_eq_true rfl) (Nat.le_of_ble_eq_true rfl) ?_
    have w_17 : r_18.toInt = 0 ∨ p2.toInt = p3.toInt ∨ (p2.toInt < p3.toInt ∧ (q 1).toInt - (q 5).toInt ≤ p2.toInt ∧ p3.toInt ≤ (q 1).toInt) := w_17
    refine lv_if_ne (tgt := 24) hx hb dX12_service_19 (by decide) (fun c_19 => ?_) (fun c_19 => ?_)
    · have c_19 := kn_eq rfl (by decide : Int32.toInt 0 = 0) c_19
      refine lv_iconst (v := 0) hx hb dX12_service_24 (by decide) ?_
      refine lv_istore (lv' := [(4, .int 0), (0, .ref h0), (1, .int p1), (2, .int p2), (3, .int p3)]) hx hb dX12_service_25 hl (by decide) rfl (fun ls hl => ?_)
      refine lv_iload_n hx hb dX12_service_27 rfl (lv_at hl 3 rfl) ?_
      refine lv_i2l (v := p2.toInt64) hx hb dX12_service_28 rfl ?_
      have t_20 := Int32.toInt_toInt64 p2
      have g_21 := Int32.toInt_lt p2
      have g_22 := Int32.le_toInt p2
      refine lv_lstore (lv' := [(5, .long p2.toInt64), (4, .int 0), (0, .ref h0), (1, .int p1), (2, .int p2), (3, .int p3)]) hx hb dX12_service_29 hl (by decide) rfl (fun ls hl => ?_)
      have K_31 : ∀ (nn : Nat) (y_23 : Int64) (y_24 : Int32) (H : Heap) (locs : List Loc) (ls : Array Slot), (p3.toInt - y_23.toInt).toNat < nn → Iv dC dI g A f_6 H → va_S A s.heap H locs → (p2.toInt ≤ y_23.toInt) → lv_has ls 7 [(5, .long y_23), (4, .int y_24), (0, .ref h0), (1, .int p1), (2, .int p2), (3, .int p3)] → W p l e (headSpec wq_c_X12_service ({ frames := 3, cells := 0, slots := 0, locals := 71 } : Room)).room s m ([.ref h0, .int p1, .int p2, .int p3].toArray) below meth c H locs 0 0 (MQ below (va_Qi (fun (r : Int32) (_ : Unit) => True) (fun (_ : Unit) t => ∃ f1 : Nat → va_E, Iv dC dI g A f1 t.heap ∧ Kp g [12] f f1 ∧ ∃ (w0 : Int32) (w1 : Int32) (w10 : Int32) (w12 : Int32) (w13 : Int32) (w14 : Int32) (w15 : Int32) (w16 : Int64) (w17 : Int32) (w18 : Int32) (w23 : Int32) (w24 : Int64) (w25 : Int64) (w26 : Int64) (q1 : Nat → Int64) (u1 : Nat → Int64) (im1 : Nat → Int64) (ik1 : Nat → Int32), (f1 h0 = .inr (12, [.int w0, .int w1, .ref (gr g h0 2), .ref (gr g h0 3), .ref (gr g h0 4), .ref (gr g h0 5), .ref (gr g h0 6), .ref (gr g h0 7), .ref (gr g h0 8), .ref (gr g h0 9), .int w10, .ref (gr g h0 11), .int w12, .int w13, .int w14, .int w15, .long w16, .int w17, .int w18, .ref (gr g h0 19), .ref (gr g h0 20), .ref (gr g h0 21), .ref (gr g h0 22), .int w23, .long w24, .long w25, .long w26])) ∧ (0 ≤ w10.toInt ∧ w10.toInt ≤ 10) ∧ (0 ≤ w12.toInt ∧ w12.toInt ≤ 200) ∧ (0 ≤ w23.toInt ∧ w23.toInt ≤ 8) ∧ (f1 (gr g h0 4) = .inl (gc g 1, 906, .inr (.inl q1))) ∧ (RowOK q1) ∧ (f1 (gr g h0 5) = .inl (gc g 1, 9060, .inr (.inl u1))) ∧ (f1 (gr g h0 7) = .inl (gc g 1, 1812, .inr (.inl im1))) ∧ (f1 (gr g h0 8) = .inl (gc g 3, 2, .inl ik1)) ∧ (UIq w10 u1 im1 ik1)) A) ([.ref h0, .int p1, .int p2, .int p3].toArray) s 0 0 A) (F0 m 31 ls []) := by
        intro nn
        induction nn with
        | zero => intro y_23 y_24 H locs ls m_26; exact absurd m_26 (Nat.not_lt_zero _)
        | succ nn ih =>
          intro y_23 y_24 H locs ls m_26 hI hS t_25 hl
          have g_27 := Int32.toInt_lt p3
          have g_28 := Int32.le_toInt p3
          have g_29 := Int64.toInt_lt y_23
          refine lv_lload hx hb dX12_service_31 (lv_at hl 0 rfl) ?_
          refine lv_iload_n hx hb dX12_service_33 rfl (lv_at hl 5 rfl) ?_
          refine lv_i2l (v := p3.toInt64) hx hb dX12_service_34 rfl ?_
          have t_30 := Int32.toInt_toInt64 p3
          have g_31 := Int32.toInt_lt p3
          have g_32 := Int32.le_toInt p3
          refine W.lcmp hx hb dX12_service_35 ?_
          refine lv_if_ge (tgt := 75) hx hb dX12_service_36 (by decide) (fun c_33 => ?_) (fun c_33 => ?_)
          · have c_33 := lc_le rfl rfl ((lg_cmp_ge _ _).mp c_33)
            refine lv_iload hx hb dX12_service_75 (lv_at hl 1 rfl) ?_
            exact W.iret (v := y_24) hx hb hr (fun t ht hW => ⟨⟨y_24, (), rfl, trivial, ⟨f_6, k_ret ht hI, kp_8, 0, z1, z10, z12, z13, z14, z15, z16, z17, z18, z23, z24, z25, z26, q, u, im, kt, k_9, (by first | omega | decide), (by first | omega | decide), (by first | omega | decide), k_10, hc1_ok, k_11, k_12, k_13, hU⟩⟩, hS.F ht⟩) hS.2.2 dX12_service_77
          · have c_33 := ln_le rfl rfl (fun h9 => c_33 ((lg_cmp_ge _ _).mpr h9))
            refine lv_iload hx hb dX12_service_39 (lv_at hl 1 rfl) ?_
            refine lv_aload_n hx hb dX12_service_41 rfl (lv_at hl 2 rfl) ?_
            refine k_get (ci := 12) (v := .ref (gr g h0 4)) (C := RX12) (T := TX12) (N := 27) hx hb hts (fun _ h0_ => List.mem_cons_of_mem _ (List.mem_append_right _ (List.mem_append_left _ h0_))) hown hK hI i_h0.1 k_9 rfl 4 (by decide) (hts (.fieldLink RX12 16 "DeadlineShareModel" "row" "[J") (List.mem_cons_of_mem _ (List.mem_append_left _ (List.mem_of_getElem? (i := 8) rfl)))) (fun _ h9 => h9) rfl dX12_service_42 ?_
            refine lv_aload_n hx hb dX12_service_45 rfl (lv_at hl 2 rfl) ?_
            refine lv_lload hx hb dX12_service_46 (lv_at hl 0 rfl) ?_
            refine va_calli (va_runV (As := [.long y_23]) (rest := [.ref (gr g h0 4), .int y_24]) ⟨hx, hb, hml, hown, hts⟩ (c_X12_logAt l dC dI g A hG f_6 h0 y_23 q i_h0 k_10 hc1_ok) (cwV 1 hts (gi_V (fun w_ h0_ => ⟨List.mem_cons_of_mem _ (List.mem_append_right _ (List.mem_append_right _ (List.mem_append_right _ (List.mem_append_right _ (List.mem_append_left _ h0_))))), (tb_c_X12_logAt w_ h0_).2⟩) (List.mem_cons_of_mem _ (List.mem_append_left _ (List.mem_of_getElem? (i := 9) rfl))) (List.mem_cons_of_mem _ (List.mem_append_left _ (List.mem_of_getElem? (i := 10) rfl))) (List.mem_cons_of_mem _ (List.mem_append_left _ (List.mem_of_getElem? (i := 11) rfl))) (List.mem_cons_of_mem _ (List.mem_append_left _ (List.mem_of_getElem? (i := 4) rfl)))) rfl rfl rfl (by decide +kernel) ⟨Nat.le_of_ble_eq_true rfl, Nat.le_of_ble_eq_true rfl⟩) ⟨fun a U g mk q => ⟨q.1, q.2.calling rfl rfl⟩, k_recv hK hI i_h0.1 k_9 (ci := 12) rfl, fun U hU hW => ⟨rfl, kIn.of hI hK hE hS hU hW⟩⟩ rfl rfl hl.1 rfl (lv_room (Nat.le_of_ble_eq_true rfl)) dX12_service_48 ⟨Nat.le_of_ble_eq_true rfl, Nat.le_of_ble_eq_true rfl⟩) hS (fun q _ h => h) (fun q h => h) (fun r_37 u9 t H1 locs ht hvm w_36 hB hz1 hk1 hS => ?_)
            have hI : Iv dC dI g A f_6 t.heap := hB
            rw [ht] at hI
            generalize H1 = H at hI hS ⊢
            refine W.widen (k := 0) (n := 0) (Nat.le_of_ble_eq_true rfl) (Nat.le_of_ble_eq_true rfl) ?_
            have w_36 : LAp q y_23.toInt r_37 := w_36
            obtain ⟨m_38, em_38, tm_38⟩ := la_get w_36 (by omega) (by omega)
            refine k_topi (y := nI (522 + 3 * m_38)) em_38 ?_
            refine k_lald hx hb hK hI i_1.1 1 k_10 rfl (vp_in_nI (by omega) (by omega)) dX12_service_51 ?_
            refine k_topl (y := q (522 + 3 * m_38)) (congrArg q (nI_clamp (by omega))) ?_
            refine lv_iload_n hx hb dX12_service_52 rfl (lv_at hl 3 rfl) ?_
            refine lv_i2l (v := p1.toInt64) hx hb dX12_service_53 rfl ?_
            have t_39 := Int32.toInt_toInt64 p1
            have g_40 := Int32.toInt_lt p1
            have g_41 := Int32.le_toInt p1
            refine W.lcmp hx hb dX12_service_54 ?_
            have J_63 : ∀ (y_42 : Int32) (H : Heap) (locs : List Loc) (ls : Array Slot), Iv dC dI g A f_6 H → va_S A s.heap H locs → lv_has ls 7 [(5, .long y_23), (4, .int y_24), (0, .ref h0), (1, .int p1), (2, .int p2), (3, .int p3)] → W p l e (headSpec wq_c_X12_service ({ frames := 3, cells := 0, slots := 0, locals := 71 } : Room)).room s m ([.ref h0, .int p1, .int p2, .int p3].toArray) below meth c H locs 0 0 (MQ below (va_Qi (fun (r : Int32) (_ : Unit) => True) (fun (_ : Unit) t => ∃ f1 : Nat → va_E, Iv dC dI g A f1 t.heap ∧ Kp g [12] f f1 ∧ ∃ (w0 : Int32) (w1 : Int32) (w10 : Int32) (w12 : Int32) (w13 : Int32) (w14 : Int32) (w15 : Int32) (w16 : Int64) (w17 : Int32) (w18 : Int32) (w23 : Int32) (w24 : Int64) (w25 : Int64) (w26 : Int64) (q1 : Nat → Int64) (u1 : Nat → Int64) (im1 : Nat → Int64) (ik1 : Nat → Int32), (f1 h0 = .inr (12, [.int w0, .int w1, .ref (gr g h0 2), .ref (gr g h0 3), .ref (gr g h0 4), .ref (gr g h0 5), .ref (gr g h0 6), .ref (gr g h0 7), .ref (gr g h0 8), .ref (gr g h0 9), .int w10, .ref (gr g h0 11), .int w12, .int w13, .int w14, .int w15, .long w16, .int w17, .int w18, .ref (gr g h0 19), .ref (gr g h0 20), .ref (gr g h0 21), .ref (gr g h0 22), .int w23, .long w24, .long w25, .long w26])) ∧ (0 ≤ w10.toInt ∧ w10.toInt ≤ 10) ∧ (0 ≤ w12.toInt ∧ w12.toInt ≤ 200) ∧ (0 ≤ w23.toInt ∧ w23.toInt ≤ 8) ∧ (f1 (gr g h0 4) = .inl (gc g 1, 906, .inr (.inl q1))) ∧ (RowOK q1) ∧ (f1 (gr g h0 5) = .inl (gc g 1, 9060, .inr (.inl u1))) ∧ (f1 (gr g h0 7) = .inl (gc g 1, 1812, .inr (.inl im1))) ∧ (f1 (gr g h0 8) = .inl (gc g 3, 2, .inl ik1)) ∧ (UIq w10 u1 im1 ik1)) A) ([.ref h0, .int p1, .int p2, .int p3].toArray) s 0 0 A) (F0 m 63 ls [.int y_42, .int y_24]) := by
              intro y_42 H locs ls hI hS  hl
              refine lv_iadd hx hb dX12_service_63 ?_
              refine lv_topi (fun v_43 ev_43 => ?_)
              have tv_43 := k_ad y_24 y_42
              rw [← ev_43] at tv_43
              refine lv_istore (lv' := [(4, .int v_43), (5, .long y_23), (0, .ref h0), (1, .int p1), (2, .int p2), (3, .int p3)]) hx hb dX12_service_64 hl (by decide) rfl (fun ls hl => ?_)
              refine lv_lload hx hb dX12_service_66 (lv_at hl 1 rfl) ?_
              refine lv_lconst (v := 1) hx hb dX12_service_68 (by decide) ?_
              refine lv_ladd hx hb dX12_service_69 ?_
              refine lv_topl (fun v_44 ev_44 => ?_)
              have tv_44 := l_ad y_23 1
              rw [← ev_44, show Int64.toInt 1 = 1 from by decide] at tv_44
              refine lv_lstore (lv' := [(5, .long v_44), (4, .int v_43), (0, .ref h0), (1, .int p1), (2, .int p2), (3, .int p3)]) hx hb dX12_service_70 hl (by decide) rfl (fun ls hl => ?_)
              refine lv_goto (tgt := 31) hx hb dX12_service_72 (by decide) ?_
              exact ih v_44 v_43 _ _ _ (by omega) hI hS (by first | omega | decide | exact Or.inl (by decide)) (lv_sub hl [0, 1, 2, 3, 4, 5] rfl)
            refine lv_if_ne (tgt := 62) hx hb dX12_service_55 (by decide) (fun c_45 => ?_) (fun c_45 => ?_)
            · have c_45 := ln_eq rfl rfl (fun h9 => c_45 ((lg_cmp_eq _ _).mpr h9))
              refine lv_iconst (v := 0) hx hb dX12_service_62 (by decide) ?_
              exact J_63 0 _ _ _ hI hS  (lv_sub hl [0, 1, 2, 3, 4, 5] rfl)
            · have c_45 := lc_eq rfl rfl ((lg_cmp_eq _ _).mp c_45)
              refine lv_iconst (v := 1) hx hb dX12_service_58 (by decide) ?_
              refine lv_goto (tgt := 63) hx hb dX12_service_59 (by decide) ?_
              exact J_63 1 _ _ _ hI hS  (lv_sub hl [0, 1, 2, 3, 4, 5] rfl)
      exact K_31 _ p2.toInt64 0 _ _ _ (Nat.lt_succ_self _) hI hS (by first | omega | decide | exact Or.inl (by decide) | (simp only [show Int32.toInt 0 = 0 from by decide] <;> omega)) (lv_sub hl [0, 1, 2, 3, 4, 5] rfl)
    · have c_19 := kc_eq rfl (by decide : Int32.toInt 0 = 0) c_19
      refine lv_iconst (v := (-1)) hx hb dX12_service_22 (by decide) ?_
      exact W.iret (v := (-1)) hx hb hr (fun t ht hW => ⟨⟨(-1), (), rfl, trivial, ⟨f_6, k_ret ht hI, kp_8, 0, z1, z10, z12, z13, z14, z15, z16, z17, z18, z23, z24, z25, z26, q, u, im, kt, k_9, (by first | omega | decide), (by first | omega | decide), (by first | omega | decide), k_10, hc1_ok, k_11, k_12, k_13, hU⟩⟩, hS.F ht⟩) hS.2.2 dX12_service_23
