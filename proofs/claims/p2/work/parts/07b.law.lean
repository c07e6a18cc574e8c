theorem tw_1150 : q_g (.methodLink RL 52 yX11_wish) := ⟨(List.mem_append_right _ (List.mem_of_getElem? (i := 585) (by decide +kernel))), good_of_word (by decide +kernel)⟩
theorem tw_1151 : q_g (.instanceMethod yX11_wish) := ⟨(List.mem_append_right _ (List.mem_of_getElem? (i := 586) (by decide +kernel))), good_of_word (by decide +kernel)⟩
theorem tw_1152 : q_g (.selects RX11 yX11_wish yX11_wish) := ⟨(List.mem_append_right _ (List.mem_of_getElem? (i := 587) (by decide +kernel))), good_of_word (by decide +kernel)⟩
theorem tw_1153 : q_g (.methodLink RL 55 yX12_wish) := ⟨(List.mem_append_right _ (List.mem_of_getElem? (i := 1307) (by decide +kernel))), good_of_word (by decide +kernel)⟩
theorem tw_1154 : q_g (.instanceMethod yX12_wish) := ⟨(List.mem_append_right _ (List.mem_of_getElem? (i := 1308) (by decide +kernel))), good_of_word (by decide +kernel)⟩
theorem tw_1155 : q_g (.selects RX12 yX12_wish yX12_wish) := ⟨(List.mem_append_right _ (List.mem_of_getElem? (i := 1309) (by decide +kernel))), good_of_word (by decide +kernel)⟩
set_option maxHeartbeats 4000000 in
set_option maxRecDepth 100000 in
theorem law_wish {p : Program} {l : Launch} {e : Env} {s : State} {m : MethodId} {below : List Frame} {meth : Method} {c : Code} {dC : Nat → ClassId} {dI : Nat → Nat → Nat} {g : kG} {A : Nat → Prop} {b L : Nat} {xs : Nat → Int32} {x1 mo : Nat} (C0 : lw_At p s m meth c b L xs) (hL : L ≤ 3072) (hbA : ¬ A b) (hG : kWf g) (hK : va_K (dC, dI) vwCl (gty g) s) (hE : kE g A s) (i_x : ik g 11 x1) (i_m : ik g 12 mo) {n : Nat} (hn : 6 * n + 6 ≤ L) {f : Nat → va_E} {H : Heap} {locs : List Loc} {ls : Array Slot} (hI : Iv dC dI g A f H) (hS : va_S A s.heap H locs) (hLI : LI g f x1 mo) (hl : lv_has ls 4 [(0, .ref b), (1, .ref x1), (2, .ref mo), (3, .int (nI (6 * n)))]) (kk : ∀ (f : Nat → va_E) (H : Heap) (locs : List Loc) (ls : Array Slot), Iv dC dI g A f H → va_S A s.heap H locs → LI g f x1 mo → lv_has ls 4 [(0, .ref b), (1, .ref x1), (2, .ref mo), (3, .int (nI (6 * n)))] → W p l e room_1 s m #[Value.ref b] below meth c H locs 786 20946 (lw_Z below #[Value.ref b] s) (F0 m 1200 ls [])) : W p l e room_1 s m #[Value.ref b] below meth c H locs 786 20946 (lw_Z below #[Value.ref b] s) (F0 m 479 ls []) := by
  obtain ⟨hx, hb, hr, hml, hown, hts, hX, hbl, hlocks, hgv⟩ := id C0
  have hown : s.vm.findClass RL = some m.cls := hown
  obtain ⟨z0, z1, z10, z12, z13, z14, z15, z16, z17, z18, z23, z24, z25, z26, q, u, im, kt, tm, a0, a1, a2, hmo, hb0, hb1, hb2, hcq, hcu, hci, hck, hct, hok, hui, hca, he0, he1, he2⟩ := hLI
  have hk0 : Kp g [0, 1, 2, 3, 4, 5, 6, 7, 8, 9, 10, 11, 12, 20, 21, 22, 23, 24, 25, 26, 27, 28, 30, 31, 32, 33, 34, 35, 36, 37, 38, 39, 40, 41, 42] f f := Kp.rf
  have i_mo_4 := kw_12_4 hG i_m
  have i_mo_5 := kw_12_5 hG i_m
  have i_mo_7 := kw_12_7 hG i_m
  have i_mo_8 := kw_12_8 hG i_m
  have i_mo_3 := kw_12_3 hG i_m
  have i_x1_0 := kw_11_0 hG i_x
  refine lv_aload_n hx hb dL_law_479 rfl (lv_at hl 1 rfl) ?_
  refine lv_aload_n hx hb dL_law_480 rfl (lv_at hl 0 rfl) ?_
  refine lv_iload_n hx hb dL_law_481 rfl (lv_at hl 3 rfl) ?_
  refine lv_iconst (v := 1) hx hb dL_law_482 (by decide) ?_
  refine lv_iadd hx hb dL_law_483 ?_
  refine k_topi (y := nI (6 * n + 1)) ((nI_add (6 * n) 1).trans (congrArg nI (by omega))) ?_
  refine va_sld hx hb hX hbl hbA hS (vp_in_nI (by omega) (by omega)) dL_law_484 ?_
  refine k_topi (y := xs (6 * n + 1)) (congrArg xs (nI_clamp (by omega))) ?_
  refine lv_aload_n hx hb dL_law_485 rfl (lv_at hl 0 rfl) ?_
  refine lv_iload_n hx hb dL_law_486 rfl (lv_at hl 3 rfl) ?_
  refine lv_iconst (v := 2) hx hb dL_law_487 (by decide) ?_
  refine lv_iadd hx hb dL_law_488 ?_
  refine k_topi (y := nI (6 * n + 2)) ((nI_add (6 * n) 2).trans (congrArg nI (by omega))) ?_
  refine va_sld hx hb hX hbl hbA hS (vp_in_nI (by omega) (by omega)) dL_law_489 ?_
  refine k_topi (y := xs (6 * n + 2)) (congrArg xs (nI_clamp (by omega))) ?_
  obtain ⟨x_2, k_1⟩ := op_11 hI i_x
  refine va_calli (va_runV (As := [.int (xs (6 * n + 1)), .int (xs (6 * n + 2))]) (rest := []) ⟨hx, hb, hml, hown, hts⟩ (c_X11_wish l dC dI g A hG f x1 (xs (6 * n + 1)) (xs (6 * n + 2)) i_x) (cwV 2 hts (gi_V tb_c_X11_wish tw_1150.1 tw_1151.1 tw_1152.1 tw_56.1) rfl rfl rfl (by decide +kernel) ⟨Nat.le_of_ble_eq_true rfl, Nat.le_of_ble_eq_true rfl⟩) ⟨fun a U g mk q => ⟨q.1, q.2.calling rfl rfl⟩, k_recv hK hI i_x.1 k_1 (ci := 11) rfl, fun U hU hW => ⟨rfl, kIn.of hI hK hE hS hU hW⟩⟩ rfl rfl hl.1 rfl (lv_room (Nat.le_of_ble_eq_true rfl)) dL_law_490 ⟨Nat.le_of_ble_eq_true rfl, Nat.le_of_ble_eq_true rfl⟩) hS (fun q _ h => h) (fun q h => h) (fun r_5 u9 t H1 locs ht hvm w_4 hB hz1 hk1 hS => ?_)
  obtain ⟨f_3, hI, kc_6⟩ := hB
  rw [ht] at hI
  have k_7 : f_3 mo = .inr (12, [.int z0, .int z1, .ref (gr g mo 2), .ref (gr g mo 3), .ref (gr g mo 4), .ref (gr g mo 5), .ref (gr g mo 6), .ref (gr g mo 7), .ref (gr g mo 8), .ref (gr g mo 9), .int z10, .ref (gr g mo 11), .int z12, .int z13, .int z14, .int z15, .long z16, .int z17, .int z18, .ref (gr g mo 19), .ref (gr g mo 20), .ref (gr g mo 21), .ref (gr g mo 22), .int z23, .long z24, .long z25, .long z26]) := Kp.at kc_6 i_m (by decide) hmo
  have k_8 : f_3 (gr g mo 4) = .inl (gc g 1, 906, .inr (.inl q)) := Kp.at kc_6 i_mo_4 (by decide) hcq
  have k_9 : f_3 (gr g mo 5) = .inl (gc g 1, 9060, .inr (.inl u)) := Kp.at kc_6 i_mo_5 (by decide) hcu
  have k_10 : f_3 (gr g mo 7) = .inl (gc g 1, 1812, .inr (.inl im)) := Kp.at kc_6 i_mo_7 (by decide) hci
  have k_11 : f_3 (gr g mo 8) = .inl (gc g 3, 2, .inl kt) := Kp.at kc_6 i_mo_8 (by decide) hck
  have k_12 : f_3 (gr g mo 3) = .inl (gc g 0, 3, .inl tm) := Kp.at kc_6 i_mo_3 (by decide) hct
  have k_13 : f_3 (gr g x1 0) = .inr (9, [.int a0, .int a1, .int a2]) := Kp.at kc_6 i_x1_0 (by decide) hca
  have k_14 : f_3 x1 = .inr (11, [.ref (gr g x1 0), .ref (gr g x1 1), .ref (gr g x1 2), .ref (gr g x1 3), .ref (gr g x1 4), .ref (gr g x1 5), .ref (gr g x1 6), .ref (gr g x1 7), .ref (gr g x1 8), .ref (gr g x1 9), .ref (gr g x1 10), .int x_2]) := Kp.at kc_6 i_x (by decide) k_1
  have kp_15 := Kp.call hk0 kc_6 (by decide)
  generalize H1 = H at hI hS ⊢
  refine W.widen (k := 786) (n := 20946) (Nat.le_of_ble_eq_true rfl) (Nat.le_of_ble_eq_true rfl) ?_
  refine lv_pop hx hb dL_law_493 rfl ?_
  refine lv_aload_n hx hb dL_law_494 rfl (lv_at hl 2 rfl) ?_
  refine lv_aload_n hx hb dL_law_495 rfl (lv_at hl 0 rfl) ?_
  refine lv_iload_n hx hb dL_law_496 rfl (lv_at hl 3 rfl) ?_
  refine lv_iconst (v := 1) hx hb dL_law_497 (by decide) ?_
  refine lv_iadd hx hb dL_law_498 ?_
  refine k_topi (y := nI (6 * n + 1)) ((nI_add (6 * n) 1).trans (congrArg nI (by omega))) ?_
  refine va_sld hx hb hX hbl hbA hS (vp_in_nI (by omega) (by omega)) dL_law_499 ?_
  refine k_topi (y := xs (6 * n + 1)) (congrArg xs (nI_clamp (by omega))) ?_
  refine lv_aload_n hx hb dL_law_500 rfl (lv_at hl 0 rfl) ?_
  refine lv_iload_n hx hb dL_law_501 rfl (lv_at hl 3 rfl) ?_
  refine lv_iconst (v := 2) hx hb dL_law_502 (by decide) ?_
  refine lv_iadd hx hb dL_law_503 ?_
  refine k_topi (y := nI (6 * n + 2)) ((nI_add (6 * n) 2).trans (congrArg nI (by omega))) ?_
  refine va_sld hx hb hX hbl hbA hS (vp_in_nI (by omega) (by omega)) dL_law_504 ?_
  refine k_topi (y := xs (6 * n + 2)) (congrArg xs (nI_clamp (by omega))) ?_
  refine va_calli (va_runV (As := [.int (xs (6 * n + 1)), .int (xs (6 * n + 2))]) (rest := []) ⟨hx, hb, hml, hown, hts⟩ (c_X12_wish l dC dI g A hG f_3 mo (xs (6 * n + 1)) (xs (6 * n + 2)) z0 z1 z10 z12 z13 z14 z15 z16 z17 z18 z23 z24 z25 z26 q u im kt i_m k_7 (by omega) (by omega) (by omega) k_8 hok k_9 k_10 k_11 hui) (cwV 2 hts (gi_V tb_c_X12_wish tw_1153.1 tw_1154.1 tw_1155.1 tw_728.1) rfl rfl rfl (by decide +kernel) ⟨Nat.le_of_ble_eq_true rfl, Nat.le_of_ble_eq_true rfl⟩) ⟨fun a U g mk q => ⟨q.1, q.2.calling rfl rfl⟩, k_recv hK hI i_m.1 k_7 (ci := 12) rfl, fun U hU hW => ⟨rfl, kIn.of hI hK hE hS hU hW⟩⟩ rfl rfl hl.1 rfl (lv_room (Nat.le_of_ble_eq_true rfl)) dL_law_505 ⟨Nat.le_of_ble_eq_true rfl, Nat.le_of_ble_eq_true rfl⟩) hS (fun q _ h => h) (fun q h => h) (fun r_18 u9 t H1 locs ht hvm w_17 hB hz1 hk1 hS => ?_)
  obtain ⟨f_16, hI, kc_19, w0_20, w1_21, w10_22, w12_23, w13_24, w14_25, w15_26, w16_27, w17_28, w18_29, w23_30, w24_31, w25_32, w26_33, q1_34, u1_35, im1_36, ik1_37, k_38, z_39, z_40, z_41, k_42, z_43, k_44, k_45, k_46, z_47⟩ := hB
  rw [ht] at hI
  have k_48 : f_16 (gr g mo 7) = .inl (gc g 1, 1812, .inr (.inl im)) := Kp.at kc_19 i_mo_7 (by decide) k_10
  have k_49 : f_16 (gr g mo 8) = .inl (gc g 3, 2, .inl kt) := Kp.at kc_19 i_mo_8 (by decide) k_11
  have k_50 : f_16 (gr g mo 3) = .inl (gc g 0, 3, .inl tm) := Kp.at kc_19 i_mo_3 (by decide) k_12
  have k_51 : f_16 (gr g x1 0) = .inr (9, [.int a0, .int a1, .int a2]) := Kp.at kc_19 i_x1_0 (by decide) k_13
  have k_52 : f_16 x1 = .inr (11, [.ref (gr g x1 0), .ref (gr g x1 1), .ref (gr g x1 2), .ref (gr g x1 3), .ref (gr g x1 4), .ref (gr g x1 5), .ref (gr g x1 6), .ref (gr g x1 7), .ref (gr g x1 8), .ref (gr g x1 9), .ref (gr g x1 10), .int x_2]) := Kp.at kc_19 i_x (by decide) k_14
  have k_38 : f_16 mo = .inr (12, [.int w0_20, .int w1_21, .ref (gr g mo 2), .ref (gr g mo 3), .ref (gr g mo 4), .ref (gr g mo 5), .ref (gr g mo 6), .ref (gr g mo 7), .ref (gr g mo 8), .ref (gr g mo 9), .int w10_22, .ref (gr g mo 11), .int w12_23, .int w13_24, .int w14_25, .int w15_26, .long w16_27, .int w17_28, .int w18_29, .ref (gr g mo 19), .ref (gr g mo 20), .ref (gr g mo 21), .ref (gr g mo 22), .int w23_30, .long w24_31, .long w25_32, .long w26_33]) := k_38
  have z_39 : 0 ≤ w10_22.toInt ∧ w10_22.toInt ≤ 10 := z_39
  have z_40 : 0 ≤ w12_23.toInt ∧ w12_23.toInt ≤ 200 := z_40
  have z_41 : 0 ≤ w23_30.toInt ∧ w23_30.toInt ≤ 8 := z_41
  have z_43 : RowOK q1_34 := z_43
  have d_53 := rk_hd z_43
  have z_47 : UIq w10_22 u1_35 im1_36 ik1_37 := z_47
  have kp_54 := Kp.call kp_15 kc_19 (by decide)
  generalize H1 = H at hI hS ⊢
  refine W.widen (k := 786) (n := 20946) (Nat.le_of_ble_eq_true rfl) (Nat.le_of_ble_eq_true rfl) ?_
  refine lv_pop hx hb dL_law_508 rfl ?_
  refine lv_goto (tgt := 1200) hx hb dL_law_509 (by decide) ?_
  exact kk _ _ _ _ hI hS ⟨w0_20, w1_21, w10_22, w12_23, w13_24, w14_25, w15_26, w16_27, w17_28, w18_29, w23_30, w24_31, w25_32, w26_33, q1_34, u1_35, im1_36, ik1_37, tm, a0, a1, a2, k_38, (by omega), (by omega), (by omega), k_42, k_44, k_45, k_46, k_50, z_43, z_47, k_51, he0, he1, he2⟩ hl
theorem tw_1156 : q_g (.methodLink RL 56 yX11_yields) := ⟨(List.mem_append_right _ (List.mem_of_getElem? (i := 597) (by decide +kernel))), good_of_word (by decide +kernel)⟩
theorem tw_1157 : q_g (.instanceMethod yX11_yields) := ⟨(List.mem_append_right _ (List.mem_of_getElem? (i := 598) (by decide +kernel))), good_of_word (by decide +kernel)⟩
theorem tw_1158 : q_g (.selects RX11 yX11_yields yX11_yields) := ⟨(List.mem_append_right _ (List.mem_of_getElem? (i := 599) (by decide +kernel))), good_of_word (by decide +kernel)⟩
theorem tw_1159 : q_g (.methodLink RL 59 yX12_yields) := ⟨(List.mem_append_right _ (List.mem_of_getElem? (i := 1312) (by decide +kernel))), good_of_word (by decide +kernel)⟩
theorem tw_1160 : q_g (.instanceMethod yX12_yields) := ⟨(List.mem_append_right _ (List.mem_of_getElem? (i := 1313) (by decide +kernel))), good_of_word (by decide +kernel)⟩
theorem tw_1161 : q_g (.selects RX12 yX12_yields yX12_yields) := ⟨(List.mem_append_right _ (List.mem_of_getElem? (i := 1314) (by decide +kernel))), good_of_word (by decide +kernel)⟩
set_option maxHeartbeats 4000000 in
set_option maxRecDepth 100000 in
theorem law_yields {p : Program} {l : Launch} {e : Env} {s : State} {m : MethodId} {below : List Frame} {meth : Method} {c : Code} {dC : Nat → ClassId} {dI : Nat → Nat → Nat} {g : kG} {A : Nat → Prop} {b L : Nat} {xs : Nat → Int32} {x1 mo : Nat} (C0 : lw_At p s m meth c b L xs) (hL : L ≤ 3072) (hbA : ¬ A b) (hG : kWf g) (hK : va_K (dC, dI) vwCl (gty g) s) (hE : kE g A s) (i_x : ik g 11 x1) (i_m : ik g 12 mo) {n : Nat} (hn : 6 * n + 6 ≤ L) {f : Nat → va_E} {H : Heap} {locs : List Loc} {ls : Array Slot} (hI : Iv dC dI g A f H) (hS : va_S A s.heap H locs) (hLI : LI g f x1 mo) (hl : lv_has ls 4 [(0, .ref b), (1, .ref x1), (2, .ref mo), (3, .int (nI (6 * n)))]) (kk : ∀ (f : Nat → va_E) (H : Heap) (locs : List Loc) (ls : Array Slot), Iv dC dI g A f H → va_S A s.heap H locs → LI g f x1 mo → lv_has ls 4 [(0, .ref b), (1, .ref x1), (2, .ref mo), (3, .int (nI (6 * n)))] → W p l e room_1 s m #[Value.ref b] below meth c H locs 786 20946 (lw_Z below #[Value.ref b] s) (F0 m 1200 ls [])) : W p l e room_1 s m #[Value.ref b] below meth c H locs 786 20946 (lw_Z below #[Value.ref b] s) (F0 m 512 ls []) := by
  obtain ⟨hx, hb, hr, hml, hown, hts, hX, hbl, hlocks, hgv⟩ := id C0
  have hown : s.vm.findClass RL = some m.cls := hown
  obtain ⟨z0, z1, z10, z12, z13, z14, z15, z16, z17, z18, z23, z24, z25, z26, q, u, im, kt, tm, a0, a1, a2, hmo, hb0, hb1, hb2, hcq, hcu, hci, hck, hct, hok, hui, hca, he0, he1, he2⟩ := hLI
  have hk0 : Kp g [0, 1, 2, 3, 4, 5, 6, 7, 8, 9, 10, 11, 12, 20, 21, 22, 23, 24, 25, 26, 27, 28, 30, 31, 32, 33, 34, 35, 36, 37, 38, 39, 40, 41, 42] f f := Kp.rf
  have i_mo_4 := kw_12_4 hG i_m
  have i_mo_5 := kw_12_5 hG i_m
  have i_mo_7 := kw_12_7 hG i_m
  have i_mo_8 := kw_12_8 hG i_m
  have i_mo_3 := kw_12_3 hG i_m
  have i_x1_0 := kw_11_0 hG i_x
  refine lv_aload_n hx hb dL_law_512 rfl (lv_at hl 1 rfl) ?_
  refine lv_aload_n hx hb dL_law_513 rfl (lv_at hl 0 rfl) ?_
  refine lv_iload_n hx hb dL_law_514 rfl (lv_at hl 3 rfl) ?_
  refine lv_iconst (v := 1) hx hb dL_law_515 (by decide) ?_
  refine lv_iadd hx hb dL_law_516 ?_
  refine k_topi (y := nI (6 * n + 1)) ((nI_add (6 * n) 1).trans (congrArg nI (by omega))) ?_
  refine va_sld hx hb hX hbl hbA hS (vp_in_nI (by omega) (by omega)) dL_law_517 ?_
  refine k_topi (y := xs (6 * n + 1)) (congrArg xs (nI_clamp (by omega))) ?_
  obtain ⟨x_2, k_1⟩ := op_11 hI i_x
  refine va_calli (va_runV (As := [.int (xs (6 * n + 1))]) (rest := []) ⟨hx, hb, hml, hown, hts⟩ (c_X11_yields l dC dI g A hG f x1 (xs (6 * n + 1)) i_x) (cwV 1 hts (gi_V tb_c_X11_yields tw_1156.1 tw_1157.1 tw_1158.1 tw_56.1) rfl rfl rfl (by decide +kernel) ⟨Nat.le_of_ble_eq_true rfl, Nat.le_of_ble_eq_true rfl⟩) ⟨fun a U g mk q => ⟨q.1, q.2.calling rfl rfl⟩, k_recv hK hI i_x.1 k_1 (ci := 11) rfl, fun U hU hW => ⟨rfl, kIn.of hI hK hE hS hU hW⟩⟩ rfl rfl hl.1 rfl (lv_room (Nat.le_of_ble_eq_true rfl)) dL_law_518 ⟨Nat.le_of_ble_eq_true rfl, Nat.le_of_ble_eq_true rfl⟩) hS (fun q _ h => h) (fun q h => h) (fun r_5 u9 t H1 locs ht hvm w_4 hB hz1 hk1 hS => ?_)
  obtain ⟨f_3, hI, kc_6⟩ := hB
  rw [ht] at hI
  have k_7 : f_3 mo = .inr (12, [.int z0, .int z1, .ref (gr g mo 2), .ref (gr g mo 3), .ref (gr g mo 4), .ref (gr g mo 5), .ref (gr g mo 6), .ref (gr g mo 7), .ref (gr g mo 8), .ref (gr g mo 9), .int z10, .ref (gr g mo 11), .int z12, .int z13, .int z14, .int z15, .long z16, .int z17, .int z18, .ref (gr g mo 19), .ref (gr g mo 20), .ref (gr g mo 21), .ref (gr g mo 22), .int z23, .long z24, .long z25, .long z26]) := Kp.at kc_6 i_m (by decide) hmo
  have k_8 : f_3 (gr g mo 4) = .inl (gc g 1, 906, .inr (.inl q)) := Kp.at kc_6 i_mo_4 (by decide) hcq
  have k_9 : f_3 (gr g mo 5) = .inl (gc g 1, 9060, .inr (.inl u)) := Kp.at kc_6 i_mo_5 (by decide) hcu
  have k_10 : f_3 (gr g mo 7) = .inl (gc g 1, 1812, .inr (.inl im)) := Kp.at kc_6 i_mo_7 (by decide) hci
  have k_11 : f_3 (gr g mo 8) = .inl (gc g 3, 2, .inl kt) := Kp.at kc_6 i_mo_8 (by decide) hck
  have k_12 : f_3 (gr g mo 3) = .inl (gc g 0, 3, .inl tm) := Kp.at kc_6 i_mo_3 (by decide) hct
  have k_13 : f_3 (gr g x1 0) = .inr (9, [.int a0, .int a1, .int a2]) := Kp.at kc_6 i_x1_0 (by decide) hca
  have k_14 : f_3 x1 = .inr (11, [.ref (gr g x1 0), .ref (gr g x1 1), .ref (gr g x1 2), .ref (gr g x1 3), .ref (gr g x1 4), .ref (gr g x1 5), .ref (gr g x1 6), .ref (gr g x1 7), .ref (gr g x1 8), .ref (gr g x1 9), .ref (gr g x1 10), .int x_2]) := Kp.at kc_6 i_x (by decide) k_1
  have kp_15 := Kp.call hk0 kc_6 (by decide)
  generalize H1 = H at hI hS ⊢
  refine W.widen (k := 786) (n := 20946) (Nat.le_of_ble_eq_true rfl) (Nat.le_of_ble_eq_true rfl) ?_
  refine lv_pop hx hb dL_law_521 rfl ?_
  refine lv_aload_n hx hb dL_law_522 rfl (lv_at hl 2 rfl) ?_
  refine lv_aload_n hx hb dL_law_523 rfl (lv_at hl 0 rfl) ?_
  refine lv_iload_n hx hb dL_law_524 rfl (lv_at hl 3 rfl) ?_
  refine lv_iconst (v := 1) hx hb dL_law_525 (by decide) ?_
  refine lv_iadd hx hb dL_law_526 ?_
  refine k_topi (y := nI (6 * n + 1)) ((nI_add (6 * n) 1).trans (congrArg nI (by omega))) ?_
  refine va_sld hx hb hX hbl hbA hS (vp_in_nI (by omega) (by omega)) dL_law_527 ?_
  refine k_topi (y := xs (6 * n + 1)) (congrArg xs (nI_clamp (by omega))) ?_
  refine va_calli (va_runV (As := [.int (xs (6 * n + 1))]) (rest := []) ⟨hx, hb, hml, hown, hts⟩ (c_X12_yields l dC dI g A hG f_3 mo (xs (6 * n + 1)) z0 z1 z10 z12 z13 z14 z15 z16 z17 z18 z23 z24 z25 z26 q u im kt i_m k_7 (by omega) (by omega) (by omega) k_8 hok k_9 k_10 k_11 hui) (cwV 1 hts (gi_V tb_c_X12_yields tw_1159.1 tw_1160.1 tw_1161.1 tw_728.1) rfl rfl rfl (by decide +kernel) ⟨Nat.le_of_ble_eq_true rfl, Nat.le_of_ble_eq_true rfl⟩) ⟨fun a U g mk q => ⟨q.1, q.2.calling rfl rfl⟩, k_recv hK hI i_m.1 k_7 (ci := 12) rfl, fun U hU hW => ⟨rfl, kIn.of hI hK hE hS hU hW⟩⟩ rfl rfl hl.1 rfl (lv_room (Nat.le_of_ble_eq_true rfl)) dL_law_528 ⟨Nat.le_of_ble_eq_true rfl, Nat.le_of_ble_eq_true rfl⟩) hS (fun q _ h => h) (fun q h => h) (fun r_18 u9 t H1 locs ht hvm w_17 hB hz1 hk1 hS => ?_)
  obtain ⟨f_16, hI, kc_19, w0_20, w1_21, w10_22, w12_23, w13_24, w14_25, w15_26, w16_27, w17_28, w18_29, w23_30, w24_31, w25_32, w26_33, q1_34, u1_35, im1_36, ik1_37, k_38, z_39, z_40, z_41, k_42, z_43, k_44, k_45, k_46, z_47⟩ := hB
  rw [ht] at hI
  have k_48 : f_16 (gr g mo 7) = .inl (gc g 1, 1812, .inr (.inl im)) := Kp.at kc_19 i_mo_7 (by decide) k_10
  have k_49 : f_16 (gr g mo 8) = .inl (gc g 3, 2, .inl kt) := Kp.at kc_19 i_mo_8 (by decide) k_11
  have k_50 : f_16 (gr g mo 3) = .inl (gc g 0, 3, .inl tm) := Kp.at kc_19 i_mo_3 (by decide) k_12
  have k_51 : f_16 (gr g x1 0) = .inr (9, [.int a0, .int a1, .int a2]) := Kp.at kc_19 i_x1_0 (by decide) k_13
  have k_52 : f_16 x1 = .inr (11, [.ref (gr g x1 0), .ref (gr g x1 1), .ref (gr g x1 2), .ref (gr g x1 3), .ref (gr g x1 4), .ref (gr g x1 5), .ref (gr g x1 6), .ref (gr g x1 7), .ref (gr g x1 8), .ref (gr g x1 9), .ref (gr g x1 10), .int x_2]) := Kp.at kc_19 i_x (by decide) k_14
  have k_38 : f_16 mo = .inr (12, [.int w0_20, .int w1_21, .ref (gr g mo 2), .ref (gr g mo 3), .ref (gr g mo 4), .ref (gr g mo 5), .ref (gr g mo 6), .ref (gr g mo 7), .ref (gr g mo 8), .ref (gr g mo 9), .int w10_22, .ref (gr g mo 11), .int w12_23, .int w13_24, .int w14_25, .int w15_26, .long w16_27, .int w17_28, .int w18_29, .ref (gr g mo 19), .ref (gr g mo 20), .ref (gr g mo 21), .ref (gr g mo 22), .int w23_30, .long w24_31, .long w25_32, .long w26_33]) := k_38
  have z_39 : 0 ≤ w10_22.toInt ∧ w10_22.toInt ≤ 10 := z_39
  have z_40 : 0 ≤ w12_23.toInt ∧ w12_23.toInt ≤ 200 := z_40
  have z_41 : 0 ≤ w23_30.toInt ∧ w23_30.toInt ≤ 8 := z_41
  have z_43 : RowOK q1_34 := z_43
  have d_53 := rk_hd z_43
  have z_47 : UIq w10_22 u1_35 im1_36 ik1_37 := z_47
  have kp_54 := Kp.call kp_15 kc_19 (by decide)
  generalize H1 = H at hI hS ⊢
  refine W.widen (k := 786) (n := 20946) (Nat.le_of_ble_eq_true rfl) (Nat.le_of_ble_eq_true rfl) ?_
  refine lv_pop hx hb dL_law_531 rfl ?_
  refine lv_goto (tgt := 1200) hx hb dL_law_532 (by decide) ?_
  exact kk _ _ _ _ hI hS ⟨w0_20, w1_21, w10_22, w12_23, w13_24, w14_25, w15_26, w16_27, w17_28, w18_29, w23_30, w24_31, w25_32, w26_33, q1_34, u1_35, im1_36, ik1_37, tm, a0, a1, a2, k_38, (by omega), (by omega), (by omega), k_42, k_44, k_45, k_46, k_50, z_43, z_47, k_51, he0, he1, he2⟩ hl
theorem tw_1162 : q_g (.methodLink RL 60 yX11_quota) := ⟨(List.mem_append_right _ (List.mem_of_getElem? (i := 613) (by decide +kernel))), good_of_word (by decide +kernel)⟩
theorem tw_1163 : q_g (.instanceMethod yX11_quota) := ⟨(List.mem_append_right _ (List.mem_of_getElem? (i := 614) (by decide +kernel))), good_of_word (by decide +kernel)⟩
theorem tw_1164 : q_g (.selects RX11 yX11_quota yX11_quota) := ⟨(List.mem_append_right _ (List.mem_of_getElem? (i := 615) (by decide +kernel))), good_of_word (by decide +kernel)⟩
theorem tw_1165 : q_g (.methodLink RL 64 yX12_quota) := ⟨(List.mem_append_right _ (List.mem_of_getElem? (i := 1320) (by decide +kernel))), good_of_word (by decide +kernel)⟩
theorem tw_1166 : q_g (.instanceMethod yX12_quota) := ⟨(List.mem_append_right _ (List.mem_of_getElem? (i := 1321) (by decide +kernel))), good_of_word (by decide +kernel)⟩
theorem tw_1167 : q_g (.selects RX12 yX12_quota yX12_quota) := ⟨(List.mem_append_right _ (List.mem_of_getElem? (i := 1322) (by decide +kernel))), good_of_word (by decide +kernel)⟩
set_option maxHeartbeats 4000000 in
set_option maxRecDepth 100000 in
theorem law_quota {p : Program} {l : Launch} {e : Env} {s : State} {m : MethodId} {below : List Frame} {meth : Method} {c : Code} {dC : Nat → ClassId} {dI : Nat → Nat → Nat} {g : kG} {A : Nat → Prop} {b L : Nat} {xs : Nat → Int32} {x1 mo : Nat} (C0 : lw_At p s m meth c b L xs) (hL : L ≤ 3072) (hbA : ¬ A b) (hG : kWf g) (hK : va_K (dC, dI) vwCl (gty g) s) (hE : kE g A s) (i_x : ik g 11 x1) (i_m : ik g 12 mo) {n : Nat} (hn : 6 * n + 6 ≤ L) {f : Nat → va_E} {H : Heap} {locs : List Loc} {ls : Array Slot} (hI : Iv dC dI g A f H) (hS : va_S A s.heap H locs) (hLI : LI g f x1 mo) (hl : lv_has ls 4 [(0, .ref b), (1, .ref x1), (2, .ref mo), (3, .int (nI (6 * n)))]) (kk : ∀ (f : Nat → va_E) (H : Heap) (locs : List Loc) (ls : Array Slot), Iv dC dI g A f H → va_S A s.heap H locs → LI g f x1 mo → lv_has ls 4 [(0, .ref b), (1, .ref x1), (2, .ref mo), (3, .int (nI (6 * n)))] → W p l e room_1 s m #[Value.ref b] below meth c H locs 786 20946 (lw_Z below #[Value.ref b] s) (F0 m 1200 ls [])) : W p l e room_1 s m #[Value.ref b] below meth c H locs 786 20946 (lw_Z below #[Value.ref b] s) (F0 m 535 ls []) := by
  obtain ⟨hx, hb, hr, hml, hown, hts, hX, hbl, hlocks, hgv⟩ := id C0
  have hown : s.vm.findClass RL = some m.cls := hown
  obtain ⟨z0, z1, z10, z12, z13, z14, z15, z16, z17, z18, z23, z24, z25, z26, q, u, im, kt, tm, a0, a1, a2, hmo, hb0, hb1, hb2, hcq, hcu, hci, hck, hct, hok, hui, hca, he0, he1, he2⟩ := hLI
  have hk0 : Kp g [0, 1, 2, 3, 4, 5, 6, 7, 8, 9, 10, 11, 12, 20, 21, 22, 23, 24, 25, 26, 27, 28, 30, 31, 32, 33, 34, 35, 36, 37, 38, 39, 40, 41, 42] f f := Kp.rf
  have i_mo_4 := kw_12_4 hG i_m
  have i_mo_5 := kw_12_5 hG i_m
  have i_mo_7 := kw_12_7 hG i_m
  have i_mo_8 := kw_12_8 hG i_m
  have i_mo_3 := kw_12_3 hG i_m
  have i_x1_0 := kw_11_0 hG i_x
  refine lv_aload_n hx hb dL_law_535 rfl (lv_at hl 1 rfl) ?_
  refine lv_aload_n hx hb dL_law_536 rfl (lv_at hl 0 rfl) ?_
  refine lv_iload_n hx hb dL_law_537 rfl (lv_at hl 3 rfl) ?_
  refine lv_iconst (v := 1) hx hb dL_law_538 (by decide) ?_
  refine lv_iadd hx hb dL_law_539 ?_
  refine k_topi (y := nI (6 * n + 1)) ((nI_add (6 * n) 1).trans (congrArg nI (by omega))) ?_
  refine va_sld hx hb hX hbl hbA hS (vp_in_nI (by omega) (by omega)) dL_law_540 ?_
  refine k_topi (y := xs (6 * n + 1)) (congrArg xs (nI_clamp (by omega))) ?_
  refine lv_aload_n hx hb dL_law_541 rfl (lv_at hl 0 rfl) ?_
  refine lv_iload_n hx hb dL_law_542 rfl (lv_at hl 3 rfl) ?_
  refine lv_iconst (v := 2) hx hb dL_law_543 (by decide) ?_
  refine lv_iadd hx hb dL_law_544 ?_
  refine k_topi (y := nI (6 * n + 2)) ((nI_add (6 * n) 2).trans (congrArg nI (by omega))) ?_
  refine va_sld hx hb hX hbl hbA hS (vp_in_nI (by omega) (by omega)) dL_law_545 ?_
  refine k_topi (y := xs (6 * n + 2)) (congrArg xs (nI_clamp (by omega))) ?_
  refine lv_aload_n hx hb dL_law_546 rfl (lv_at hl 0 rfl) ?_
  refine lv_iload_n hx hb dL_law_547 rfl (lv_at hl 3 rfl) ?_
  refine lv_iconst (v := 3) hx hb dL_law_548 (by decide) ?_
  refine lv_iadd hx hb dL_law_549 ?_
  refine k_topi (y := nI (6 * n + 3)) ((nI_add (6 * n) 3).trans (congrArg nI (by omega))) ?_
  refine va_sld hx hb hX hbl hbA hS (vp_in_nI (by omega) (by omega)) dL_law_550 ?_
  refine k_topi (y := xs (6 * n + 3)) (congrArg xs (nI_clamp (by omega))) ?_
  obtain ⟨x_2, k_1⟩ := op_11 hI i_x
  refine va_calli (va_runV (As := [.int (xs (6 * n + 1)), .int (xs (6 * n + 2)), .int (xs (6 * n + 3))]) (rest := []) ⟨hx, hb, hml, hown, hts⟩ (c_X11_quota l dC dI g A hG f x1 (xs (6 * n + 1)) (xs (6 * n + 2)) (xs (6 * n + 3)) i_x) (cwV 3 hts (gi_V tb_c_X11_quota tw_1162.1 tw_1163.1 tw_1164.1 tw_56.1) rfl rfl rfl (by decide +kernel) ⟨Nat.le_of_ble_eq_true rfl, Nat.le_of_ble_eq_true rfl⟩) ⟨fun a U g mk q => ⟨q.1, q.2.calling rfl rfl⟩, k_recv hK hI i_x.1 k_1 (ci := 11) rfl, fun U hU hW => ⟨rfl, kIn.of hI hK hE hS hU hW⟩⟩ rfl rfl hl.1 rfl (lv_room (Nat.le_of_ble_eq_true rfl)) dL_law_551 ⟨Nat.le_of_ble_eq_true rfl, Nat.le_of_ble_eq_true rfl⟩) hS (fun q _ h => h) (fun q h => h) (fun r_5 u9 t H1 locs ht hvm w_4 hB hz1 hk1 hS => ?_)
  obtain ⟨f_3, hI, kc_6⟩ := hB
  rw [ht] at hI
  have k_7 : f_3 mo = .inr (12, [.int z0, .int z1, .ref (gr g mo 2), .ref (gr g mo 3), .ref (gr g mo 4), .ref (gr g mo 5), .ref (gr g mo 6), .ref (gr g mo 7), .ref (gr g mo 8), .ref (gr g mo 9), .int z10, .ref (gr g mo 11), .int z12, .int z13, .int z14, .int z15, .long z16, .int z17, .int z18, .ref (gr g mo 19), .ref (gr g mo 20), .ref (gr g mo 21), .ref (gr g mo 22), .int z23, .long z24, .long z25, .long z26]) := Kp.at kc_6 i_m (by decide) hmo
  have k_8 : f_3 (gr g mo 4) = .inl (gc g 1, 906, .inr (.inl q)) := Kp.at kc_6 i_mo_4 (by decide) hcq
  have k_9 : f_3 (gr g mo 5) = .inl (gc g 1, 9060, .inr (.inl u)) := Kp.at kc_6 i_mo_5 (by decide) hcu
  have k_10 : f_3 (gr g mo 7) = .inl (gc g 1, 1812, .inr (.inl im)) := Kp.at kc_6 i_mo_7 (by decide) hci
  have k_11 : f_3 (gr g mo 8) = .inl (gc g 3, 2, .inl kt) := Kp.at kc_6 i_mo_8 (by decide) hck
  have k_12 : f_3 (gr g mo 3) = .inl (gc g 0, 3, .inl tm) := Kp.at kc_6 i_mo_3 (by decide) hct
  have k_13 : f_3 (gr g x1 0) = .inr (9, [.int a0, .int a1, .int a2]) := Kp.at kc_6 i_x1_0 (by decide) hca
  have k_14 : f_3 x1 = .inr (11, [.ref (gr g x1 0), .ref (gr g x1 1), .ref (gr g x1 2), .ref (gr g x1 3), .ref (gr g x1 4), .ref (gr g x1 5), .ref (gr g x1 6), .ref (gr g x1 7), .ref (gr g x1 8), .ref (gr g x1 9), .ref (gr g x1 10), .int x_2]) := Kp.at kc_6 i_x (by decide) k_1
  have kp_15 := Kp.call hk0 kc_6 (by decide)
  generalize H1 = H at hI hS ⊢
  refine W.widen (k := 786) (n := 20946) (Nat.le_of_ble_eq_true rfl) (Nat.le_of_ble_eq_true rfl) ?_
  refine lv_pop hx hb dL_law_554 rfl ?_
  refine lv_aload_n hx hb dL_law_555 rfl (lv_at hl 2 rfl) ?_
  refine lv_aload_n hx hb dL_law_556 rfl (lv_at hl 0 rfl) ?_
  refine lv_iload_n hx hb dL_law_557 rfl (lv_at hl 3 rfl) ?_
  refine lv_iconst (v := 1) hx hb dL_law_558 (by decide) ?_
  refine lv_iadd hx hb dL_law_559 ?_
  refine k_topi (y := nI (6 * n + 1)) ((nI_add (6 * n) 1).trans (congrArg nI (by omega))) ?_
  refine va_sld hx hb hX hbl hbA hS (vp_in_nI (by omega) (by omega)) dL_law_560 ?_
  refine k_topi (y := xs (6 * n + 1)) (congrArg xs (nI_clamp (by omega))) ?_
  refine lv_aload_n hx hb dL_law_561 rfl (lv_at hl 0 rfl) ?_
  refine lv_iload_n hx hb dL_law_562 rfl (lv_at hl 3 rfl) ?_
  refine lv_iconst (v := 2) hx hb dL_law_563 (by decide) ?_
  refine lv_iadd hx hb dL_law_564 ?_
  refine k_topi (y := nI (6 * n + 2)) ((nI_add (6 * n) 2).trans (congrArg nI (by omega))) ?_
  refine va_sld hx hb hX hbl hbA hS (vp_in_nI (by omega) (by omega)) dL_law_565 ?_
  refine k_topi (y := xs (6 * n + 2)) (congrArg xs (nI_clamp (by omega))) ?_
  refine lv_aload_n hx hb dL_law_566 rfl (lv_at hl 0 rfl) ?_
  refine lv_iload_n hx hb dL_law_567 rfl (lv_at hl 3 rfl) ?_
  refine lv_iconst (v := 3) hx hb dL_law_568 (by decide) ?_
  refine lv_iadd hx hb dL_law_569 ?_
  refine k_topi (y := nI (6 * n + 3)) ((nI_add (6 * n) 3).trans (congrArg nI (by omega))) ?_
  refine va_sld hx hb hX hbl hbA hS (vp_in_nI (by omega) (by omega)) dL_law_570 ?_
  refine k_topi (y := xs (6 * n + 3)) (congrArg xs (nI_clamp (by omega))) ?_
  refine va_calli (va_runV (As := [.int (xs (6 * n + 1)), .int (xs (6 * n + 2)), .int (xs (6 * n + 3))]) (rest := []) ⟨hx, hb, hml, hown, hts⟩ (c_X12_quota l dC dI g A hG f_3 mo (xs (6 * n + 1)) (xs (6 * n + 2)) (xs (6 * n + 3)) z0 z1 z10 z12 z13 z14 z15 z16 z17 z18 z23 z24 z25 z26 q u im kt i_m k_7 (by omega) (by omega) (by omega) k_8 hok k_9 k_10 k_11 hui) (cwV 3 hts (gi_V tb_c_X12_quota tw_1165.1 tw_1166.1 tw_1167.1 tw_728.1) rfl rfl rfl (by decide +kernel) ⟨Nat.le_of_ble_eq_true rfl, Nat.le_of_ble_eq_true rfl⟩) ⟨fun a U g mk q => ⟨q.1, q.2.calling rfl rfl⟩, k_recv hK hI i_m.1 k_7 (ci := 12) rfl, fun U hU hW => ⟨rfl, kIn.of hI hK hE hS hU hW⟩⟩ rfl rfl hl.1 rfl (lv_room (Nat.le_of_ble_eq_true rfl)) dL_law_571 ⟨Nat.le_of_ble_eq_true rfl, Nat.le_of_ble_eq_true rfl⟩) hS (fun q _ h => h) (fun q h => h) (fun r_18 u9 t H1 locs ht hvm w_17 hB hz1 hk1 hS => ?_)
  obtain ⟨f_16, hI, kc_19, w0_20, w1_21, w10_22, w12_23, w13_24, w14_25, w15_26, w16_27, w17_28, w18_29, w23_30, w24_31, w25_32, w26_33, q1_34, u1_35, im1_36, ik1_37, k_38, z_39, z_40, z_41, k_42, z_43, k_44, k_45, k_46, z_47⟩ := hB
  rw [ht] at hI
  have k_48 : f_16 (gr g mo 7) = .inl (gc g 1, 1812, .inr (.inl im)) := Kp.at kc_19 i_mo_7 (by decide) k_10
  have k_49 : f_16 (gr g mo 8) = .inl (gc g 3, 2, .inl kt) := Kp.at kc_19 i_mo_8 (by decide) k_11
  have k_50 : f_16 (gr g mo 3) = .inl (gc g 0, 3, .inl tm) := Kp.at kc_19 i_mo_3 (by decide) k_12
  have k_51 : f_16 (gr g x1 0) = .inr (9, [.int a0, .int a1, .int a2]) := Kp.at kc_19 i_x1_0 (by decide) k_13
  have k_52 : f_16 x1 = .inr (11, [.ref (gr g x1 0), .ref (gr g x1 1), .ref (gr g x1 2), .ref (gr g x1 3), .ref (gr g x1 4), .ref (gr g x1 5), .ref (gr g x1 6), .ref (gr g x1 7), .ref (gr g x1 8), .ref (gr g x1 9), .ref (gr g x1 10), .int x_2]) := Kp.at kc_19 i_x (by decide) k_14
  have k_38 : f_16 mo = .inr (12, [.int w0_20, .int w1_21, .ref (gr g mo 2), .ref (gr g mo 3), .ref (gr g mo 4), .ref (gr g mo 5), .ref (gr g mo 6), .ref (gr g mo 7), .ref (gr g mo 8), .ref (gr g mo 9), .int w10_22, .ref (gr g mo 11), .int w12_23, .int w13_24, .int w14_25, .int w15_26, .long w16_27, .int w17_28, .int w18_29, .ref (gr g mo 19), .ref (gr g mo 20), .ref (gr g mo 21), .ref (gr g mo 22), .int w23_30, .long w24_31, .long w25_32, .long w26_33]) := k_38
  have z_39 : 0 ≤ w10_22.toInt ∧ w10_22.toInt ≤ 10 := z_39
  have z_40 : 0 ≤ w12_23.toInt ∧ w12_23.toInt ≤ 200 := z_40
  have z_41 : 0 ≤ w23_30.toInt ∧ w23_30.toInt ≤ 8 := z_41
  have z_43 : RowOK q1_34 := z_43
  have d_53 := rk_hd z_43
  have z_47 : UIq w10_22 u1_35 im1_36 ik1_37 := z_47
  have kp_54 := Kp.call kp_15 kc_19 (by decide)
  generalize H1 = H at hI hS ⊢
  refine W.widen (k := 786) (n := 20946) (Nat.le_of_ble_eq_true rfl) (Nat.le_of_ble_eq_true rfl) ?_
  refine lv_pop hx hb dL_law_574 rfl ?_
  refine lv_goto (tgt := 1200) hx hb dL_law_575 (by decide) ?_
  exact kk _ _ _ _ hI hS ⟨w0_20, w1_21, w10_22, w12_23, w13_24, w14_25, w15_26, w16_27, w17_28, w18_29, w23_30, w24_31, w25_32, w26_33, q1_34, u1_35, im1_36, ik1_37, tm, a0, a1, a2, k_38, (by omega), (by omega), (by omega), k_42, k_44, k_45, k_46, k_50, z_43, z_47, k_51, he0, he1, he2⟩ hl
theorem tw_1168 : q_g (.methodLink RL 65 yX11_script) := ⟨(List.mem_append_right _ (List.mem_of_getElem? (i := 618) (by decide +kernel))), good_of_word (by decide +kernel)⟩
theorem tw_1169 : q_g (.instanceMethod yX11_script) := ⟨(List.mem_append_right _ (List.mem_of_getElem? (i := 619) (by decide +kernel))), good_of_word (by decide +kernel)⟩
theorem tw_1170 : q_g (.selects RX11 yX11_script yX11_script) := ⟨(List.mem_append_right _ (List.mem_of_getElem? (i := 620) (by decide +kernel))), good_of_word (by decide +kernel)⟩
theorem tw_1171 : q_g (.methodLink RL 68 yX12_script) := ⟨(List.mem_append_right _ (List.mem_of_getElem? (i := 1334) (by decide +kernel))), good_of_word (by decide +kernel)⟩
theorem tw_1172 : q_g (.instanceMethod yX12_script) := ⟨(List.mem_append_right _ (List.mem_of_getElem? (i := 1335) (by decide +kernel))), good_of_word (by decide +kernel)⟩
theorem tw_1173 : q_g (.selects RX12 yX12_script yX12_script) := ⟨(List.mem_append_right _ (List.mem_of_getElem? (i := 1336) (by decide +kernel))), good_of_word (by decide +kernel)⟩
set_option maxHeartbeats 4000000 in
set_option maxRecDepth 100000 in
theorem law_script {p : Program} {l : Launch} {e : Env} {s : State} {m : MethodId} {below : List Frame} {meth : Method} {c : Code} {dC : Nat → ClassId} {dI : Nat → Nat → Nat} {g : kG} {A : Nat → Prop} {b L : Nat} {xs : Nat → Int32} {x1 mo : Nat} (C0 : lw_At p s m meth c b L xs) (hL : L ≤ 3072) (hbA : ¬ A b) (hG : kWf g) (hK : va_K (dC, dI) vwCl (gty g) s) (hE : kE g A s) (i_x : ik g 11 x1) (i_m : ik g 12 mo) {n : Nat} (hn : 6 * n + 6 ≤ L) {f : Nat → va_E} {H : Heap} {locs : List Loc} {ls : Array Slot} (hI : Iv dC dI g A f H) (hS : va_S A s.heap H locs) (hLI : LI g f x1 mo) (hl : lv_has ls 4 [(0, .ref b), (1, .ref x1), (2, .ref mo), (3, .int (nI (6 * n)))]) (kk : ∀ (f : Nat → va_E) (H : Heap) (locs : List Loc) (ls : Array Slot), Iv dC dI g A f H → va_S A s.heap H locs → LI g f x1 mo → lv_has ls 4 [(0, .ref b), (1, .ref x1), (2, .ref mo), (3, .int (nI (6 * n)))] → W p l e room_1 s m #[Value.ref b] below meth c H locs 786 20946 (lw_Z below #[Value.ref b] s) (F0 m 1200 ls [])) : W p l e room_1 s m #[Value.ref b] below meth c H locs 786 20946 (lw_Z below #[Value.ref b] s) (F0 m 578 ls []) := by
  obtain ⟨hx, hb, hr, hml, hown, hts, hX, hbl, hlocks, hgv⟩ := id C0
  have hown : s.vm.findClass RL = some m.cls := hown
  obtain ⟨z0, z1, z10, z12, z13, z14, z15, z16, z17, z18, z23, z24, z25, z26, q, u, im, kt, tm, a0, a1, a2, hmo, hb0, hb1, hb2, hcq, hcu, hci, hck, hct, hok, hui, hca, he0, he1, he2⟩ := hLI
  have hk0 : Kp g [0, 1, 2, 3, 4, 5, 6, 7, 8, 9, 10, 11, 12, 20, 21, 22, 23, 24, 25, 26, 27, 28, 30, 31, 32, 33, 34, 35, 36, 37, 38, 39, 40, 41, 42] f f := Kp.rf
  have i_mo_4 := kw_12_4 hG i_m
  have i_mo_5 := kw_12_5 hG i_m
  have i_mo_7 := kw_12_7 hG i_m
  have i_mo_8 := kw_12_8 hG i_m
  have i_mo_3 := kw_12_3 hG i_m
  have i_x1_0 := kw_11_0 hG i_x
  refine lv_aload_n hx hb dL_law_578 rfl (lv_at hl 1 rfl) ?_
  refine lv_aload_n hx hb dL_law_579 rfl (lv_at hl 0 rfl) ?_
  refine lv_iload_n hx hb dL_law_580 rfl (lv_at hl 3 rfl) ?_
  refine lv_iconst (v := 1) hx hb dL_law_581 (by decide) ?_
  refine lv_iadd hx hb dL_law_582 ?_
  refine k_topi (y := nI (6 * n + 1)) ((nI_add (6 * n) 1).trans (congrArg nI (by omega))) ?_
  refine va_sld hx hb hX hbl hbA hS (vp_in_nI (by omega) (by omega)) dL_law_583 ?_
  refine k_topi (y := xs (6 * n + 1)) (congrArg xs (nI_clamp (by omega))) ?_
  obtain ⟨x_2, k_1⟩ := op_11 hI i_x
  refine va_calli (va_runV (As := [.int (xs (6 * n + 1))]) (rest := []) ⟨hx, hb, hml, hown, hts⟩ (c_X11_script l dC dI g A hG f x1 (xs (6 * n + 1)) i_x) (cwV 1 hts (gi_V tb_c_X11_script tw_1168.1 tw_1169.1 tw_1170.1 tw_56.1) rfl rfl rfl (by decide +kernel) ⟨Nat.le_of_ble_eq_true rfl, Nat.le_of_ble_eq_true rfl⟩) ⟨fun a U g mk q => ⟨q.1, q.2.calling rfl rfl⟩, k_recv hK hI i_x.1 k_1 (ci := 11) rfl, fun U hU hW => ⟨rfl, kIn.of hI hK hE hS hU hW⟩⟩ rfl rfl hl.1 rfl (lv_room (Nat.le_of_ble_eq_true rfl)) dL_law_584 ⟨Nat.le_of_ble_eq_true rfl, Nat.le_of_ble_eq_true rfl⟩) hS (fun q _ h => h) (fun q h => h) (fun r_5 u9 t H1 locs ht hvm w_4 hB hz1 hk1 hS => ?_)
  obtain ⟨f_3, hI, kc_6⟩ := hB
  rw [ht] at hI
  have k_7 : f_3 mo = .inr (12, [.int z0, .int z1, .ref (gr g mo 2), .ref (gr g mo 3), .ref (gr g mo 4), .ref (gr g mo 5), .ref (gr g mo 6), .ref (gr g mo 7), .ref (gr g mo 8), .ref (gr g mo 9), .int z10, .ref (gr g mo 11), .int z12, .int z13, .int z14, .int z15, .long z16, .int z17, .int z18, .ref (gr g mo 19), .ref (gr g mo 20), .ref (gr g mo 21), .ref (gr g mo 22), .int z23, .long z24, .long z25, .long z26]) := Kp.at kc_6 i_m (by decide) hmo
  have k_8 : f_3 (gr g mo 4) = .inl (gc g 1, 906, .inr (.inl q)) := Kp.at kc_6 i_mo_4 (by decide) hcq
  have k_9 : f_3 (gr g mo 5) = .inl (gc g 1, 9060, .inr (.inl u)) := Kp.at kc_6 i_mo_5 (by decide) hcu
  have k_10 : f_3 (gr g mo 7) = .inl (gc g 1, 1812, .inr (.inl im)) := Kp.at kc_6 i_mo_7 (by decide) hci
  have k_11 : f_3 (gr g mo 8) = .inl (gc g 3, 2, .inl kt) := Kp.at kc_6 i_mo_8 (by decide) hck
  have k_12 : f_3 (gr g mo 3) = .inl (gc g 0, 3, .inl tm) := Kp.at kc_6 i_mo_3 (by decide) hct
  have k_13 : f_3 (gr g x1 0) = .inr (9, [.int a0, .int a1, .int a2]) := Kp.at kc_6 i_x1_0 (by decide) hca
  have kp_14 := Kp.call hk0 kc_6 (by decide)
  generalize H1 = H at hI hS ⊢
  refine W.widen (k := 786) (n := 20946) (Nat.le_of_ble_eq_true rfl) (Nat.le_of_ble_eq_true rfl) ?_
  refine lv_pop hx hb dL_law_587 rfl ?_
  refine lv_aload_n hx hb dL_law_588 rfl (lv_at hl 2 rfl) ?_
  refine lv_aload_n hx hb dL_law_589 rfl (lv_at hl 0 rfl) ?_
  refine lv_iload_n hx hb dL_law_590 rfl (lv_at hl 3 rfl) ?_
  refine lv_iconst (v := 1) hx hb dL_law_591 (by decide) ?_
  refine lv_iadd hx hb dL_law_592 ?_
  refine k_topi (y := nI (6 * n + 1)) ((nI_add (6 * n) 1).trans (congrArg nI (by omega))) ?_
  refine va_sld hx hb hX hbl hbA hS (vp_in_nI (by omega) (by omega)) dL_law_593 ?_
  refine k_topi (y := xs (6 * n + 1)) (congrArg xs (nI_clamp (by omega))) ?_
  have i_15 := kw_12_21 hG i_m
  obtain ⟨q_17, k_16, b_18⟩ := op_41 hI i_15
  have i_19 := kw_12_22 hG i_m
  obtain ⟨q_21, k_20⟩ := op_42 hI i_19
  refine va_calli (va_runV (As := [.int (xs (6 * n + 1))]) (rest := []) ⟨hx, hb, hml, hown, hts⟩ (c_X12_script l dC dI g A hG f_3 mo (xs (6 * n + 1)) z0 z1 z10 z12 z13 z14 z15 z16 z17 z18 z23 z24 z25 z26 q u im kt q_17 q_21 i_m k_7 (by omega) (by omega) (by omega) k_8 hok k_9 k_10 k_11 k_16 k_20 hui) (cwV 1 hts (gi_V tb_c_X12_script tw_1171.1 tw_1172.1 tw_1173.1 tw_728.1) rfl rfl rfl (by decide +kernel) ⟨Nat.le_of_ble_eq_true rfl, Nat.le_of_ble_eq_true rfl⟩) ⟨fun a U g mk q => ⟨q.1, q.2.calling rfl rfl⟩, k_recv hK hI i_m.1 k_7 (ci := 12) rfl, fun U hU hW => ⟨rfl, kIn.of hI hK hE hS hU hW⟩⟩ rfl rfl hl.1 rfl (lv_room (Nat.le_of_ble_eq_true rfl)) dL_law_594 ⟨Nat.le_of_ble_eq_true rfl, Nat.le_of_ble_eq_true rfl⟩) hS (fun q _ h => h) (fun q h => h) (fun r_24 u9 t H1 locs ht hvm w_23 hB hz1 hk1 hS => ?_)
  obtain ⟨f_22, hI, kc_25, w0_26, w1_27, w10_28, w12_29, w13_30, w14_31, w15_32, w16_33, w17_34, w18_35, w23_36, w24_37, w25_38, w26_39, q1_40, u1_41, im1_42, ik1_43, k_44, z_45, z_46, z_47, k_48, z_49, k_50, k_51, k_52, z_53⟩ := hB
  rw [ht] at hI
  have k_54 : f_22 (gr g mo 7) = .inl (gc g 1, 1812, .inr (.inl im)) := Kp.at kc_25 i_mo_7 (by decide) k_10
  have k_55 : f_22 (gr g mo 8) = .inl (gc g 3, 2, .inl kt) := Kp.at kc_25 i_mo_8 (by decide) k_11
  have k_56 : f_22 (gr g mo 3) = .inl (gc g 0, 3, .inl tm) := Kp.at kc_25 i_mo_3 (by decide) k_12
  have k_57 : f_22 (gr g x1 0) = .inr (9, [.int a0, .int a1, .int a2]) := Kp.at kc_25 i_x1_0 (by decide) k_13
  have k_44 : f_22 mo = .inr (12, [.int w0_26, .int w1_27, .ref (gr g mo 2), .ref (gr g mo 3), .ref (gr g mo 4), .ref (gr g mo 5), .ref (gr g mo 6), .ref (gr g mo 7), .ref (gr g mo 8), .ref (gr g mo 9), .int w10_28, .ref (gr g mo 11), .int w12_29, .int w13_30, .int w14_31, .int w15_32, .long w16_33, .int w17_34, .int w18_35, .ref (gr g mo 19), .ref (gr g mo 20), .ref (gr g mo 21), .ref (gr g mo 22), .int w23_36, .long w24_37, .long w25_38, .long w26_39]) := k_44
  have z_45 : 0 ≤ w10_28.toInt ∧ w10_28.toInt ≤ 10 := z_45
  have z_46 : 0 ≤ w12_29.toInt ∧ w12_29.toInt ≤ 200 := z_46
  have z_47 : 0 ≤ w23_36.toInt ∧ w23_36.toInt ≤ 8 := z_47
  have z_49 : RowOK q1_40 := z_49
  have d_58 := rk_hd z_49
  have z_53 : UIq w10_28 u1_41 im1_42 ik1_43 := z_53
  have kp_59 := Kp.call kp_14 kc_25 (by decide)
  generalize H1 = H at hI hS ⊢
  refine W.widen (k := 786) (n := 20946) (Nat.le_of_ble_eq_true rfl) (Nat.le_of_ble_eq_true rfl) ?_
  refine lv_pop hx hb dL_law_597 rfl ?_
  refine lv_goto (tgt := 1200) hx hb dL_law_598 (by decide) ?_
  exact kk _ _ _ _ hI hS ⟨w0_26, w1_27, w10_28, w12_29, w13_30, w14_31, w15_32, w16_33, w17_34, w18_35, w23_36, w24_37, w25_38, w26_39, q1_40, u1_41, im1_42, ik1_43, tm, a0, a1, a2, k_44, (by omega), (by omega), (by omega), k_48, k_50, k_51, k_52, k_56, z_49, z_53, k_57, he0, he1, he2⟩ hl
theorem tw_1174 : q_g (.methodLink RL 69 yX11_listing) := ⟨(List.mem_append_right _ (List.mem_of_getElem? (i := 751) (by decide +kernel))), good_of_word (by decide +kernel)⟩
theorem tw_1175 : q_g (.instanceMethod yX11_listing) := ⟨(List.mem_append_right _ (List.mem_of_getElem? (i := 752) (by decide +kernel))), good_of_word (by decide +kernel)⟩
theorem tw_1176 : q_g (.selects RX11 yX11_listing yX11_listing) := ⟨(List.mem_append_right _ (List.mem_of_getElem? (i := 753) (by decide +kernel))), good_of_word (by decide +kernel)⟩
theorem tw_1177 : q_g (.methodLink RL 72 yX12_listing) := ⟨(List.mem_append_right _ (List.mem_of_getElem? (i := 1374) (by decide +kernel))), good_of_word (by decide +kernel)⟩
theorem tw_1178 : q_g (.instanceMethod yX12_listing) := ⟨(List.mem_append_right _ (List.mem_of_getElem? (i := 1375) (by decide +kernel))), good_of_word (by decide +kernel)⟩
theorem tw_1179 : q_g (.selects RX12 yX12_listing yX12_listing) := ⟨(List.mem_append_right _ (List.mem_of_getElem? (i := 1376) (by decide +kernel))), good_of_word (by decide +kernel)⟩
set_option maxHeartbeats 4000000 in
set_option maxRecDepth 100000 in
theorem law_listing {p : Program} {l : Launch} {e : Env} {s : State} {m : MethodId} {below : List Frame} {meth : Method} {c : Code} {dC : Nat → ClassId} {dI : Nat → Nat → Nat} {g : kG} {A : Nat → Prop} {b L : Nat} {xs : Nat → Int32} {x1 mo : Nat} (C0 : lw_At p s m meth c b L xs) (hL : L ≤ 3072) (hbA : ¬ A b) (hG : kWf g) (hK : va_K (dC, dI) vwCl (gty g) s) (hE : kE g A s) (i_x : ik g 11 x1) (i_m : ik g 12 mo) {n : Nat} (hn : 6 * n + 6 ≤ L) {f : Nat → va_E} {H : Heap} {locs : List Loc} {ls : Array Slot} (hI : Iv dC dI g A f H) (hS : va_S A s.heap H locs) (hLI : LI g f x1 mo) (hl : lv_has ls 4 [(0, .ref b), (1, .ref x1), (2, .ref mo), (3, .int (nI (6 * n)))]) (kk : ∀ (f : Nat → va_E) (H : Heap) (locs : List Loc) (ls : Array Slot), Iv dC dI g A f H → va_S A s.heap H locs → LI g f x1 mo → lv_has ls 4 [(0, .ref b), (1, .ref x1), (2, .ref mo), (3, .int (nI (6 * n)))] → W p l e room_1 s m #[Value.ref b] below meth c H locs 786 20946 (lw_Z below #[Value.ref b] s) (F0 m 1200 ls [])) : W p l e room_1 s m #[Value.ref b] below meth c H locs 786 20946 (lw_Z below #[Value.ref b] s) (F0 m 601 ls []) := by
  obtain ⟨hx, hb, hr, hml, hown, hts, hX, hbl, hlocks, hgv⟩ := id C0
  have hown : s.vm.findClass RL = some m.cls := hown
  obtain ⟨z0, z1, z10, z12, z13, z14, z15, z16, z17, z18, z23, z24, z25, z26, q, u, im, kt, tm, a0, a1, a2, hmo, hb0, hb1, hb2, hcq, hcu, hci, hck, hct, hok, hui, hca, he0, he1, he2⟩ := hLI
  have hk0 : Kp g [0, 1, 2, 3, 4, 5, 6, 7, 8, 9, 10, 11, 12, 20, 21, 22, 23, 24, 25, 26, 27, 28, 30, 31, 32, 33, 34, 35, 36, 37, 38, 39, 40, 41, 42] f f := Kp.rf
  have i_mo_4 := kw_12_4 hG i_m
  have i_mo_5 := kw_12_5 hG i_m
  have i_mo_7 := kw_12_7 hG i_m
  have i_mo_8 := kw_12_8 hG i_m
  have i_mo_3 := kw_12_3 hG i_m
  have i_x1_0 := kw_11_0 hG i_x
  refine lv_aload_n hx hb dL_law_601 rfl (lv_at hl 1 rfl) ?_
  refine lv_aload_n hx hb dL_law_602 rfl (lv_at hl 0 rfl) ?_
  refine lv_iload_n hx hb dL_law_603 rfl (lv_at hl 3 rfl) ?_
  refine lv_iconst (v := 1) hx hb dL_law_604 (by decide) ?_
  refine lv_iadd hx hb dL_law_605 ?_
  refine k_topi (y := nI (6 * n + 1)) ((nI_add (6 * n) 1).trans (congrArg nI (by omega))) ?_
  refine va_sld hx hb hX hbl hbA hS (vp_in_nI (by omega) (by omega)) dL_law_606 ?_
  refine k_topi (y := xs (6 * n + 1)) (congrArg xs (nI_clamp (by omega))) ?_
  obtain ⟨x_2, k_1⟩ := op_11 hI i_x
  refine va_calli (va_runV (As := [.int (xs (6 * n + 1))]) (rest := []) ⟨hx, hb, hml, hown, hts⟩ (c_X11_listing l dC dI g A hG f x1 (xs (6 * n + 1)) i_x) (cwV 1 hts (gi_V tb_c_X11_listing tw_1174.1 tw_1175.1 tw_1176.1 tw_56.1) rfl rfl rfl (by decide +kernel) ⟨Nat.le_of_ble_eq_true rfl, Nat.le_of_ble_eq_true rfl⟩) ⟨fun a U g mk q => ⟨q.1, q.2.calling rfl rfl⟩, k_recv hK hI i_x.1 k_1 (ci := 11) rfl, fun U hU hW => ⟨rfl, kIn.of hI hK hE hS hU hW⟩⟩ rfl rfl hl.1 rfl (lv_room (Nat.le_of_ble_eq_true rfl)) dL_law_607 ⟨Nat.le_of_ble_eq_true rfl, Nat.le_of_ble_eq_true rfl⟩) hS (fun q _ h => h) (fun q h => h) (fun r_5 u9 t H1 locs ht hvm w_4 hB hz1 hk1 hS => ?_)
  obtain ⟨f_3, hI, kc_6⟩ := hB
  rw [ht] at hI
  have k_7 : f_3 mo = .inr (12, [.int z0, .int z1, .ref (gr g mo 2), .ref (gr g mo 3), .ref (gr g mo 4), .ref (gr g mo 5), .ref (gr g mo 6), .ref (gr g mo 7), .ref (gr g mo 8), .ref (gr g mo 9), .int z10, .ref (gr g mo 11), .int z12, .int z13, .int z14, .int z15, .long z16, .int z17, .int z18, .ref (gr g mo 19), .ref (gr g mo 20), .ref (gr g mo 21), .ref (gr g mo 22), .int z23, .long z24, .long z25, .long z26]) := Kp.at kc_6 i_m (by decide) hmo
  have k_8 : f_3 (gr g mo 4) = .inl (gc g 1, 906, .inr (.inl q)) := Kp.at kc_6 i_mo_4 (by decide) hcq
  have k_9 : f_3 (gr g mo 5) = .inl (gc g 1, 9060, .inr (.inl u)) := Kp.at kc_6 i_mo_5 (by decide) hcu
  have k_10 : f_3 (gr g mo 7) = .inl (gc g 1, 1812, .inr (.inl im)) := Kp.at kc_6 i_mo_7 (by decide) hci
  have k_11 : f_3 (gr g mo 8) = .inl (gc g 3, 2, .inl kt) := Kp.at kc_6 i_mo_8 (by decide) hck
  have k_12 : f_3 (gr g mo 3) = .inl (gc g 0, 3, .inl tm) := Kp.at kc_6 i_mo_3 (by decide) hct
  have k_13 : f_3 (gr g x1 0) = .inr (9, [.int a0, .int a1, .int a2]) := Kp.at kc_6 i_x1_0 (by decide) hca
  have k_14 : f_3 x1 = .inr (11, [.ref (gr g x1 0), .ref (gr g x1 1), .ref (gr g x1 2), .ref (gr g x1 3), .ref (gr g x1 4), .ref (gr g x1 5), .ref (gr g x1 6), .ref (gr g x1 7), .ref (gr g x1 8), .ref (gr g x1 9), .ref (gr g x1 10), .int x_2]) := Kp.at kc_6 i_x (by decide) k_1
  have kp_15 := Kp.call hk0 kc_6 (by decide)
  generalize H1 = H at hI hS ⊢
  refine W.widen (k := 786) (n := 20946) (Nat.le_of_ble_eq_true rfl) (Nat.le_of_ble_eq_true rfl) ?_
  refine lv_pop hx hb dL_law_610 rfl ?_
  refine lv_aload_n hx hb dL_law_611 rfl (lv_at hl 2 rfl) ?_
  refine lv_aload_n hx hb dL_law_612 rfl (lv_at hl 0 rfl) ?_
  refine lv_iload_n hx hb dL_law_613 rfl (lv_at hl 3 rfl) ?_
  refine lv_iconst (v := 1) hx hb dL_law_614 (by decide) ?_
  refine lv_iadd hx hb dL_law_615 ?_
  refine k_topi (y := nI (6 * n + 1)) ((nI_add (6 * n) 1).trans (congrArg nI (by omega))) ?_
  refine va_sld hx hb hX hbl hbA hS (vp_in_nI (by omega) (by omega)) dL_law_616 ?_
  refine k_topi (y := xs (6 * n + 1)) (congrArg xs (nI_clamp (by omega))) ?_
  refine va_calli (va_runV (As := [.int (xs (6 * n + 1))]) (rest := []) ⟨hx, hb, hml, hown, hts⟩ (c_X12_listing l dC dI g A hG f_3 mo (xs (6 * n + 1)) z0 z1 z10 z12 z13 z14 z15 z16 z17 z18 z23 z24 z25 z26 q u im kt i_m k_7 (by omega) (by omega) (by omega) k_8 hok k_9 k_10 k_11 hui) (cwV 1 hts (gi_V tb_c_X12_listing tw_1177.1 tw_1178.1 tw_1179.1 tw_728.1) rfl rfl rfl (by decide +kernel) ⟨Nat.le_of_ble_eq_true rfl, Nat.le_of_ble_eq_true rfl⟩) ⟨fun a U g mk q => ⟨q.1, q.2.calling rfl rfl⟩, k_recv hK hI i_m.1 k_7 (ci := 12) rfl, fun U hU hW => ⟨rfl, kIn.of hI hK hE hS hU hW⟩⟩ rfl rfl hl.1 rfl (lv_room (Nat.le_of_ble_eq_true rfl)) dL_law_617 ⟨Nat.le_of_ble_eq_true rfl, Nat.le_of_ble_eq_true rfl⟩) hS (fun q _ h => h) (fun q h => h) (fun r_18 u9 t H1 locs ht hvm w_17 hB hz1 hk1 hS => ?_)
  obtain ⟨f_16, hI, kc_19, w0_20, w1_21, w10_22, w12_23, w13_24, w14_25, w15_26, w16_27, w17_28, w18_29, w23_30, w24_31, w25_32, w26_33, q1_34, u1_35, im1_36, ik1_37, k_38, z_39, z_40, z_41, k_42, z_43, k_44, k_45, k_46, z_47⟩ := hB
  rw [ht] at hI
  have k_48 : f_16 (gr g mo 4) = .inl (gc g 1, 906, .inr (.inl q)) := Kp.at kc_19 i_mo_4 (by decide) k_8
  have k_49 : f_16 (gr g mo 5) = .inl (gc g 1, 9060, .inr (.inl u)) := Kp.at kc_19 i_mo_5 (by decide) k_9
  have k_50 : f_16 (gr g mo 7) = .inl (gc g 1, 1812, .inr (.inl im)) := Kp.at kc_19 i_mo_7 (by decide) k_10
  have k_51 : f_16 (gr g mo 8) = .inl (gc g 3, 2, .inl kt) := Kp.at kc_19 i_mo_8 (by decide) k_11
  have k_52 : f_16 (gr g mo 3) = .inl (gc g 0, 3, .inl tm) := Kp.at kc_19 i_mo_3 (by decide) k_12
  have k_53 : f_16 (gr g x1 0) = .inr (9, [.int a0, .int a1, .int a2]) := Kp.at kc_19 i_x1_0 (by decide) k_13
  have k_54 : f_16 x1 = .inr (11, [.ref (gr g x1 0), .ref (gr g x1 1), .ref (gr g x1 2), .ref (gr g x1 3), .ref (gr g x1 4), .ref (gr g x1 5), .ref (gr g x1 6), .ref (gr g x1 7), .ref (gr g x1 8), .ref (gr g x1 9), .ref (gr g x1 10), .int x_2]) := Kp.at kc_19 i_x (by decide) k_14
  have k_38 : f_16 mo = .inr (12, [.int w0_20, .int w1_21, .ref (gr g mo 2), .ref (gr g mo 3), .ref (gr g mo 4), .ref (gr g mo 5), .ref (gr g mo 6), .ref (gr g mo 7), .ref (gr g mo 8), .ref (gr g mo 9), .int w10_22, .ref (gr g mo 11), .int w12_23, .int w13_24, .int w14_25, .int w15_26, .long w16_27, .int w17_28, .int w18_29, .ref (gr g mo 19), .ref (gr g mo 20), .ref (gr g mo 21), .ref (gr g mo 22), .int w23_30, .long w24_31, .long w25_32, .long w26_33]) := k_38
  have z_39 : 0 ≤ w10_22.toInt ∧ w10_22.toInt ≤ 10 := z_39
  have z_40 : 0 ≤ w12_23.toInt ∧ w12_23.toInt ≤ 200 := z_40
  have z_41 : 0 ≤ w23_30.toInt ∧ w23_30.toInt ≤ 8 := z_41
  have z_43 : RowOK q1_34 := z_43
  have d_55 := rk_hd z_43
  have z_47 : UIq w10_22 u1_35 im1_36 ik1_37 := z_47
  have kp_56 := Kp.call kp_15 kc_19 (by decide)
  generalize H1 = H at hI hS ⊢
  refine W.widen (k := 786) (n := 20946) (Nat.le_of_ble_eq_true rfl) (Nat.le_of_ble_eq_true rfl) ?_
  refine lv_pop hx hb dL_law_620 rfl ?_
  refine lv_goto (tgt := 1200) hx hb dL_law_621 (by decide) ?_
  exact kk _ _ _ _ hI hS ⟨w0_20, w1_21, w10_22, w12_23, w13_24, w14_25, w15_26, w16_27, w17_28, w18_29, w23_30, w24_31, w25_32, w26_33, q1_34, u1_35, im1_36, ik1_37, tm, a0, a1, a2, k_38, (by omega), (by omega), (by omega), k_42, k_44, k_45, k_46, k_52, z_43, z_47, k_53, he0, he1, he2⟩ hl
theorem tw_1180 : q_g (.methodLink RL 73 yX11_fault) := ⟨(List.mem_append_right _ (List.mem_of_getElem? (i := 775) (by decide +kernel))), good_of_word (by decide +kernel)⟩
theorem tw_1181 : q_g (.instanceMethod yX11_fault) := ⟨(List.mem_append_right _ (List.mem_of_getElem? (i := 776) (by decide +kernel))), good_of_word (by decide +kernel)⟩
theorem tw_1182 : q_g (.selects RX11 yX11_fault yX11_fault) := ⟨(List.mem_append_right _ (List.mem_of_getElem? (i := 777) (by decide +kernel))), good_of_word (by decide +kernel)⟩
theorem tw_1183 : q_g (.methodLink RL 77 yX12_fault) := ⟨(List.mem_append_right _ (List.mem_of_getElem? (i := 1388) (by decide +kernel))), good_of_word (by decide +kernel)⟩
theorem tw_1184 : q_g (.instanceMethod yX12_fault) := ⟨(List.mem_append_right _ (List.mem_of_getElem? (i := 1389) (by decide +kernel))), good_of_word (by decide +kernel)⟩
theorem tw_1185 : q_g (.selects RX12 yX12_fault yX12_fault) := ⟨(List.mem_append_right _ (List.mem_of_getElem? (i := 1390) (by decide +kernel))), good_of_word (by decide +kernel)⟩
set_option maxHeartbeats 4000000 in
set_option maxRecDepth 100000 in
theorem law_fault {p : Program} {l : Launch} {e : Env} {s : State} {m : MethodId} {below : List Frame} {meth : Method} {c : Code} {dC : Nat → ClassId} {dI : Nat → Nat → Nat} {g : kG} {A : Nat → Prop} {b L : Nat} {xs : Nat → Int32} {x1 mo : Nat} (C0 : lw_At p s m meth c b L xs) (hL : L ≤ 3072) (hbA : ¬ A b) (hG : kWf g) (hK : va_K (dC, dI) vwCl (gty g) s) (hE : kE g A s) (i_x : ik g 11 x1) (i_m : ik g 12 mo) {n : Nat} (hn : 6 * n + 6 ≤ L) {f : Nat → va_E} {H : Heap} {locs : List Loc} {ls : Array Slot} (hI : Iv dC dI g A f H) (hS : va_S A s.heap H locs) (hLI : LI g f x1 mo) (hl : lv_has ls 4 [(0, .ref b), (1, .ref x1), (2, .ref mo), (3, .int (nI (6 * n)))]) (kk : ∀ (f : Nat → va_E) (H : Heap) (locs : List Loc) (ls : Array Slot), Iv dC dI g A f H → va_S A s.heap H locs → LI g f x1 mo → lv_has ls 4 [(0, .ref b), (1, .ref x1), (2, .ref mo), (3, .int (nI (6 * n)))] → W p l e room_1 s m #[Value.ref b] below meth c H locs 786 20946 (lw_Z below #[Value.ref b] s) (F0 m 1200 ls [])) : W p l e room_1 s m #[Value.ref b] below meth c H locs 786 20946 (lw_Z below #[Value.ref b] s) (F0 m 624 ls []) := by
  obtain ⟨hx, hb, hr, hml, hown, hts, hX, hbl, hlocks, hgv⟩ := id C0
  have hown : s.vm.findClass RL = some m.cls := hown
  obtain ⟨z0, z1, z10, z12, z13, z14, z15, z16, z17, z18, z23, z24, z25, z26, q, u, im, kt, tm, a0, a1, a2, hmo, hb0, hb1, hb2, hcq, hcu, hci, hck, hct, hok, hui, hca, he0, he1, he2⟩ := hLI
  have hk0 : Kp g [0, 1, 2, 3, 4, 5, 6, 7, 8, 9, 10, 11, 12, 20, 21, 22, 23, 24, 25, 26, 27, 28, 30, 31, 32, 33, 34, 35, 36, 37, 38, 39, 40, 41, 42] f f := Kp.rf
  have i_mo_4 := kw_12_4 hG i_m
  have i_mo_5 := kw_12_5 hG i_m
  have i_mo_7 := kw_12_7 hG i_m
  have i_mo_8 := kw_12_8 hG i_m
  have i_mo_3 := kw_12_3 hG i_m
  have i_x1_0 := kw_11_0 hG i_x
  refine lv_aload_n hx hb dL_law_624 rfl (lv_at hl 1 rfl) ?_
  obtain ⟨x_2, k_1⟩ := op_11 hI i_x
  refine va_calli (va_runV (As := []) (rest := []) ⟨hx, hb, hml, hown, hts⟩ (c_X11_fault l dC dI g A hG f x1 i_x) (cwV 0 hts (gi_V tb_c_X11_fault tw_1180.1 tw_1181.1 tw_1182.1 tw_56.1) rfl rfl rfl (by decide +kernel) ⟨Nat.le_of_ble_eq_true rfl, Nat.le_of_ble_eq_true rfl⟩) ⟨fun a U g mk q => ⟨q.1, q.2.calling rfl rfl⟩, k_recv hK hI i_x.1 k_1 (ci := 11) rfl, fun U hU hW => ⟨rfl, kIn.of hI hK hE hS hU hW⟩⟩ rfl rfl hl.1 rfl (lv_room (Nat.le_of_ble_eq_true rfl)) dL_law_625 ⟨Nat.le_of_ble_eq_true rfl, Nat.le_of_ble_eq_true rfl⟩) hS (fun q _ h => h) (fun q h => h) (fun r_4 u9 t H1 locs ht hvm w_3 hB hz1 hk1 hS => ?_)
  have hI : Iv dC dI g A f t.heap := hB
  rw [ht] at hI
  generalize H1 = H at hI hS ⊢
  refine W.widen (k := 786) (n := 20946) (Nat.le_of_ble_eq_true rfl) (Nat.le_of_ble_eq_true rfl) ?_
  refine lv_pop hx hb dL_law_628 rfl ?_
  refine lv_aload_n hx hb dL_law_629 rfl (lv_at hl 2 rfl) ?_
  refine va_calli (va_runV (As := []) (rest := []) ⟨hx, hb, hml, hown, hts⟩ (c_X12_fault l dC dI g A hG f mo z0 z1 z10 z12 z13 z14 z15 z16 z17 z18 z23 z24 z25 z26 q u im kt i_m hmo (by omega) (by omega) (by omega) hcq hok hcu hci hck hui) (cwV 0 hts (gi_V tb_c_X12_fault tw_1183.1 tw_1184.1 tw_1185.1 tw_728.1) rfl rfl rfl (by decide +kernel) ⟨Nat.le_of_ble_eq_true rfl, Nat.le_of_ble_eq_true rfl⟩) ⟨fun a U g mk q => ⟨q.1, q.2.calling rfl rfl⟩, k_recv hK hI i_m.1 hmo (ci := 12) rfl, fun U hU hW => ⟨rfl, kIn.of hI hK hE hS hU hW⟩⟩ rfl rfl hl.1 rfl (lv_room (Nat.le_of_ble_eq_true rfl)) dL_law_630 ⟨Nat.le_of_ble_eq_true rfl, Nat.le_of_ble_eq_true rfl⟩) hS (fun q _ h => h) (fun q h => h) (fun r_7 u9 t H1 locs ht hvm w_6 hB hz1 hk1 hS => ?_)
  obtain ⟨f_5, hI, kc_8, w0_9, w1_10, w10_11, w12_12, w13_13, w14_14, w15_15, w16_16, w17_17, w18_18, w23_19, w24_20, w25_21, w26_22, q1_23, u1_24, im1_25, ik1_26, k_27, z_28, z_29, z_30, k_31, z_32, k_33, k_34, k_35, z_36⟩ := hB
  rw [ht] at hI
  have k_37 : f_5 (gr g mo 4) = .inl (gc g 1, 906, .inr (.inl q)) := Kp.at kc_8 i_mo_4 (by decide) hcq
  have k_38 : f_5 (gr g mo 5) = .inl (gc g 1, 9060, .inr (.inl u)) := Kp.at kc_8 i_mo_5 (by decide) hcu
  have k_39 : f_5 (gr g mo 7) = .inl (gc g 1, 1812, .inr (.inl im)) := Kp.at kc_8 i_mo_7 (by decide) hci
  have k_40 : f_5 (gr g mo 8) = .inl (gc g 3, 2, .inl kt) := Kp.at kc_8 i_mo_8 (by decide) hck
  have k_41 : f_5 (gr g mo 3) = .inl (gc g 0, 3, .inl tm) := Kp.at kc_8 i_mo_3 (by decide) hct
  have k_42 : f_5 (gr g x1 0) = .inr (9, [.int a0, .int a1, .int a2]) := Kp.at kc_8 i_x1_0 (by decide) hca
  have k_43 : f_5 x1 = .inr (11, [.ref (gr g x1 0), .ref (gr g x1 1), .ref (gr g x1 2), .ref (gr g x1 3), .ref (gr g x1 4), .ref (gr g x1 5), .ref (gr g x1 6), .ref (gr g x1 7), .ref (gr g x1 8), .ref (gr g x1 9), .ref (gr g x1 10), .int x_2]) := Kp.at kc_8 i_x (by decide) k_1
  have k_27 : f_5 mo = .inr (12, [.int w0_9, .int w1_10, .ref (gr g mo 2), .ref (gr g mo 3), .ref (gr g mo 4), .ref (gr g mo 5), .ref (gr g mo 6), .ref (gr g mo 7), .ref (gr g mo 8), .ref (gr g mo 9), .int w10_11, .ref (gr g mo 11), .int w12_12, .int w13_13, .int w14_14, .int w15_15, .long w16_16, .int w17_17, .int w18_18, .ref (gr g mo 19), .ref (gr g mo 20), .ref (gr g mo 21), .ref (gr g mo 22), .int w23_19, .long w24_20, .long w25_21, .long w26_22]) := k_27
  have z_28 : 0 ≤ w10_11.toInt ∧ w10_11.toInt ≤ 10 := z_28
  have z_29 : 0 ≤ w12_12.toInt ∧ w12_12.toInt ≤ 200 := z_29
  have z_30 : 0 ≤ w23_19.toInt ∧ w23_19.toInt ≤ 8 := z_30
  have z_32 : RowOK q1_23 := z_32
  have d_44 := rk_hd z_32
  have z_36 : UIq w10_11 u1_24 im1_25 ik1_26 := z_36
  have kp_45 := Kp.call hk0 kc_8 (by decide)
  generalize H1 = H at hI hS ⊢
  refine W.widen (k := 786) (n := 20946) (Nat.le_of_ble_eq_true rfl) (Nat.le_of_ble_eq_true rfl) ?_
  refine lv_pop hx hb dL_law_633 rfl ?_
  refine lv_goto (tgt := 1200) hx hb dL_law_634 (by decide) ?_
  exact kk _ _ _ _ hI hS ⟨w0_9, w1_10, w10_11, w12_12, w13_13, w14_14, w15_15, w16_16, w17_17, w18_18, w23_19, w24_20, w25_21, w26_22, q1_23, u1_24, im1_25, ik1_26, tm, a0, a1, a2, k_27, (by omega), (by omega), (by omega), k_31, k_33, k_34, k_35, k_41, z_32, z_36, k_42, he0, he1, he2⟩ hl
theorem tw_1186 : q_g (.methodLink RL 78 yX11_ticks) := ⟨(List.mem_append_right _ (List.mem_of_getElem? (i := 779) (by decide +kernel))), good_of_word (by decide +kernel)⟩
theorem tw_1187 : q_g (.instanceMethod yX11_ticks) := ⟨(List.mem_append_right _ (List.mem_of_getElem? (i := 780) (by decide +kernel))), good_of_word (by decide +kernel)⟩
theorem tw_1188 : q_g (.selects RX11 yX11_ticks yX11_ticks) := ⟨(List.mem_append_right _ (List.mem_of_getElem? (i := 781) (by decide +kernel))), good_of_word (by decide +kernel)⟩
theorem tw_1189 : q_g (.methodLink RL 81 yX12_ticks) := ⟨(List.mem_append_right _ (List.mem_of_getElem? (i := 1392) (by decide +kernel))), good_of_word (by decide +kernel)⟩
theorem tw_1190 : q_g (.instanceMethod yX12_ticks) := ⟨(List.mem_append_right _ (List.mem_of_getElem? (i := 1393) (by decide +kernel))), good_of_word (by decide +kernel)⟩
theorem tw_1191 : q_g (.selects RX12 yX12_ticks yX12_ticks) := ⟨(List.mem_append_right _ (List.mem_of_getElem? (i := 1394) (by decide +kernel))), good_of_word (by decide +kernel)⟩
set_option maxHeartbeats 4000000 in
set_option maxRecDepth 100000 in
theorem law_ticks {p : Program} {l : Launch} {e : Env} {s : State} {m : MethodId} {below : List Frame} {meth : Method} {c : Code} {dC : Nat → ClassId} {dI : Nat → Nat → Nat} {g : kG} {A : Nat → Prop} {b L : Nat} {xs : Nat → Int32} {x1 mo : Nat} (C0 : lw_At p s m meth c b L xs) (hL : L ≤ 3072) (hbA : ¬ A b) (hG : kWf g) (hK : va_K (dC, dI) vwCl (gty g) s) (hE : kE g A s) (i_x : ik g 11 x1) (i_m : ik g 12 mo) {n : Nat} (hn : 6 * n + 6 ≤ L) {f : Nat → va_E} {H : Heap} {locs : List Loc} {ls : Array Slot} (hI : Iv dC dI g A f H) (hS : va_S A s.heap H locs) (hLI : LI g f x1 mo) (hl : lv_has ls 4 [(0, .ref b), (1, .ref x1), (2, .ref mo), (3, .int (nI (6 * n)))]) (kk : ∀ (f : Nat → va_E) (H : Heap) (locs : List Loc) (ls : Array Slot), Iv dC dI g A f H → va_S A s.heap H locs → LI g f x1 mo → lv_has ls 4 [(0, .ref b), (1, .ref x1), (2, .ref mo), (3, .int (nI (6 * n)))] → W p l e room_1 s m #[Value.ref b] below meth c H locs 786 20946 (lw_Z below #[Value.ref b] s) (F0 m 1200 ls [])) : W p l e room_1 s m #[Value.ref b] below meth c H locs 786 20946 (lw_Z below #[Value.ref b] s) (F0 m 637 ls []) := by
  obtain ⟨hx, hb, hr, hml, hown, hts, hX, hbl, hlocks, hgv⟩ := id C0
  have hown : s.vm.findClass RL = some m.cls := hown
  obtain ⟨z0, z1, z10, z12, z13, z14, z15, z16, z17, z18, z23, z24, z25, z26, q, u, im, kt, tm, a0, a1, a2, hmo, hb0, hb1, hb2, hcq, hcu, hci, hck, hct, hok, hui, hca, he0, he1, he2⟩ := hLI
  have hk0 : Kp g [0, 1, 2, 3, 4, 5, 6, 7, 8, 9, 10, 11, 12, 20, 21, 22, 23, 24, 25, 26, 27, 28, 30, 31, 32, 33, 34, 35, 36, 37, 38, 39, 40, 41, 42] f f := Kp.rf
  have i_mo_4 := kw_12_4 hG i_m
  have i_mo_5 := kw_12_5 hG i_m
  have i_mo_7 := kw_12_7 hG i_m
  have i_mo_8 := kw_12_8 hG i_m
  have i_mo_3 := kw_12_3 hG i_m
  have i_x1_0 := kw_11_0 hG i_x
  refine lv_aload_n hx hb dL_law_637 rfl (lv_at hl 1 rfl) ?_
  refine lv_aload_n hx hb dL_law_638 rfl (lv_at hl 0 rfl) ?_
  refine lv_iload_n hx hb dL_law_639 rfl (lv_at hl 3 rfl) ?_
  refine lv_iconst (v := 1) hx hb dL_law_640 (by decide) ?_
  refine lv_iadd hx hb dL_law_641 ?_
  refine k_topi (y := nI (6 * n + 1)) ((nI_add (6 * n) 1).trans (congrArg nI (by omega))) ?_
  refine va_sld hx hb hX hbl hbA hS (vp_in_nI (by omega) (by omega)) dL_law_642 ?_
  refine k_topi (y := xs (6 * n + 1)) (congrArg xs (nI_clamp (by omega))) ?_
  obtain ⟨x_2, k_1⟩ := op_11 hI i_x
  refine va_calli (va_runV (As := [.int (xs (6 * n + 1))]) (rest := []) ⟨hx, hb, hml, hown, hts⟩ (c_X11_ticks l dC dI g A hG f x1 (xs (6 * n + 1)) i_x) (cwV 1 hts (gi_V tb_c_X11_ticks tw_1186.1 tw_1187.1 tw_1188.1 tw_56.1) rfl rfl rfl (by decide +kernel) ⟨Nat.le_of_ble_eq_true rfl, Nat.le_of_ble_eq_true rfl⟩) ⟨fun a U g mk q => ⟨q.1, q.2.calling rfl rfl⟩, k_recv hK hI i_x.1 k_1 (ci := 11) rfl, fun U hU hW => ⟨rfl, kIn.of hI hK hE hS hU hW⟩⟩ rfl rfl hl.1 rfl (lv_room (Nat.le_of_ble_eq_true rfl)) dL_law_643 ⟨Nat.le_of_ble_eq_true rfl, Nat.le_of_ble_eq_true rfl⟩) hS (fun q _ h => h) (fun q h => h) (fun r_5 u9 t H1 locs ht hvm w_4 hB hz1 hk1 hS => ?_)
  obtain ⟨f_3, hI, kc_6⟩ := hB
  rw [ht] at hI
  have k_7 : f_3 mo = .inr (12, [.int z0, .int z1, .ref (gr g mo 2), .ref (gr g mo 3), .ref (gr g mo 4), .ref (gr g mo 5), .ref (gr g mo 6), .ref (gr g mo 7), .ref (gr g mo 8), .ref (gr g mo 9), .int z10, .ref (gr g mo 11), .int z12, .int z13, .int z14, .int z15, .long z16, .int z17, .int z18, .ref (gr g mo 19), .ref (gr g mo 20), .ref (gr g mo 21), .ref (gr g mo 22), .int z23, .long z24, .long z25, .long z26]) := Kp.at kc_6 i_m (by decide) hmo
  have k_8 : f_3 (gr g mo 4) = .inl (gc g 1, 906, .inr (.inl q)) := Kp.at kc_6 i_mo_4 (by decide) hcq
  have k_9 : f_3 (gr g mo 5) = .inl (gc g 1, 9060, .inr (.inl u)) := Kp.at kc_6 i_mo_5 (by decide) hcu
  have k_10 : f_3 (gr g mo 7) = .inl (gc g 1, 1812, .inr (.inl im)) := Kp.at kc_6 i_mo_7 (by decide) hci
  have k_11 : f_3 (gr g mo 8) = .inl (gc g 3, 2, .inl kt) := Kp.at kc_6 i_mo_8 (by decide) hck
  have k_12 : f_3 (gr g mo 3) = .inl (gc g 0, 3, .inl tm) := Kp.at kc_6 i_mo_3 (by decide) hct
  have k_13 : f_3 (gr g x1 0) = .inr (9, [.int a0, .int a1, .int a2]) := Kp.at kc_6 i_x1_0 (by decide) hca
  have k_14 : f_3 x1 = .inr (11, [.ref (gr g x1 0), .ref (gr g x1 1), .ref (gr g x1 2), .ref (gr g x1 3), .ref (gr g x1 4), .ref (gr g x1 5), .ref (gr g x1 6), .ref (gr g x1 7), .ref (gr g x1 8), .ref (gr g x1 9), .ref (gr g x1 10), .int x_2]) := Kp.at kc_6 i_x (by decide) k_1
  have kp_15 := Kp.call hk0 kc_6 (by decide)
  generalize H1 = H at hI hS ⊢
  refine W.widen (k := 786) (n := 20946) (Nat.le_of_ble_eq_true rfl) (Nat.le_of_ble_eq_true rfl) ?_
  refine lv_pop hx hb dL_law_646 rfl ?_
  refine lv_aload_n hx hb dL_law_647 rfl (lv_at hl 2 rfl) ?_
  refine lv_aload_n hx hb dL_law_648 rfl (lv_at hl 0 rfl) ?_
  refine lv_iload_n hx hb dL_law_649 rfl (lv_at hl 3 rfl) ?_
  refine lv_iconst (v := 1) hx hb dL_law_650 (by decide) ?_
  refine lv_iadd hx hb dL_law_651 ?_
  refine k_topi (y := nI (6 * n + 1)) ((nI_add (6 * n) 1).trans (congrArg nI (by omega))) ?_
  refine va_sld hx hb hX hbl hbA hS (vp_in_nI (by omega) (by omega)) dL_law_652 ?_
  refine k_topi (y := xs (6 * n + 1)) (congrArg xs (nI_clamp (by omega))) ?_
  refine va_calli (va_runV (As := [.int (xs (6 * n + 1))]) (rest := []) ⟨hx, hb, hml, hown, hts⟩ (c_X12_ticks l dC dI g A hG f_3 mo (xs (6 * n + 1)) z0 z1 z10 z12 z13 z14 z15 z16 z17 z18 z23 z24 z25 z26 q u im kt i_m k_7 (by omega) (by omega) (by omega) k_8 hok k_9 k_10 k_11 hui) (cwV 1 hts (gi_V tb_c_X12_ticks tw_1189.1 tw_1190.1 tw_1191.1 tw_728.1) rfl rfl rfl (by decide +kernel) ⟨Nat.le_of_ble_eq_true rfl, Nat.le_of_ble_eq_true rfl⟩) ⟨fun a U g mk q => ⟨q.1, q.2.calling rfl rfl⟩, k_recv hK hI i_m.1 k_7 (ci := 12) rfl, fun U hU hW => ⟨rfl, kIn.of hI hK hE hS hU hW⟩⟩ rfl rfl hl.1 rfl (lv_room (Nat.le_of_ble_eq_true rfl)) dL_law_653 ⟨Nat.le_of_ble_eq_true rfl, Nat.le_of_ble_eq_true rfl⟩) hS (fun q _ h => h) (fun q h => h) (fun r_18 u9 t H1 locs ht hvm w_17 hB hz1 hk1 hS => ?_)
  obtain ⟨f_16, hI, kc_19, w0_20, w1_21, w10_22, w12_23, w13_24, w14_25, w15_26, w16_27, w17_28, w18_29, w23_30, w24_31, w25_32, w26_33, q1_34, u1_35, im1_36, ik1_37, k_38, z_39, z_40, z_41, k_42, z_43, k_44, k_45, k_46, z_47⟩ := hB
  rw [ht] at hI
  have k_48 : f_16 (gr g mo 7) = .inl (gc g 1, 1812, .inr (.inl im)) := Kp.at kc_19 i_mo_7 (by decide) k_10
  have k_49 : f_16 (gr g mo 8) = .inl (gc g 3, 2, .inl kt) := Kp.at kc_19 i_mo_8 (by decide) k_11
  have k_50 : f_16 (gr g mo 3) = .inl (gc g 0, 3, .inl tm) := Kp.at kc_19 i_mo_3 (by decide) k_12
  have k_51 : f_16 (gr g x1 0) = .inr (9, [.int a0, .int a1, .int a2]) := Kp.at kc_19 i_x1_0 (by decide) k_13
  have k_52 : f_16 x1 = .inr (11, [.ref (gr g x1 0), .ref (gr g x1 1), .ref (gr g x1 2), .ref (gr g x1 3), .ref (gr g x1 4), .ref (gr g x1 5), .ref (gr g x1 6), .ref (gr g x1 7), .ref (gr g x1 8), .ref (gr g x1 9), .ref (gr g x1 10), .int x_2]) := Kp.at kc_19 i_x (by decide) k_14
  have k_38 : f_16 mo = .inr (12, [.int w0_20, .int w1_21, .ref (gr g mo 2), .ref (gr g mo 3), .ref (gr g mo 4), .ref (gr g mo 5), .ref (gr g mo 6), .ref (gr g mo 7), .ref (gr g mo 8), .ref (gr g mo 9), .int w10_22, .ref (gr g mo 11), .int w12_23, .int w13_24, .int w14_25, .int w15_26, .long w16_27, .int w17_28, .int w18_29, .ref (gr g mo 19), .ref (gr g mo 20), .ref (gr g mo 21), .ref (gr g mo 22), .int w23_30, .long w24_31, .long w25_32, .long w26_33]) := k_38
  have z_39 : 0 ≤ w10_22.toInt ∧ w10_22.toInt ≤ 10 := z_39
  have z_40 : 0 ≤ w12_23.toInt ∧ w12_23.toInt ≤ 200 := z_40
  have z_41 : 0 ≤ w23_30.toInt ∧ w23_30.toInt ≤ 8 := z_41
  have z_43 : RowOK q1_34 := z_43
  have d_53 := rk_hd z_43
  have z_47 : UIq w10_22 u1_35 im1_36 ik1_37 := z_47
  have kp_54 := Kp.call kp_15 kc_19 (by decide)
  generalize H1 = H at hI hS ⊢
  refine W.widen (k := 786) (n := 20946) (Nat.le_of_ble_eq_true rfl) (Nat.le_of_ble_eq_true rfl) ?_
  refine lv_pop hx hb dL_law_656 rfl ?_
  refine lv_goto (tgt := 1200) hx hb dL_law_657 (by decide) ?_
  exact kk _ _ _ _ hI hS ⟨w0_20, w1_21, w10_22, w12_23, w13_24, w14_25, w15_26, w16_27, w17_28, w18_29, w23_30, w24_31, w25_32, w26_33, q1_34, u1_35, im1_36, ik1_37, tm, a0, a1, a2, k_38, (by omega), (by omega), (by omega), k_42, k_44, k_45, k_46, k_50, z_43, z_47, k_51, he0, he1, he2⟩ hl
theorem tw_1192 : q_g (.methodLink RL 82 yX11_undo) := ⟨(List.mem_append_right _ (List.mem_of_getElem? (i := 875) (by decide +kernel))), good_of_word (by decide +kernel)⟩
theorem tw_1193 : q_g (.instanceMethod yX11_undo) := ⟨(List.mem_append_right _ (List.mem_of_getElem? (i := 876) (by decide +kernel))), good_of_word (by decide +kernel)⟩
theorem tw_1194 : q_g (.selects RX11 yX11_undo yX11_undo) := ⟨(List.mem_append_right _ (List.mem_of_getElem? (i := 877) (by decide +kernel))), good_of_word (by decide +kernel)⟩
theorem tw_1195 : q_g (.methodLink RL 85 yX12_undo) := ⟨(List.mem_append_right _ (List.mem_of_getElem? (i := 1179) (by decide +kernel))), good_of_word (by decide +kernel)⟩
theorem tw_1196 : q_g (.instanceMethod yX12_undo) := ⟨(List.mem_append_right _ (List.mem_of_getElem? (i := 1180) (by decide +kernel))), good_of_word (by decide +kernel)⟩
theorem tw_1197 : q_g (.selects RX12 yX12_undo yX12_undo) := ⟨(List.mem_append_right _ (List.mem_of_getElem? (i := 1181) (by decide +kernel))), good_of_word (by decide +kernel)⟩
set_option maxHeartbeats 4000000 in
set_option maxRecDepth 100000 in
theorem law_undo {p : Program} {l : Launch} {e : Env} {s : State} {m : MethodId} {below : List Frame} {meth : Method} {c : Code} {dC : Nat → ClassId} {dI : Nat → Nat → Nat} {g : kG} {A : Nat → Prop} {b L : Nat} {xs : Nat → Int32} {x1 mo : Nat} (C0 : lw_At p s m meth c b L xs) (hL : L ≤ 3072) (hbA : ¬ A b) (hG : kWf g) (hK : va_K (dC, dI) vwCl (gty g) s) (hE : kE g A s) (i_x : ik g 11 x1) (i_m : ik g 12 mo) {n : Nat} (hn : 6 * n + 6 ≤ L) {f : Nat → va_E} {H : Heap} {locs : List Loc} {ls : Array Slot} (hI : Iv dC dI g A f H) (hS : va_S A s.heap H locs) (hLI : LI g f x1 mo) (hl : lv_has ls 4 [(0, .ref b), (1, .ref x1), (2, .ref mo), (3, .int (nI (6 * n)))]) (kk : ∀ (f : Nat → va_E) (H : Heap) (locs : List Loc) (ls : Array Slot), Iv dC dI g A f H → va_S A s.heap H locs → LI g f x1 mo → lv_has ls 4 [(0, .ref b), (1, .ref x1), (2, .ref mo), (3, .int (nI (6 * n)))] → W p l e room_1 s m #[Value.ref b] below meth c H locs 786 20946 (lw_Z below #[Value.ref b] s) (F0 m 1200 ls [])) : W p l e room_1 s m #[Value.ref b] below meth c H locs 786 20946 (lw_Z below #[Value.ref b] s) (F0 m 660 ls []) := by
  obtain ⟨hx, hb, hr, hml, hown, hts, hX, hbl, hlocks, hgv⟩ := id C0
  have hown : s.vm.findClass RL = some m.cls := hown
  obtain ⟨z0, z1, z10, z12, z13, z14, z15, z16, z17, z18, z23, z24, z25, z26, q, u, im, kt, tm, a0, a1, a2, hmo, hb0, hb1, hb2, hcq, hcu, hci, hck, hct, hok, hui, hca, he0, he1, he2⟩ := hLI
  have hk0 : Kp g [0, 1, 2, 3, 4, 5, 6, 7, 8, 9, 10, 11, 12, 20, 21, 22, 23, 24, 25, 26, 27, 28, 30, 31, 32, 33, 34, 35, 36, 37, 38, 39, 40, 41, 42] f f := Kp.rf
  have i_mo_4 := kw_12_4 hG i_m
  have i_mo_5 := kw_12_5 hG i_m
  have i_mo_7 := kw_12_7 hG i_m
  have i_mo_8 := kw_12_8 hG i_m
  have i_mo_3 := kw_12_3 hG i_m
  have i_x1_0 := kw_11_0 hG i_x
  refine lv_aload_n hx hb dL_law_660 rfl (lv_at hl 1 rfl) ?_
  obtain ⟨x_2, k_1⟩ := op_11 hI i_x
  refine va_calli (va_runV (As := []) (rest := []) ⟨hx, hb, hml, hown, hts⟩ (c_X11_undo l dC dI g A hG f x1 i_x) (cwV 0 hts (gi_V tb_c_X11_undo tw_1192.1 tw_1193.1 tw_1194.1 tw_56.1) rfl rfl rfl (by decide +kernel) ⟨Nat.le_of_ble_eq_true rfl, Nat.le_of_ble_eq_true rfl⟩) ⟨fun a U g mk q => ⟨q.1, q.2.calling rfl rfl⟩, k_recv hK hI i_x.1 k_1 (ci := 11) rfl, fun U hU hW => ⟨rfl, kIn.of hI hK hE hS hU hW⟩⟩ rfl rfl hl.1 rfl (lv_room (Nat.le_of_ble_eq_true rfl)) dL_law_661 ⟨Nat.le_of_ble_eq_true rfl, Nat.le_of_ble_eq_true rfl⟩) hS (fun q _ h => h) (fun q h => h) (fun r_5 u9 t H1 locs ht hvm w_4 hB hz1 hk1 hS => ?_)
  obtain ⟨f_3, hI, kc_6⟩ := hB
  rw [ht] at hI
  have k_7 : f_3 mo = .inr (12, [.int z0, .int z1, .ref (gr g mo 2), .ref (gr g mo 3), .ref (gr g mo 4), .ref (gr g mo 5), .ref (gr g mo 6), .ref (gr g mo 7), .ref (gr g mo 8), .ref (gr g mo 9), .int z10, .ref (gr g mo 11), .int z12, .int z13, .int z14, .int z15, .long z16, .int z17, .int z18, .ref (gr g mo 19), .ref (gr g mo 20), .ref (gr g mo 21), .ref (gr g mo 22), .int z23, .long z24, .long z25, .long z26]) := Kp.at kc_6 i_m (by decide) hmo
  have k_8 : f_3 (gr g mo 4) = .inl (gc g 1, 906, .inr (.inl q)) := Kp.at kc_6 i_mo_4 (by decide) hcq
  have k_9 : f_3 (gr g mo 5) = .inl (gc g 1, 9060, .inr (.inl u)) := Kp.at kc_6 i_mo_5 (by decide) hcu
  have k_10 : f_3 (gr g mo 7) = .inl (gc g 1, 1812, .inr (.inl im)) := Kp.at kc_6 i_mo_7 (by decide) hci
  have k_11 : f_3 (gr g mo 8) = .inl (gc g 3, 2, .inl kt) := Kp.at kc_6 i_mo_8 (by decide) hck
  have k_12 : f_3 (gr g mo 3) = .inl (gc g 0, 3, .inl tm) := Kp.at kc_6 i_mo_3 (by decide) hct
  have k_13 : f_3 (gr g x1 0) = .inr (9, [.int a0, .int a1, .int a2]) := Kp.at kc_6 i_x1_0 (by decide) hca
  have k_14 : f_3 x1 = .inr (11, [.ref (gr g x1 0), .ref (gr g x1 1), .ref (gr g x1 2), .ref (gr g x1 3), .ref (gr g x1 4), .ref (gr g x1 5), .ref (gr g x1 6), .ref (gr g x1 7), .ref (gr g x1 8), .ref (gr g x1 9), .ref (gr g x1 10), .int x_2]) := Kp.at kc_6 i_x (by decide) k_1
  have kp_15 := Kp.call hk0 kc_6 (by decide)
  generalize H1 = H at hI hS ⊢
  refine W.widen (k := 786) (n := 20946) (Nat.le_of_ble_eq_true rfl) (Nat.le_of_ble_eq_true rfl) ?_
  refine lv_pop hx hb dL_law_664 rfl ?_
  refine lv_aload_n hx hb dL_law_665 rfl (lv_at hl 2 rfl) ?_
  refine va_calli (va_runV (As := []) (rest := []) ⟨hx, hb, hml, hown, hts⟩ (c_X12_undo l dC dI g A hG f_3 mo z0 z1 z10 z12 z13 z14 z15 z16 z17 z18 z23 z24 z25 z26 q u im kt i_m k_7 (by omega) (by omega) (by omega) k_8 hok k_9 k_10 k_11 hui) (cwV 0 hts (gi_V tb_c_X12_undo tw_1195.1 tw_1196.1 tw_1197.1 tw_728.1) rfl rfl rfl (by decide +kernel) ⟨Nat.le_of_ble_eq_true rfl, Nat.le_of_ble_eq_true rfl⟩) ⟨fun a U g mk q => ⟨q.1, q.2.calling rfl rfl⟩, k_recv hK hI i_m.1 k_7 (ci := 12) rfl, fun U hU hW => ⟨rfl, kIn.of hI hK hE hS hU hW⟩⟩ rfl rfl hl.1 rfl (lv_room (Nat.le_of_ble_eq_true rfl)) dL_law_666 ⟨Nat.le_of_ble_eq_true rfl, Nat.le_of_ble_eq_true rfl⟩) hS (fun q _ h => h) (fun q h => h) (fun r_18 u9 t H1 locs ht hvm w_17 hB hz1 hk1 hS => ?_)
  obtain ⟨f_16, hI, kc_19, w0_20, w1_21, w10_22, w12_23, w13_24, w14_25, w15_26, w16_27, w17_28, w18_29, w23_30, w24_31, w25_32, w26_33, q1_34, u1_35, im1_36, ik1_37, k_38, z_39, z_40, z_41, k_42, z_43, k_44, k_45, k_46, z_47⟩ := hB
  rw [ht] at hI
  have k_48 : f_16 (gr g mo 5) = .inl (gc g 1, 9060, .inr (.inl u)) := Kp.at kc_19 i_mo_5 (by decide) k_9
  have k_49 : f_16 (gr g mo 7) = .inl (gc g 1, 1812, .inr (.inl im)) := Kp.at kc_19 i_mo_7 (by decide) k_10
  have k_50 : f_16 (gr g mo 8) = .inl (gc g 3, 2, .inl kt) := Kp.at kc_19 i_mo_8 (by decide) k_11
  have k_51 : f_16 (gr g mo 3) = .inl (gc g 0, 3, .inl tm) := Kp.at kc_19 i_mo_3 (by decide) k_12
  have k_52 : f_16 (gr g x1 0) = .inr (9, [.int a0, .int a1, .int a2]) := Kp.at kc_19 i_x1_0 (by decide) k_13
  have k_53 : f_16 x1 = .inr (11, [.ref (gr g x1 0), .ref (gr g x1 1), .ref (gr g x1 2), .ref (gr g x1 3), .ref (gr g x1 4), .ref (gr g x1 5), .ref (gr g x1 6), .ref (gr g x1 7), .ref (gr g x1 8), .ref (gr g x1 9), .ref (gr g x1 10), .int x_2]) := Kp.at kc_19 i_x (by decide) k_14
  have k_38 : f_16 mo = .inr (12, [.int w0_20, .int w1_21, .ref (gr g mo 2), .ref (gr g mo 3), .ref (gr g mo 4), .ref (gr g mo 5), .ref (gr g mo 6), .ref (gr g mo 7), .ref (gr g mo 8), .ref (gr g mo 9), .int w10_22, .ref (gr g mo 11), .int w12_23, .int w13_24, .int w14_25, .int w15_26, .long w16_27, .int w17_28, .int w18_29, .ref (gr g mo 19), .ref (gr g mo 20), .ref (gr g mo 21), .ref (gr g mo 22), .int w23_30, .long w24_31, .long w25_32, .long w26_33]) := k_38
  have z_39 : 0 ≤ w10_22.toInt ∧ w10_22.toInt ≤ 10 := z_39
  have z_40 : 0 ≤ w12_23.toInt ∧ w12_23.toInt ≤ 200 := z_40
  have z_41 : 0 ≤ w23_30.toInt ∧ w23_30.toInt ≤ 8 := z_41
  have z_43 : RowOK q1_34 := z_43
  have d_54 := rk_hd z_43
  have z_47 : UIq w10_22 u1_35 im1_36 ik1_37 := z_47
  have kp_55 := Kp.call kp_15 kc_19 (by decide)
  generalize H1 = H at hI hS ⊢
  refine W.widen (k := 786) (n := 20946) (Nat.le_of_ble_eq_true rfl) (Nat.le_of_ble_eq_true rfl) ?_
  refine lv_pop hx hb dL_law_669 rfl ?_
  refine lv_goto (tgt := 1200) hx hb dL_law_670 (by decide) ?_
  exact kk _ _ _ _ hI hS ⟨w0_20, w1_21, w10_22, w12_23, w13_24, w14_25, w15_26, w16_27, w17_28, w18_29, w23_30, w24_31, w25_32, w26_33, q1_34, u1_35, im1_36, ik1_37, tm, a0, a1, a2, k_38, (by omega), (by omega), (by omega), k_42, k_44, k_45, k_46, k_51, z_43, z_47, k_52, he0, he1, he2⟩ hl
theorem tw_1198 : q_g (.methodLink RL 86 yX11_image) := ⟨(List.mem_append_right _ (List.mem_of_getElem? (i := 883) (by decide +kernel))), good_of_word (by decide +kernel)⟩
theorem tw_1199 : q_g (.instanceMethod yX11_image) := ⟨(List.mem_append_right _ (List.mem_of_getElem? (i := 884) (by decide +kernel))), good_of_word (by decide +kernel)⟩
theorem tw_1200 : q_g (.selects RX11 yX11_image yX11_image) := ⟨(List.mem_append_right _ (List.mem_of_getElem? (i := 885) (by decide +kernel))), good_of_word (by decide +kernel)⟩
theorem tw_1201 : q_g (.methodLink RL 89 yX12_image) := ⟨(List.mem_append_right _ (List.mem_of_getElem? (i := 1326) (by decide +kernel))), good_of_word (by decide +kernel)⟩
theorem tw_1202 : q_g (.instanceMethod yX12_image) := ⟨(List.mem_append_right _ (List.mem_of_getElem? (i := 1327) (by decide +kernel))), good_of_word (by decide +kernel)⟩
theorem tw_1203 : q_g (.selects RX12 yX12_image yX12_image) := ⟨(List.mem_append_right _ (List.mem_of_getElem? (i := 1328) (by decide +kernel))), good_of_word (by decide +kernel)⟩
set_option maxHeartbeats 4000000 in
set_option maxRecDepth 100000 in
theorem law_image {p : Program} {l : Launch} {e : Env} {s : State} {m : MethodId} {below : List Frame} {meth : Method} {c : Code} {dC : Nat → ClassId} {dI : Nat → Nat → Nat} {g : kG} {A : Nat → Prop} {b L : Nat} {xs : Nat → Int32} {x1 mo : Nat} (C0 : lw_At p s m meth c b L xs) (hL : L ≤ 3072) (hbA : ¬ A b) (hG : kWf g) (hK : va_K (dC, dI) vwCl (gty g) s) (hE : kE g A s) (i_x : ik g 11 x1) (i_m : ik g 12 mo) {n : Nat} (hn : 6 * n + 6 ≤ L) {f : Nat → va_E} {H : Heap} {locs : List Loc} {ls : Array Slot} (hI : Iv dC dI g A f H) (hS : va_S A s.heap H locs) (hLI : LI g f x1 mo) (hl : lv_has ls 4 [(0, .ref b), (1, .ref x1), (2, .ref mo), (3, .int (nI (6 * n)))]) (kk : ∀ (f : Nat → va_E) (H : Heap) (locs : List Loc) (ls : Array Slot), Iv dC dI g A f H → va_S A s.heap H locs → LI g f x1 mo → lv_has ls 4 [(0, .ref b), (1, .ref x1), (2, .ref mo), (3, .int (nI (6 * n)))] → W p l e room_1 s m #[Value.ref b] below meth c H locs 786 20946 (lw_Z below #[Value.ref b] s) (F0 m 1200 ls [])) : W p l e room_1 s m #[Value.ref b] below meth c H locs 786 20946 (lw_Z below #[Value.ref b] s) (F0 m 673 ls []) := by
  obtain ⟨hx, hb, hr, hml, hown, hts, hX, hbl, hlocks, hgv⟩ := id C0
  have hown : s.vm.findClass RL = some m.cls := hown
  obtain ⟨z0, z1, z10, z12, z13, z14, z15, z16, z17, z18, z23, z24, z25, z26, q, u, im, kt, tm, a0, a1, a2, hmo, hb0, hb1, hb2, hcq, hcu, hci, hck, hct, hok, hui, hca, he0, he1, he2⟩ := hLI
  have hk0 : Kp g [0, 1, 2, 3, 4, 5, 6, 7, 8, 9, 10, 11, 12, 20, 21, 22, 23, 24, 25, 26, 27, 28, 30, 31, 32, 33, 34, 35, 36, 37, 38, 39, 40, 41, 42] f f := Kp.rf
  have i_mo_4 := kw_12_4 hG i_m
  have i_mo_5 := kw_12_5 hG i_m
  have i_mo_7 := kw_12_7 hG i_m
  have i_mo_8 := kw_12_8 hG i_m
  have i_mo_3 := kw_12_3 hG i_m
  have i_x1_0 := kw_11_0 hG i_x
  refine lv_aload_n hx hb dL_law_673 rfl (lv_at hl 1 rfl) ?_
  refine lv_aload_n hx hb dL_law_674 rfl (lv_at hl 0 rfl) ?_
  refine lv_iload_n hx hb dL_law_675 rfl (lv_at hl 3 rfl) ?_
  refine lv_iconst (v := 1) hx hb dL_law_676 (by decide) ?_
  refine lv_iadd hx hb dL_law_677 ?_
  refine k_topi (y := nI (6 * n + 1)) ((nI_add (6 * n) 1).trans (congrArg nI (by omega))) ?_
  refine va_sld hx hb hX hbl hbA hS (vp_in_nI (by omega) (by omega)) dL_law_678 ?_
  refine k_topi (y := xs (6 * n + 1)) (congrArg xs (nI_clamp (by omega))) ?_
  obtain ⟨x_2, k_1⟩ := op_11 hI i_x
  refine va_calli (va_runV (As := [.int (xs (6 * n + 1))]) (rest := []) ⟨hx, hb, hml, hown, hts⟩ (c_X11_image l dC dI g A hG f x1 (xs (6 * n + 1)) i_x) (cwV 1 hts (gi_V tb_c_X11_image tw_1198.1 tw_1199.1 tw_1200.1 tw_56.1) rfl rfl rfl (by decide +kernel) ⟨Nat.le_of_ble_eq_true rfl, Nat.le_of_ble_eq_true rfl⟩) ⟨fun a U g mk q => ⟨q.1, q.2.calling rfl rfl⟩, k_recv hK hI i_x.1 k_1 (ci := 11) rfl, fun U hU hW => ⟨rfl, kIn.of hI hK hE hS hU hW⟩⟩ rfl rfl hl.1 rfl (lv_room (Nat.le_of_ble_eq_true rfl)) dL_law_679 ⟨Nat.le_of_ble_eq_true rfl, Nat.le_of_ble_eq_true rfl⟩) hS (fun q _ h => h) (fun q h => h) (fun r_5 u9 t H1 locs ht hvm w_4 hB hz1 hk1 hS => ?_)
  obtain ⟨f_3, hI, kc_6⟩ := hB
  rw [ht] at hI
  have k_7 : f_3 mo = .inr (12, [.int z0, .int z1, .ref (gr g mo 2), .ref (gr g mo 3), .ref (gr g mo 4), .ref (gr g mo 5), .ref (gr g mo 6), .ref (gr g mo 7), .ref (gr g mo 8), .ref (gr g mo 9), .int z10, .ref (gr g mo 11), .int z12, .int z13, .int z14, .int z15, .long z16, .int z17, .int z18, .ref (gr g mo 19), .ref (gr g mo 20), .ref (gr g mo 21), .ref (gr g mo 22), .int z23, .long z24, .long z25, .long z26]) := Kp.at kc_6 i_m (by decide) hmo
  have k_8 : f_3 (gr g mo 4) = .inl (gc g 1, 906, .inr (.inl q)) := Kp.at kc_6 i_mo_4 (by decide) hcq
  have k_9 : f_3 (gr g mo 5) = .inl (gc g 1, 9060, .inr (.inl u)) := Kp.at kc_6 i_mo_5 (by decide) hcu
  have k_10 : f_3 (gr g mo 7) = .inl (gc g 1, 1812, .inr (.inl im)) := Kp.at kc_6 i_mo_7 (by decide) hci
  have k_11 : f_3 (gr g mo 8) = .inl (gc g 3, 2, .inl kt) := Kp.at kc_6 i_mo_8 (by decide) hck
  have k_12 : f_3 (gr g mo 3) = .inl (gc g 0, 3, .inl tm) := Kp.at kc_6 i_mo_3 (by decide) hct
  have k_13 : f_3 (gr g x1 0) = .inr (9, [.int a0, .int a1, .int a2]) := Kp.at kc_6 i_x1_0 (by decide) hca
  have k_14 : f_3 x1 = .inr (11, [.ref (gr g x1 0), .ref (gr g x1 1), .ref (gr g x1 2), .ref (gr g x1 3), .ref (gr g x1 4), .ref (gr g x1 5), .ref (gr g x1 6), .ref (gr g x1 7), .ref (gr g x1 8), .ref (gr g x1 9), .ref (gr g x1 10), .int x_2]) := Kp.at kc_6 i_x (by decide) k_1
  have kp_15 := Kp.call hk0 kc_6 (by decide)
  generalize H1 = H at hI hS ⊢
  refine W.widen (k := 786) (n := 20946) (Nat.le_of_ble_eq_true rfl) (Nat.le_of_ble_eq_true rfl) ?_
  refine lv_pop hx hb dL_law_682 rfl ?_
  refine lv_aload_n hx hb dL_law_683 rfl (lv_at hl 2 rfl) ?_
  refine lv_aload_n hx hb dL_law_684 rfl (lv_at hl 0 rfl) ?_
  refine lv_iload_n hx hb dL_law_685 rfl (lv_at hl 3 rfl) ?_
  refine lv_iconst (v := 1) hx hb dL_law_686 (by decide) ?_
  refine lv_iadd hx hb dL_law_687 ?_
  refine k_topi (y := nI (6 * n + 1)) ((nI_add (6 * n) 1).trans (congrArg nI (by omega))) ?_
  refine va_sld hx hb hX hbl hbA hS (vp_in_nI (by omega) (by omega)) dL_law_688 ?_
  refine k_topi (y := xs (6 * n + 1)) (congrArg xs (nI_clamp (by omega))) ?_
  refine va_calli (va_runV (As := [.int (xs (6 * n + 1))]) (rest := []) ⟨hx, hb, hml, hown, hts⟩ (c_X12_image l dC dI g A hG f_3 mo (xs (6 * n + 1)) z0 z1 z10 z12 z13 z14 z15 z16 z17 z18 z23 z24 z25 z26 q u im kt i_m k_7 (by omega) (by omega) (by omega) k_8 hok k_9 k_10 k_11 hui) (cwV 1 hts (gi_V tb_c_X12_image tw_1201.1 tw_1202.1 tw_1203.1 tw_728.1) rfl rfl rfl (by decide +kernel) ⟨Nat.le_of_ble_eq_true rfl, Nat.le_of_ble_eq_true rfl⟩) ⟨fun a U g mk q => ⟨q.1, q.2.calling rfl rfl⟩, k_recv hK hI i_m.1 k_7 (ci := 12) rfl, fun U hU hW => ⟨rfl, kIn.of hI hK hE hS hU hW⟩⟩ rfl rfl hl.1 rfl (lv_room (Nat.le_of_ble_eq_true rfl)) dL_law_689 ⟨Nat.le_of_ble_eq_true rfl, Nat.le_of_ble_eq_true rfl⟩) hS (fun q _ h => h) (fun q h => h) (fun r_18 u9 t H1 locs ht hvm w_17 hB hz1 hk1 hS => ?_)
  obtain ⟨f_16, hI, kc_19, w0_20, w1_21, w10_22, w12_23, w13_24, w14_25, w15_26, w16_27, w17_28, w18_29, w23_30, w24_31, w25_32, w26_33, q1_34, u1_35, im1_36, ik1_37, k_38, z_39, z_40, z_41, k_42, z_43, k_44, k_45, k_46, z_47⟩ := hB
  rw [ht] at hI
  have k_48 : f_16 (gr g mo 4) = .inl (gc g 1, 906, .inr (.inl q)) := Kp.at kc_19 i_mo_4 (by decide) k_8
  have k_49 : f_16 (gr g mo 5) = .inl (gc g 1, 9060, .inr (.inl u)) := Kp.at kc_19 i_mo_5 (by decide) k_9
  have k_50 : f_16 (gr g mo 3) = .inl (gc g 0, 3, .inl tm) := Kp.at kc_19 i_mo_3 (by decide) k_12
  have k_51 : f_16 (gr g x1 0) = .inr (9, [.int a0, .int a1, .int a2]) := Kp.at kc_19 i_x1_0 (by decide) k_13
  have k_52 : f_16 x1 = .inr (11, [.ref (gr g x1 0), .ref (gr g x1 1), .ref (gr g x1 2), .ref (gr g x1 3), .ref (gr g x1 4), .ref (gr g x1 5), .ref (gr g x1 6), .ref (gr g x1 7), .ref (gr g x1 8), .ref (gr g x1 9), .ref (gr g x1 10), .int x_2]) := Kp.at kc_19 i_x (by decide) k_14
  have k_38 : f_16 mo = .inr (12, [.int w0_20, .int w1_21, .ref (gr g mo 2), .ref (gr g mo 3), .ref (gr g mo 4), .ref (gr g mo 5), .ref (gr g mo 6), .ref (gr g mo 7), .ref (gr g mo 8), .ref (gr g mo 9), .int w10_22, .ref (gr g mo 11), .int w12_23, .int w13_24, .int w14_25, .int w15_26, .long w16_27, .int w17_28, .int w18_29, .ref (gr g mo 19), .ref (gr g mo 20), .ref (gr g mo 21), .ref (gr g mo 22), .int w23_30, .long w24_31, .long w25_32, .long w26_33]) := k_38
  have z_39 : 0 ≤ w10_22.toInt ∧ w10_22.toInt ≤ 10 := z_39
  have z_40 : 0 ≤ w12_23.toInt ∧ w12_23.toInt ≤ 200 := z_40
  have z_41 : 0 ≤ w23_30.toInt ∧ w23_30.toInt ≤ 8 := z_41
  have z_43 : RowOK q1_34 := z_43
  have d_53 := rk_hd z_43
  have z_47 : UIq w10_22 u1_35 im1_36 ik1_37 := z_47
  have kp_54 := Kp.call kp_15 kc_19 (by decide)
  generalize H1 = H at hI hS ⊢
  refine W.widen (k := 786) (n := 20946) (Nat.le_of_ble_eq_true rfl) (Nat.le_of_ble_eq_true rfl) ?_
  refine lv_pop hx hb dL_law_692 rfl ?_
  refine lv_goto (tgt := 1200) hx hb dL_law_693 (by decide) ?_
  exact kk _ _ _ _ hI hS ⟨w0_20, w1_21, w10_22, w12_23, w13_24, w14_25, w15_26, w16_27, w17_28, w18_29, w23_30, w24_31, w25_32, w26_33, q1_34, u1_35, im1_36, ik1_37, tm, a0, a1, a2, k_38, (by omega), (by omega), (by omega), k_42, k_44, k_45, k_46, k_50, z_43, z_47, k_51, he0, he1, he2⟩ hl
