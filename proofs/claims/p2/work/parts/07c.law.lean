theorem tw_1204 : q_g (.methodLink RL 90 yX11_back) := ⟨(List.mem_append_right _ (List.mem_of_getElem? (i := 891) (by decide +kernel))), good_of_word (by decide +kernel)⟩
theorem tw_1205 : q_g (.instanceMethod yX11_back) := ⟨(List.mem_append_right _ (List.mem_of_getElem? (i := 892) (by decide +kernel))), good_of_word (by decide +kernel)⟩
theorem tw_1206 : q_g (.selects RX11 yX11_back yX11_back) := ⟨(List.mem_append_right _ (List.mem_of_getElem? (i := 893) (by decide +kernel))), good_of_word (by decide +kernel)⟩
theorem tw_1207 : q_g (.methodLink RL 93 yX12_back) := ⟨(List.mem_append_right _ (List.mem_of_getElem? (i := 1330) (by decide +kernel))), good_of_word (by decide +kernel)⟩
theorem tw_1208 : q_g (.instanceMethod yX12_back) := ⟨(List.mem_append_right _ (List.mem_of_getElem? (i := 1331) (by decide +kernel))), good_of_word (by decide +kernel)⟩
theorem tw_1209 : q_g (.selects RX12 yX12_back yX12_back) := ⟨(List.mem_append_right _ (List.mem_of_getElem? (i := 1332) (by decide +kernel))), good_of_word (by decide +kernel)⟩
set_option maxHeartbeats 4000000 in
set_option maxRecDepth 100000 in
theorem law_back {p : Program} {l : Launch} {e : Env} {s : State} {m : MethodId} {below : List Frame} {meth : Method} {c : Code} {dC : Nat → ClassId} {dI : Nat → Nat → Nat} {g : kG} {A : Nat → Prop} {b L : Nat} {xs : Nat → Int32} {x1 mo : Nat} (C0 : lw_At p s m meth c b L xs) (hL : L ≤ 3072) (hbA : ¬ A b) (hG : kWf g) (hK : va_K (dC, dI) vwCl (gty g) s) (hE : kE g A s) (i_x : ik g 11 x1) (i_m : ik g 12 mo) {n : Nat} (hn : 6 * n + 6 ≤ L) {f : Nat → va_E} {H : Heap} {locs : List Loc} {ls : Array Slot} (hI : Iv dC dI g A f H) (hS : va_S A s.heap H locs) (hLI : LI g f x1 mo) (hl : lv_has ls 4 [(0, .ref b), (1, .ref x1), (2, .ref mo), (3, .int (nI (6 * n)))]) (kk : ∀ (f : Nat → va_E) (H : Heap) (locs : List Loc) (ls : Array Slot), Iv dC dI g A f H → va_S A s.heap H locs → LI g f x1 mo → lv_has ls 4 [(0, .ref b), (1, .ref x1), (2, .ref mo), (3, .int (nI (6 * n)))] → W p l e room_1 s m #[Value.ref b] below meth c H locs 786 20946 (lw_Z below #[Value.ref b] s) (F0 m 1200 ls [])) : W p l e room_1 s m #[Value.ref b] below meth c H locs 786 20946 (lw_Z below #[Value.ref b] s) (F0 m 696 ls []) := by
  obtain ⟨hx, hb, hr, hml, hown, hts, hX, hbl, hlocks, hgv⟩ := id C0
  have hown : s.vm.findClass RL = some m.cls := hown
  obtain ⟨z0, z1, z10, z12, z13, z14, z15, z16, z17, z18, z23, z24, z25, z26, q, u, im, kt, tm, a0, a1, a2, hmo, hb0, hb1, hb2, hcq, hcu, hci, hck, hct, hok, hui, hca, he0, he1, he2⟩ := hLI
  have hk0 : Kp g [0, 1, 2, 3, 4, 5, 6, 7, 8, 9, 10, 11, 12, 20, 21, 22, 23, 24, 25, 26, 27, 28, 30, 31, 32, 33, 34, 35, 36, 37, 38, 39, 40, 41, 42] f f := Kp.rf
  have i_mo_4 := kw_12_4 hG i_m
  have i_mo_5 := kw_12_5 hG i_m
  have i_mo_7 := kw_12_7 hG i_m
  have i_mo_8 := kw_12_8 hG i_m
  have i_mo_3 := kw_12_3 hG i_m
  have i_x1_0 := kw_11_0 hG i_x
  refine lv_aload_n hx hb dL_law_696 rfl (lv_at hl 1 rfl) ?_
  refine lv_aload_n hx hb dL_law_697 rfl (lv_at hl 0 rfl) ?_
  refine lv_iload_n hx hb dL_law_698 rfl (lv_at hl 3 rfl) ?_
  refine lv_iconst (v := 1) hx hb dL_law_699 (by decide) ?_
  refine lv_iadd hx hb dL_law_700 ?_
  refine k_topi (y := nI (6 * n + 1)) ((nI_add (6 * n) 1).trans (congrArg nI (by omega))) ?_
  refine va_sld hx hb hX hbl hbA hS (vp_in_nI (by omega) (by omega)) dL_law_701 ?_
  refine k_topi (y := xs (6 * n + 1)) (congrArg xs (nI_clamp (by omega))) ?_
  obtain ⟨x_2, k_1⟩ := op_11 hI i_x
  refine va_calli (va_runV (As := [.int (xs (6 * n + 1))]) (rest := []) ⟨hx, hb, hml, hown, hts⟩ (c_X11_back l dC dI g A hG f x1 (xs (6 * n + 1)) i_x) (cwV 1 hts (gi_V tb_c_X11_back tw_1204.1 tw_1205.1 tw_1206.1 tw_56.1) rfl rfl rfl (by decide +kernel) ⟨Nat.le_of_ble_eq_true rfl, Nat.le_of_ble_eq_true rfl⟩) ⟨fun a U g mk q => ⟨q.1, q.2.calling rfl rfl⟩, k_recv hK hI i_x.1 k_1 (ci := 11) rfl, fun U hU hW => ⟨rfl, kIn.of hI hK hE hS hU hW⟩⟩ rfl rfl hl.1 rfl (lv_room (Nat.le_of_ble_eq_true rfl)) dL_law_702 ⟨Nat.le_of_ble_eq_true rfl, Nat.le_of_ble_eq_true rfl⟩) hS (fun q _ h => h) (fun q h => h) (fun r_5 u9 t H1 locs ht hvm w_4 hB hz1 hk1 hS => ?_)
  obtain ⟨f_3, hI, kc_6⟩ := hB
  rw [ht] at hI
  have k_7 : f_3 mo = .inr (12, [.int z0, .int z1, .ref (gr g mo 2), .ref (gr g mo 3), .ref (gr g mo 4), .ref (gr g mo 5), .ref (gr g mo 6), .ref (gr g mo 7), .ref (gr g mo 8), .ref (gr g mo 9), .int z10, .ref (gr g mo 11), .int z12, .int z13, .int z14, .int z15, .long z16, .int z17, .int z18, .ref (gr g mo 19), .ref (gr g mo 20), .ref (gr g mo 21), .ref (gr g mo 22), .int z23, .long z24, .long z25, .long z26]) := Kp.at kc_6 i_m (by decide) hmo
  have k_8 : f_3 (gr g mo 4) = .inl (gc g 1, 906, .inr (.inl q)) := Kp.at kc_6 i_mo_4 (by decide) hcq
  have k_9 : f_3 (gr g mo 5) = .inl (gc g 1, 9060, .inr (.inl u)) := Kp.at kc_6 i_mo_5 (by decide) hcu
  have k_10 : f_3 (gr g mo 7) = .inl (gc g 1, 1812, .inr (.inl im)) := Kp.at kc_6 i_mo_7 (by decide) hci
  have k_11 : f_3 (gr g mo 8) = .inl (gc g 3, 2, .inl kt) := Kp.at kc_6 i_mo_8 (by decide) hck
  have k_12 : f_3 (gr g mo 3) = .inl (gc g 0, 3, .inl tm) := Kp.at kc_6 i_mo_3 (by decide) hct
  have k_13 : f_3 (gr g x1 0) = .inr (9, [.int a0, .int a1, .int a2]) := Kp.at kc_6 i_x1_0 (by decide) hca
  have k_14 : f_3 x1 = .inr (11, [.ref (gr g x1 0), .ref (gr g x1 1), .ref (gr g x1 2), .ref (gr g x1 3), .ref (gr g x1 4), .ref (gr g x1 5), .ref (gr g x1 6), .ref (gr g x1 7), .ref (gr g x1 8), .ref (gr g x1 9), .ref (gr g x1 10), .int x_2]) := Kp.at kc_6 i_x (by decide) k_1
  have kp_15 := Kp.call hk0 kc_6 (by decide)
  generalize H1 = H at hI hS ⊢
  refine W.widen (k := 786) (n := 20946) (Nat.le_of_ble_eq_true rfl) (Nat.le_of_ble_eq_true rfl) ?_
  refine lv_pop hx hb dL_law_705 rfl ?_
  refine lv_aload_n hx hb dL_law_706 rfl (lv_at hl 2 rfl) ?_
  refine lv_aload_n hx hb dL_law_707 rfl (lv_at hl 0 rfl) ?_
  refine lv_iload_n hx hb dL_law_708 rfl (lv_at hl 3 rfl) ?_
  refine lv_iconst (v := 1) hx hb dL_law_709 (by decide) ?_
  refine lv_iadd hx hb dL_law_710 ?_
  refine k_topi (y := nI (6 * n + 1)) ((nI_add (6 * n) 1).trans (congrArg nI (by omega))) ?_
  refine va_sld hx hb hX hbl hbA hS (vp_in_nI (by omega) (by omega)) dL_law_711 ?_
  refine k_topi (y := xs (6 * n + 1)) (congrArg xs (nI_clamp (by omega))) ?_
  refine va_calli (va_runV (As := [.int (xs (6 * n + 1))]) (rest := []) ⟨hx, hb, hml, hown, hts⟩ (c_X12_back l dC dI g A hG f_3 mo (xs (6 * n + 1)) z0 z1 z10 z12 z13 z14 z15 z16 z17 z18 z23 z24 z25 z26 q u im kt i_m k_7 (by omega) (by omega) (by omega) k_8 hok k_9 k_10 k_11 hui) (cwV 1 hts (gi_V tb_c_X12_back tw_1207.1 tw_1208.1 tw_1209.1 tw_728.1) rfl rfl rfl (by decide +kernel) ⟨Nat.le_of_ble_eq_true rfl, Nat.le_of_ble_eq_true rfl⟩) ⟨fun a U g mk q => ⟨q.1, q.2.calling rfl rfl⟩, k_recv hK hI i_m.1 k_7 (ci := 12) rfl, fun U hU hW => ⟨rfl, kIn.of hI hK hE hS hU hW⟩⟩ rfl rfl hl.1 rfl (lv_room (Nat.le_of_ble_eq_true rfl)) dL_law_712 ⟨Nat.le_of_ble_eq_true rfl, Nat.le_of_ble_eq_true rfl⟩) hS (fun q _ h => h) (fun q h => h) (fun r_18 u9 t H1 locs ht hvm w_17 hB hz1 hk1 hS => ?_)
  obtain ⟨f_16, hI, kc_19, w0_20, w1_21, w10_22, w12_23, w13_24, w14_25, w15_26, w16_27, w17_28, w18_29, w23_30, w24_31, w25_32, w26_33, q1_34, u1_35, im1_36, ik1_37, k_38, z_39, z_40, z_41, k_42, z_43, k_44, k_45, k_46, z_47⟩ := hB
  rw [ht] at hI
  have k_48 : f_16 (gr g mo 5) = .inl (gc g 1, 9060, .inr (.inl u)) := Kp.at kc_19 i_mo_5 (by decide) k_9
  have k_49 : f_16 (gr g mo 7) = .inl (gc g 1, 1812, .inr (.inl im)) := Kp.at kc_19 i_mo_7 (by decide) k_10
  have k_50 : f_16 (gr g mo 8) = .inl (gc g 3, 2, .inl kt) := Kp.at kc_19 i_mo_8 (by decide) k_11
  have k_51 : f_16 (gr g mo 3) = .inl (gc g 0, 3, .inl tm) := Kp.at kc_19 i_mo_3 (by decide) k_12
  have k_52 : f_16 (gr g x1 0) = .inr (9, [.int a0, .int a1, .int a2]) := Kp.at kc_19 i_x1_0 (by decide) k_13
  have k_53 : f_16 x1 = .inr (11, [.ref (gr g x1 0), .ref (gr g x1 1), .ref (gr g x1 2), .ref (gr g x1 3), .ref (gr g x1 4), .ref (gr g x1 5), .ref (gr g x1 6), .ref (gr g x1 7), .ref (gr g x1 8), .ref (gr g x1 9), .ref (gr g x1 10), .int x_2]) := Kp.at kc_19 i_x (by decide) k_14
  have k_38 : f_16 mo = .inr (12, [.int w0_20, .int w1_21, .ref (gr g mo 2), .ref (gr g mo 3), .ref (gr g mo 4), .ref (gr g mo 5), .ref (gr g mo 6), .ref (gr g mo 7), .ref (gr g mo 8), .ref (gr g mo 9), .int w10_22, .ref (gr g mo 11), .int w12_23, .int w13_24, .int w14_25, .int w15_26, .long w16_27, .int w17_28, .int w18_29, .ref (gr g mo 19), .ref (gr g mo 20), .ref (gr g mo 21), .ref (gr g mo 22), .int w23_30, .long w24_31, .long w25_32, .long w26_33]) := k_38
  have z_39 : 0 ≤ w10_22.toInt ∧ w10_22.toInt ≤ 10 := z_39
  have z_40 : 0 ≤ w12_23.toInt ∧ w12_23.toInt ≤ 200 := z_40
  have z_41 : 0 ≤ w23_30.toInt ∧ w23_30.toInt ≤ 8 := z_41
  have z_43 : RowOK q1_34 := z_43
  have d_54 := rk_hd z_43
  have z_47 : UIq w10_22 u1_35 im1_36 ik1_37 := z_47
  have kp_55 := Kp.call kp_15 kc_19 (by decide)
  generalize H1 = H at hI hS ⊢
  refine W.widen (k := 786) (n := 20946) (Nat.le_of_ble_eq_true rfl) (Nat.le_of_ble_eq_true rfl) ?_
  refine lv_pop hx hb dL_law_715 rfl ?_
  refine lv_goto (tgt := 1200) hx hb dL_law_716 (by decide) ?_
  exact kk _ _ _ _ hI hS ⟨w0_20, w1_21, w10_22, w12_23, w13_24, w14_25, w15_26, w16_27, w17_28, w18_29, w23_30, w24_31, w25_32, w26_33, q1_34, u1_35, im1_36, ik1_37, tm, a0, a1, a2, k_38, (by omega), (by omega), (by omega), k_42, k_44, k_45, k_46, k_51, z_43, z_47, k_52, he0, he1, he2⟩ hl
theorem tw_1210 : q_g (.methodLink RL 94 yX11_of) := ⟨(List.mem_append_right _ (List.mem_of_getElem? (i := 895) (by decide +kernel))), good_of_word (by decide +kernel)⟩
theorem tw_1211 : q_g (.instanceMethod yX11_of) := ⟨(List.mem_append_right _ (List.mem_of_getElem? (i := 896) (by decide +kernel))), good_of_word (by decide +kernel)⟩
theorem tw_1212 : q_g (.selects RX11 yX11_of yX11_of) := ⟨(List.mem_append_right _ (List.mem_of_getElem? (i := 897) (by decide +kernel))), good_of_word (by decide +kernel)⟩
theorem tw_1213 : q_g (.methodLink RL 97 yX12_of) := ⟨(List.mem_append_right _ (List.mem_of_getElem? (i := 1442) (by decide +kernel))), good_of_word (by decide +kernel)⟩
theorem tw_1214 : q_g (.instanceMethod yX12_of) := ⟨(List.mem_append_right _ (List.mem_of_getElem? (i := 1443) (by decide +kernel))), good_of_word (by decide +kernel)⟩
theorem tw_1215 : q_g (.selects RX12 yX12_of yX12_of) := ⟨(List.mem_append_right _ (List.mem_of_getElem? (i := 1444) (by decide +kernel))), good_of_word (by decide +kernel)⟩
set_option maxHeartbeats 4000000 in
set_option maxRecDepth 100000 in
theorem law_of {p : Program} {l : Launch} {e : Env} {s : State} {m : MethodId} {below : List Frame} {meth : Method} {c : Code} {dC : Nat → ClassId} {dI : Nat → Nat → Nat} {g : kG} {A : Nat → Prop} {b L : Nat} {xs : Nat → Int32} {x1 mo : Nat} (C0 : lw_At p s m meth c b L xs) (hL : L ≤ 3072) (hbA : ¬ A b) (hG : kWf g) (hK : va_K (dC, dI) vwCl (gty g) s) (hE : kE g A s) (i_x : ik g 11 x1) (i_m : ik g 12 mo) {n : Nat} (hn : 6 * n + 6 ≤ L) {f : Nat → va_E} {H : Heap} {locs : List Loc} {ls : Array Slot} (hI : Iv dC dI g A f H) (hS : va_S A s.heap H locs) (hLI : LI g f x1 mo) (hl : lv_has ls 4 [(0, .ref b), (1, .ref x1), (2, .ref mo), (3, .int (nI (6 * n)))]) (kk : ∀ (f : Nat → va_E) (H : Heap) (locs : List Loc) (ls : Array Slot), Iv dC dI g A f H → va_S A s.heap H locs → LI g f x1 mo → lv_has ls 4 [(0, .ref b), (1, .ref x1), (2, .ref mo), (3, .int (nI (6 * n)))] → W p l e room_1 s m #[Value.ref b] below meth c H locs 786 20946 (lw_Z below #[Value.ref b] s) (F0 m 1200 ls [])) : W p l e room_1 s m #[Value.ref b] below meth c H locs 786 20946 (lw_Z below #[Value.ref b] s) (F0 m 719 ls []) := by
  obtain ⟨hx, hb, hr, hml, hown, hts, hX, hbl, hlocks, hgv⟩ := id C0
  have hown : s.vm.findClass RL = some m.cls := hown
  obtain ⟨z0, z1, z10, z12, z13, z14, z15, z16, z17, z18, z23, z24, z25, z26, q, u, im, kt, tm, a0, a1, a2, hmo, hb0, hb1, hb2, hcq, hcu, hci, hck, hct, hok, hui, hca, he0, he1, he2⟩ := hLI
  have hk0 : Kp g [0, 1, 2, 3, 4, 5, 6, 7, 8, 9, 10, 11, 12, 20, 21, 22, 23, 24, 25, 26, 27, 28, 30, 31, 32, 33, 34, 35, 36, 37, 38, 39, 40, 41, 42] f f := Kp.rf
  have i_mo_4 := kw_12_4 hG i_m
  have i_mo_5 := kw_12_5 hG i_m
  have i_mo_7 := kw_12_7 hG i_m
  have i_mo_8 := kw_12_8 hG i_m
  have i_mo_3 := kw_12_3 hG i_m
  have i_x1_0 := kw_11_0 hG i_x
  refine lv_aload_n hx hb dL_law_719 rfl (lv_at hl 1 rfl) ?_
  refine lv_aload_n hx hb dL_law_720 rfl (lv_at hl 0 rfl) ?_
  refine lv_iload_n hx hb dL_law_721 rfl (lv_at hl 3 rfl) ?_
  refine lv_iconst (v := 1) hx hb dL_law_722 (by decide) ?_
  refine lv_iadd hx hb dL_law_723 ?_
  refine k_topi (y := nI (6 * n + 1)) ((nI_add (6 * n) 1).trans (congrArg nI (by omega))) ?_
  refine va_sld hx hb hX hbl hbA hS (vp_in_nI (by omega) (by omega)) dL_law_724 ?_
  refine k_topi (y := xs (6 * n + 1)) (congrArg xs (nI_clamp (by omega))) ?_
  refine lv_aload_n hx hb dL_law_725 rfl (lv_at hl 0 rfl) ?_
  refine lv_iload_n hx hb dL_law_726 rfl (lv_at hl 3 rfl) ?_
  refine lv_iconst (v := 2) hx hb dL_law_727 (by decide) ?_
  refine lv_iadd hx hb dL_law_728 ?_
  refine k_topi (y := nI (6 * n + 2)) ((nI_add (6 * n) 2).trans (congrArg nI (by omega))) ?_
  refine va_sld hx hb hX hbl hbA hS (vp_in_nI (by omega) (by omega)) dL_law_729 ?_
  refine k_topi (y := xs (6 * n + 2)) (congrArg xs (nI_clamp (by omega))) ?_
  obtain ⟨x_2, k_1⟩ := op_11 hI i_x
  refine va_calli (va_runV (As := [.int (xs (6 * n + 1)), .int (xs (6 * n + 2))]) (rest := []) ⟨hx, hb, hml, hown, hts⟩ (c_X11_of l dC dI g A hG f x1 (xs (6 * n + 1)) (xs (6 * n + 2)) i_x) (cwV 2 hts (gi_V tb_c_X11_of tw_1210.1 tw_1211.1 tw_1212.1 tw_56.1) rfl rfl rfl (by decide +kernel) ⟨Nat.le_of_ble_eq_true rfl, Nat.le_of_ble_eq_true rfl⟩) ⟨fun a U g mk q => ⟨q.1, q.2.calling rfl rfl⟩, k_recv hK hI i_x.1 k_1 (ci := 11) rfl, fun U hU hW => ⟨rfl, kIn.of hI hK hE hS hU hW⟩⟩ rfl rfl hl.1 rfl (lv_room (Nat.le_of_ble_eq_true rfl)) dL_law_730 ⟨Nat.le_of_ble_eq_true rfl, Nat.le_of_ble_eq_true rfl⟩) hS (fun q _ h => h) (fun q h => h) (fun r_4 u9 t H1 locs ht hvm w_3 hB hz1 hk1 hS => ?_)
  have hI : Iv dC dI g A f t.heap := hB
  rw [ht] at hI
  generalize H1 = H at hI hS ⊢
  refine W.widen (k := 786) (n := 20946) (Nat.le_of_ble_eq_true rfl) (Nat.le_of_ble_eq_true rfl) ?_
  refine lv_pop hx hb dL_law_733 rfl ?_
  refine lv_aload_n hx hb dL_law_734 rfl (lv_at hl 2 rfl) ?_
  refine lv_aload_n hx hb dL_law_735 rfl (lv_at hl 0 rfl) ?_
  refine lv_iload_n hx hb dL_law_736 rfl (lv_at hl 3 rfl) ?_
  refine lv_iconst (v := 1) hx hb dL_law_737 (by decide) ?_
  refine lv_iadd hx hb dL_law_738 ?_
  refine k_topi (y := nI (6 * n + 1)) ((nI_add (6 * n) 1).trans (congrArg nI (by omega))) ?_
  refine va_sld hx hb hX hbl hbA hS (vp_in_nI (by omega) (by omega)) dL_law_739 ?_
  refine k_topi (y := xs (6 * n + 1)) (congrArg xs (nI_clamp (by omega))) ?_
  refine lv_aload_n hx hb dL_law_740 rfl (lv_at hl 0 rfl) ?_
  refine lv_iload_n hx hb dL_law_741 rfl (lv_at hl 3 rfl) ?_
  refine lv_iconst (v := 2) hx hb dL_law_742 (by decide) ?_
  refine lv_iadd hx hb dL_law_743 ?_
  refine k_topi (y := nI (6 * n + 2)) ((nI_add (6 * n) 2).trans (congrArg nI (by omega))) ?_
  refine va_sld hx hb hX hbl hbA hS (vp_in_nI (by omega) (by omega)) dL_law_744 ?_
  refine k_topi (y := xs (6 * n + 2)) (congrArg xs (nI_clamp (by omega))) ?_
  refine va_calli (va_runV (As := [.int (xs (6 * n + 1)), .int (xs (6 * n + 2))]) (rest := []) ⟨hx, hb, hml, hown, hts⟩ (c_X12_of l dC dI g A hG f mo (xs (6 * n + 1)) (xs (6 * n + 2)) z0 z1 z10 z12 z13 z14 z15 z16 z17 z18 z23 z24 z25 z26 q u im kt i_m hmo (by omega) (by omega) (by omega) hcq hok hcu hci hck hui) (cwV 2 hts (gi_V tb_c_X12_of tw_1213.1 tw_1214.1 tw_1215.1 tw_728.1) rfl rfl rfl (by decide +kernel) ⟨Nat.le_of_ble_eq_true rfl, Nat.le_of_ble_eq_true rfl⟩) ⟨fun a U g mk q => ⟨q.1, q.2.calling rfl rfl⟩, k_recv hK hI i_m.1 hmo (ci := 12) rfl, fun U hU hW => ⟨rfl, kIn.of hI hK hE hS hU hW⟩⟩ rfl rfl hl.1 rfl (lv_room (Nat.le_of_ble_eq_true rfl)) dL_law_745 ⟨Nat.le_of_ble_eq_true rfl, Nat.le_of_ble_eq_true rfl⟩) hS (fun q _ h => h) (fun q h => h) (fun r_7 u9 t H1 locs ht hvm w_6 hB hz1 hk1 hS => ?_)
  obtain ⟨f_5, hI, kc_8, w0_9, w1_10, w10_11, w12_12, w13_13, w14_14, w15_15, w16_16, w17_17, w18_18, w23_19, w24_20, w25_21, w26_22, q1_23, u1_24, im1_25, ik1_26, k_27, z_28, z_29, z_30, k_31, z_32, k_33, k_34, k_35, z_36⟩ := hB
  rw [ht] at hI
  have k_37 : f_5 (gr g mo 4) = .inl (gc g 1, 906, .inr (.inl q)) := Kp.at kc_8 i_mo_4 (by decide) hcq
  have k_38 : f_5 (gr g mo 5) = .inl (gc g 1, 9060, .inr (.inl u)) := Kp.at kc_8 i_mo_5 (by decide) hcu
  have k_39 : f_5 (gr g mo 7) = .inl (gc g 1, 1812, .inr (.inl im)) := Kp.at kc_8 i_mo_7 (by decide) hci
  have k_40 : f_5 (gr g mo 8) = .inl (gc g 3, 2, .inl kt) := Kp.at kc_8 i_mo_8 (by decide) hck
  have k_41 : f_5 (gr g mo 3) = .inl (gc g 0, 3, .inl tm) := Kp.at kc_8 i_mo_3 (by decide) hct
  have k_42 : f_5 (gr g x1 0) = .inr (9, [.int a0, .int a1, .int a2]) := Kp.at kc_8 i_x1_0 (by decide) hca
  have k_43 : f_5 x1 = .inr (11, [.ref (gr g x1 0), .ref (gr g x1 1), .ref (gr g x1 2), .ref (gr g x1 3), .ref (gr g x1 4), .ref (gr g x1 5), .ref (gr g x1 6), .ref (gr g x1 7), .ref (gr g x1 8), .ref (gr g x1 9), .ref (gr g x1 10), .int x_2]) := Kp.at kc_8 i_x (by decide) k_1
  have k_27 : f_5 mo = .inr (12, [.int w0_9, .int w1_10, .ref (gr g mo 2), .ref (gr g mo 3), .ref (gr g mo 4), .ref (gr g mo 5), .ref (gr g mo 6), .ref (gr g mo 7), .ref (gr g mo 8), .ref (gr g mo 9), .int w10_11, .ref (gr g mo 11), .int w12_12, .int w13_13, .int w14_14, .int w15_15, .long w16_16, .int w17_17, .int w18_18, .ref (gr g mo 19), .ref (gr g mo 20), .ref (gr g mo 21), .ref (gr g mo 22), .int w23_19, .long w24_20, .long w25_21, .long w26_22]) := k_27
  have z_28 : 0 ≤ w10_11.toInt ∧ w10_11.toInt ≤ 10 := z_28
  have z_29 : 0 ≤ w12_12.toInt ∧ w12_12.toInt ≤ 200 := z_29
  have z_30 : 0 ≤ w23_19.toInt ∧ w23_19.toInt ≤ 8 := z_30
  have z_32 : RowOK q1_23 := z_32
  have d_44 := rk_hd z_32
  have z_36 : UIq w10_11 u1_24 im1_25 ik1_26 := z_36
  have kp_45 := Kp.call hk0 kc_8 (by decide)
  generalize H1 = H at hI hS ⊢
  refine W.widen (k := 786) (n := 20946) (Nat.le_of_ble_eq_true rfl) (Nat.le_of_ble_eq_true rfl) ?_
  refine lv_pop hx hb dL_law_748 rfl ?_
  refine lv_goto (tgt := 1200) hx hb dL_law_749 (by decide) ?_
  exact kk _ _ _ _ hI hS ⟨w0_9, w1_10, w10_11, w12_12, w13_13, w14_14, w15_15, w16_16, w17_17, w18_18, w23_19, w24_20, w25_21, w26_22, q1_23, u1_24, im1_25, ik1_26, tm, a0, a1, a2, k_27, (by omega), (by omega), (by omega), k_31, k_33, k_34, k_35, k_41, z_32, z_36, k_42, he0, he1, he2⟩ hl
theorem tw_1216 : q_g (.methodLink RL 98 yX11_exact) := ⟨(List.mem_append_right _ (List.mem_of_getElem? (i := 909) (by decide +kernel))), good_of_word (by decide +kernel)⟩
theorem tw_1217 : q_g (.instanceMethod yX11_exact) := ⟨(List.mem_append_right _ (List.mem_of_getElem? (i := 910) (by decide +kernel))), good_of_word (by decide +kernel)⟩
theorem tw_1218 : q_g (.selects RX11 yX11_exact yX11_exact) := ⟨(List.mem_append_right _ (List.mem_of_getElem? (i := 911) (by decide +kernel))), good_of_word (by decide +kernel)⟩
theorem tw_1219 : q_g (.methodLink RL 102 yX12_exact) := ⟨(List.mem_append_right _ (List.mem_of_getElem? (i := 1446) (by decide +kernel))), good_of_word (by decide +kernel)⟩
theorem tw_1220 : q_g (.instanceMethod yX12_exact) := ⟨(List.mem_append_right _ (List.mem_of_getElem? (i := 1447) (by decide +kernel))), good_of_word (by decide +kernel)⟩
theorem tw_1221 : q_g (.selects RX12 yX12_exact yX12_exact) := ⟨(List.mem_append_right _ (List.mem_of_getElem? (i := 1448) (by decide +kernel))), good_of_word (by decide +kernel)⟩
set_option maxHeartbeats 4000000 in
set_option maxRecDepth 100000 in
theorem law_exact {p : Program} {l : Launch} {e : Env} {s : State} {m : MethodId} {below : List Frame} {meth : Method} {c : Code} {dC : Nat → ClassId} {dI : Nat → Nat → Nat} {g : kG} {A : Nat → Prop} {b L : Nat} {xs : Nat → Int32} {x1 mo : Nat} (C0 : lw_At p s m meth c b L xs) (hL : L ≤ 3072) (hbA : ¬ A b) (hG : kWf g) (hK : va_K (dC, dI) vwCl (gty g) s) (hE : kE g A s) (i_x : ik g 11 x1) (i_m : ik g 12 mo) {n : Nat} (hn : 6 * n + 6 ≤ L) {f : Nat → va_E} {H : Heap} {locs : List Loc} {ls : Array Slot} (hI : Iv dC dI g A f H) (hS : va_S A s.heap H locs) (hLI : LI g f x1 mo) (hl : lv_has ls 4 [(0, .ref b), (1, .ref x1), (2, .ref mo), (3, .int (nI (6 * n)))]) (kk : ∀ (f : Nat → va_E) (H : Heap) (locs : List Loc) (ls : Array Slot), Iv dC dI g A f H → va_S A s.heap H locs → LI g f x1 mo → lv_has ls 4 [(0, .ref b), (1, .ref x1), (2, .ref mo), (3, .int (nI (6 * n)))] → W p l e room_1 s m #[Value.ref b] below meth c H locs 786 20946 (lw_Z below #[Value.ref b] s) (F0 m 1200 ls [])) : W p l e room_1 s m #[Value.ref b] below meth c H locs 786 20946 (lw_Z below #[Value.ref b] s) (F0 m 752 ls []) := by
  obtain ⟨hx, hb, hr, hml, hown, hts, hX, hbl, hlocks, hgv⟩ := id C0
  have hown : s.vm.findClass RL = some m.cls := hown
  obtain ⟨z0, z1, z10, z12, z13, z14, z15, z16, z17, z18, z23, z24, z25, z26, q, u, im, kt, tm, a0, a1, a2, hmo, hb0, hb1, hb2, hcq, hcu, hci, hck, hct, hok, hui, hca, he0, he1, he2⟩ := hLI
  have hk0 : Kp g [0, 1, 2, 3, 4, 5, 6, 7, 8, 9, 10, 11, 12, 20, 21, 22, 23, 24, 25, 26, 27, 28, 30, 31, 32, 33, 34, 35, 36, 37, 38, 39, 40, 41, 42] f f := Kp.rf
  have i_mo_4 := kw_12_4 hG i_m
  have i_mo_5 := kw_12_5 hG i_m
  have i_mo_7 := kw_12_7 hG i_m
  have i_mo_8 := kw_12_8 hG i_m
  have i_mo_3 := kw_12_3 hG i_m
  have i_x1_0 := kw_11_0 hG i_x
  refine lv_aload_n hx hb dL_law_752 rfl (lv_at hl 1 rfl) ?_
  refine lv_aload_n hx hb dL_law_753 rfl (lv_at hl 0 rfl) ?_
  refine lv_iload_n hx hb dL_law_754 rfl (lv_at hl 3 rfl) ?_
  refine lv_iconst (v := 1) hx hb dL_law_755 (by decide) ?_
  refine lv_iadd hx hb dL_law_756 ?_
  refine k_topi (y := nI (6 * n + 1)) ((nI_add (6 * n) 1).trans (congrArg nI (by omega))) ?_
  refine va_sld hx hb hX hbl hbA hS (vp_in_nI (by omega) (by omega)) dL_law_757 ?_
  refine k_topi (y := xs (6 * n + 1)) (congrArg xs (nI_clamp (by omega))) ?_
  refine lv_aload_n hx hb dL_law_758 rfl (lv_at hl 0 rfl) ?_
  refine lv_iload_n hx hb dL_law_759 rfl (lv_at hl 3 rfl) ?_
  refine lv_iconst (v := 2) hx hb dL_law_760 (by decide) ?_
  refine lv_iadd hx hb dL_law_761 ?_
  refine k_topi (y := nI (6 * n + 2)) ((nI_add (6 * n) 2).trans (congrArg nI (by omega))) ?_
  refine va_sld hx hb hX hbl hbA hS (vp_in_nI (by omega) (by omega)) dL_law_762 ?_
  refine k_topi (y := xs (6 * n + 2)) (congrArg xs (nI_clamp (by omega))) ?_
  obtain ⟨x_2, k_1⟩ := op_11 hI i_x
  refine va_calll (va_runV (As := [.int (xs (6 * n + 1)), .int (xs (6 * n + 2))]) (rest := []) ⟨hx, hb, hml, hown, hts⟩ (c_X11_exact l dC dI g A hG f x1 (xs (6 * n + 1)) (xs (6 * n + 2)) i_x) (cwV 2 hts (gi_V tb_c_X11_exact tw_1216.1 tw_1217.1 tw_1218.1 tw_56.1) rfl rfl rfl (by decide +kernel) ⟨Nat.le_of_ble_eq_true rfl, Nat.le_of_ble_eq_true rfl⟩) ⟨fun a U g mk q => ⟨q.1, q.2.calling rfl rfl⟩, k_recv hK hI i_x.1 k_1 (ci := 11) rfl, fun U hU hW => ⟨rfl, kIn.of hI hK hE hS hU hW⟩⟩ rfl rfl hl.1 rfl (lv_room (Nat.le_of_ble_eq_true rfl)) dL_law_763 ⟨Nat.le_of_ble_eq_true rfl, Nat.le_of_ble_eq_true rfl⟩) hS (fun q _ h => h) (fun q h => h) (fun r_5 u9 t H1 locs ht hvm w_4 hB hz1 hk1 hS => ?_)
  obtain ⟨f_3, hI, kc_6⟩ := hB
  rw [ht] at hI
  have k_7 : f_3 mo = .inr (12, [.int z0, .int z1, .ref (gr g mo 2), .ref (gr g mo 3), .ref (gr g mo 4), .ref (gr g mo 5), .ref (gr g mo 6), .ref (gr g mo 7), .ref (gr g mo 8), .ref (gr g mo 9), .int z10, .ref (gr g mo 11), .int z12, .int z13, .int z14, .int z15, .long z16, .int z17, .int z18, .ref (gr g mo 19), .ref (gr g mo 20), .ref (gr g mo 21), .ref (gr g mo 22), .int z23, .long z24, .long z25, .long z26]) := Kp.at kc_6 i_m (by decide) hmo
  have k_8 : f_3 (gr g mo 4) = .inl (gc g 1, 906, .inr (.inl q)) := Kp.at kc_6 i_mo_4 (by decide) hcq
  have k_9 : f_3 (gr g mo 5) = .inl (gc g 1, 9060, .inr (.inl u)) := Kp.at kc_6 i_mo_5 (by decide) hcu
  have k_10 : f_3 (gr g mo 7) = .inl (gc g 1, 1812, .inr (.inl im)) := Kp.at kc_6 i_mo_7 (by decide) hci
  have k_11 : f_3 (gr g mo 8) = .inl (gc g 3, 2, .inl kt) := Kp.at kc_6 i_mo_8 (by decide) hck
  have k_12 : f_3 (gr g mo 3) = .inl (gc g 0, 3, .inl tm) := Kp.at kc_6 i_mo_3 (by decide) hct
  have k_13 : f_3 (gr g x1 0) = .inr (9, [.int a0, .int a1, .int a2]) := Kp.at kc_6 i_x1_0 (by decide) hca
  have k_14 : f_3 x1 = .inr (11, [.ref (gr g x1 0), .ref (gr g x1 1), .ref (gr g x1 2), .ref (gr g x1 3), .ref (gr g x1 4), .ref (gr g x1 5), .ref (gr g x1 6), .ref (gr g x1 7), .ref (gr g x1 8), .ref (gr g x1 9), .ref (gr g x1 10), .int x_2]) := Kp.at kc_6 i_x (by decide) k_1
  have kp_15 := Kp.call hk0 kc_6 (by decide)
  generalize H1 = H at hI hS ⊢
  refine W.widen (k := 786) (n := 20946) (Nat.le_of_ble_eq_true rfl) (Nat.le_of_ble_eq_true rfl) ?_
  refine lv_pop2_2 hx hb dL_law_766 rfl ?_
  refine lv_aload_n hx hb dL_law_767 rfl (lv_at hl 2 rfl) ?_
  refine lv_aload_n hx hb dL_law_768 rfl (lv_at hl 0 rfl) ?_
  refine lv_iload_n hx hb dL_law_769 rfl (lv_at hl 3 rfl) ?_
  refine lv_iconst (v := 1) hx hb dL_law_770 (by decide) ?_
  refine lv_iadd hx hb dL_law_771 ?_
  refine k_topi (y := nI (6 * n + 1)) ((nI_add (6 * n) 1).trans (congrArg nI (by omega))) ?_
  refine va_sld hx hb hX hbl hbA hS (vp_in_nI (by omega) (by omega)) dL_law_772 ?_
  refine k_topi (y := xs (6 * n + 1)) (congrArg xs (nI_clamp (by omega))) ?_
  refine lv_aload_n hx hb dL_law_773 rfl (lv_at hl 0 rfl) ?_
  refine lv_iload_n hx hb dL_law_774 rfl (lv_at hl 3 rfl) ?_
  refine lv_iconst (v := 2) hx hb dL_law_775 (by decide) ?_
  refine lv_iadd hx hb dL_law_776 ?_
  refine k_topi (y := nI (6 * n + 2)) ((nI_add (6 * n) 2).trans (congrArg nI (by omega))) ?_
  refine va_sld hx hb hX hbl hbA hS (vp_in_nI (by omega) (by omega)) dL_law_777 ?_
  refine k_topi (y := xs (6 * n + 2)) (congrArg xs (nI_clamp (by omega))) ?_
  refine va_calll (va_runV (As := [.int (xs (6 * n + 1)), .int (xs (6 * n + 2))]) (rest := []) ⟨hx, hb, hml, hown, hts⟩ (c_X12_exact l dC dI g A hG f_3 mo (xs (6 * n + 1)) (xs (6 * n + 2)) z0 z1 z10 z12 z13 z14 z15 z16 z17 z18 z23 z24 z25 z26 q u im kt i_m k_7 (by omega) (by omega) (by omega) k_8 hok k_9 k_10 k_11 hui) (cwV 2 hts (gi_V tb_c_X12_exact tw_1219.1 tw_1220.1 tw_1221.1 tw_728.1) rfl rfl rfl (by decide +kernel) ⟨Nat.le_of_ble_eq_true rfl, Nat.le_of_ble_eq_true rfl⟩) ⟨fun a U g mk q => ⟨q.1, q.2.calling rfl rfl⟩, k_recv hK hI i_m.1 k_7 (ci := 12) rfl, fun U hU hW => ⟨rfl, kIn.of hI hK hE hS hU hW⟩⟩ rfl rfl hl.1 rfl (lv_room (Nat.le_of_ble_eq_true rfl)) dL_law_778 ⟨Nat.le_of_ble_eq_true rfl, Nat.le_of_ble_eq_true rfl⟩) hS (fun q _ h => h) (fun q h => h) (fun r_18 u9 t H1 locs ht hvm w_17 hB hz1 hk1 hS => ?_)
  obtain ⟨f_16, hI, kc_19, w0_20, w1_21, w10_22, w12_23, w13_24, w14_25, w15_26, w16_27, w17_28, w18_29, w23_30, w24_31, w25_32, w26_33, q1_34, u1_35, im1_36, ik1_37, k_38, z_39, z_40, z_41, k_42, z_43, k_44, k_45, k_46, z_47⟩ := hB
  rw [ht] at hI
  have k_48 : f_16 (gr g mo 4) = .inl (gc g 1, 906, .inr (.inl q)) := Kp.at kc_19 i_mo_4 (by decide) k_8
  have k_49 : f_16 (gr g mo 5) = .inl (gc g 1, 9060, .inr (.inl u)) := Kp.at kc_19 i_mo_5 (by decide) k_9
  have k_50 : f_16 (gr g mo 7) = .inl (gc g 1, 1812, .inr (.inl im)) := Kp.at kc_19 i_mo_7 (by decide) k_10
  have k_51 : f_16 (gr g mo 8) = .inl (gc g 3, 2, .inl kt) := Kp.at kc_19 i_mo_8 (by decide) k_11
  have k_52 : f_16 (gr g mo 3) = .inl (gc g 0, 3, .inl tm) := Kp.at kc_19 i_mo_3 (by decide) k_12
  have k_53 : f_16 (gr g x1 0) = .inr (9, [.int a0, .int a1, .int a2]) := Kp.at kc_19 i_x1_0 (by decide) k_13
  have k_54 : f_16 x1 = .inr (11, [.ref (gr g x1 0), .ref (gr g x1 1), .ref (gr g x1 2), .ref (gr g x1 3), .ref (gr g x1 4), .ref (gr g x1 5), .ref (gr g x1 6), .ref (gr g x1 7), .ref (gr g x1 8), .ref (gr g x1 9), .ref (gr g x1 10), .int x_2]) := Kp.at kc_19 i_x (by decide) k_14
  have k_38 : f_16 mo = .inr (12, [.int w0_20, .int w1_21, .ref (gr g mo 2), .ref (gr g mo 3), .ref (gr g mo 4), .ref (gr g mo 5), .ref (gr g mo 6), .ref (gr g mo 7), .ref (gr g mo 8), .ref (gr g mo 9), .int w10_22, .ref (gr g mo 11), .int w12_23, .int w13_24, .int w14_25, .int w15_26, .long w16_27, .int w17_28, .int w18_29, .ref (gr g mo 19), .ref (gr g mo 20), .ref (gr g mo 21), .ref (gr g mo 22), .int w23_30, .long w24_31, .long w25_32, .long w26_33]) := k_38
  have z_39 : 0 ≤ w10_22.toInt ∧ w10_22.toInt ≤ 10 := z_39
  have z_40 : 0 ≤ w12_23.toInt ∧ w12_23.toInt ≤ 200 := z_40
  have z_41 : 0 ≤ w23_30.toInt ∧ w23_30.toInt ≤ 8 := z_41
  have z_43 : RowOK q1_34 := z_43
  have d_55 := rk_hd z_43
  have z_47 : UIq w10_22 u1_35 im1_36 ik1_37 := z_47
  have kp_56 := Kp.call kp_15 kc_19 (by decide)
  generalize H1 = H at hI hS ⊢
  refine W.widen (k := 786) (n := 20946) (Nat.le_of_ble_eq_true rfl) (Nat.le_of_ble_eq_true rfl) ?_
  refine lv_pop2_2 hx hb dL_law_781 rfl ?_
  refine lv_goto (tgt := 1200) hx hb dL_law_782 (by decide) ?_
  exact kk _ _ _ _ hI hS ⟨w0_20, w1_21, w10_22, w12_23, w13_24, w14_25, w15_26, w16_27, w17_28, w18_29, w23_30, w24_31, w25_32, w26_33, q1_34, u1_35, im1_36, ik1_37, tm, a0, a1, a2, k_38, (by omega), (by omega), (by omega), k_42, k_44, k_45, k_46, k_52, z_43, z_47, k_53, he0, he1, he2⟩ hl
theorem tw_1222 : q_g (.methodLink RL 103 yX11_time) := ⟨(List.mem_append_right _ (List.mem_of_getElem? (i := 920) (by decide +kernel))), good_of_word (by decide +kernel)⟩
theorem tw_1223 : q_g (.instanceMethod yX11_time) := ⟨(List.mem_append_right _ (List.mem_of_getElem? (i := 921) (by decide +kernel))), good_of_word (by decide +kernel)⟩
theorem tw_1224 : q_g (.selects RX11 yX11_time yX11_time) := ⟨(List.mem_append_right _ (List.mem_of_getElem? (i := 922) (by decide +kernel))), good_of_word (by decide +kernel)⟩
theorem tw_1225 : q_g (.methodLink RL 107 yX12_time) := ⟨(List.mem_append_right _ (List.mem_of_getElem? (i := 1451) (by decide +kernel))), good_of_word (by decide +kernel)⟩
theorem tw_1226 : q_g (.instanceMethod yX12_time) := ⟨(List.mem_append_right _ (List.mem_of_getElem? (i := 1452) (by decide +kernel))), good_of_word (by decide +kernel)⟩
theorem tw_1227 : q_g (.selects RX12 yX12_time yX12_time) := ⟨(List.mem_append_right _ (List.mem_of_getElem? (i := 1453) (by decide +kernel))), good_of_word (by decide +kernel)⟩
set_option maxHeartbeats 4000000 in
set_option maxRecDepth 100000 in
theorem law_time {p : Program} {l : Launch} {e : Env} {s : State} {m : MethodId} {below : List Frame} {meth : Method} {c : Code} {dC : Nat → ClassId} {dI : Nat → Nat → Nat} {g : kG} {A : Nat → Prop} {b L : Nat} {xs : Nat → Int32} {x1 mo : Nat} (C0 : lw_At p s m meth c b L xs) (hL : L ≤ 3072) (hbA : ¬ A b) (hG : kWf g) (hK : va_K (dC, dI) vwCl (gty g) s) (hE : kE g A s) (i_x : ik g 11 x1) (i_m : ik g 12 mo) {n : Nat} (hn : 6 * n + 6 ≤ L) {f : Nat → va_E} {H : Heap} {locs : List Loc} {ls : Array Slot} (hI : Iv dC dI g A f H) (hS : va_S A s.heap H locs) (hLI : LI g f x1 mo) (hl : lv_has ls 4 [(0, .ref b), (1, .ref x1), (2, .ref mo), (3, .int (nI (6 * n)))]) (kk : ∀ (f : Nat → va_E) (H : Heap) (locs : List Loc) (ls : Array Slot), Iv dC dI g A f H → va_S A s.heap H locs → LI g f x1 mo → lv_has ls 4 [(0, .ref b), (1, .ref x1), (2, .ref mo), (3, .int (nI (6 * n)))] → W p l e room_1 s m #[Value.ref b] below meth c H locs 786 20946 (lw_Z below #[Value.ref b] s) (F0 m 1200 ls [])) : W p l e room_1 s m #[Value.ref b] below meth c H locs 786 20946 (lw_Z below #[Value.ref b] s) (F0 m 785 ls []) := by
  obtain ⟨hx, hb, hr, hml, hown, hts, hX, hbl, hlocks, hgv⟩ := id C0
  have hown : s.vm.findClass RL = some m.cls := hown
  obtain ⟨z0, z1, z10, z12, z13, z14, z15, z16, z17, z18, z23, z24, z25, z26, q, u, im, kt, tm, a0, a1, a2, hmo, hb0, hb1, hb2, hcq, hcu, hci, hck, hct, hok, hui, hca, he0, he1, he2⟩ := hLI
  have hk0 : Kp g [0, 1, 2, 3, 4, 5, 6, 7, 8, 9, 10, 11, 12, 20, 21, 22, 23, 24, 25, 26, 27, 28, 30, 31, 32, 33, 34, 35, 36, 37, 38, 39, 40, 41, 42] f f := Kp.rf
  have i_mo_4 := kw_12_4 hG i_m
  have i_mo_5 := kw_12_5 hG i_m
  have i_mo_7 := kw_12_7 hG i_m
  have i_mo_8 := kw_12_8 hG i_m
  have i_mo_3 := kw_12_3 hG i_m
  have i_x1_0 := kw_11_0 hG i_x
  refine lv_aload_n hx hb dL_law_785 rfl (lv_at hl 1 rfl) ?_
  refine lv_aload_n hx hb dL_law_786 rfl (lv_at hl 0 rfl) ?_
  refine lv_iload_n hx hb dL_law_787 rfl (lv_at hl 3 rfl) ?_
  refine lv_iconst (v := 1) hx hb dL_law_788 (by decide) ?_
  refine lv_iadd hx hb dL_law_789 ?_
  refine k_topi (y := nI (6 * n + 1)) ((nI_add (6 * n) 1).trans (congrArg nI (by omega))) ?_
  refine va_sld hx hb hX hbl hbA hS (vp_in_nI (by omega) (by omega)) dL_law_790 ?_
  refine k_topi (y := xs (6 * n + 1)) (congrArg xs (nI_clamp (by omega))) ?_
  obtain ⟨x_2, k_1⟩ := op_11 hI i_x
  refine va_calll (va_runV (As := [.int (xs (6 * n + 1))]) (rest := []) ⟨hx, hb, hml, hown, hts⟩ (c_X11_time l dC dI g A hG f x1 (xs (6 * n + 1)) i_x) (cwV 1 hts (gi_V tb_c_X11_time tw_1222.1 tw_1223.1 tw_1224.1 tw_56.1) rfl rfl rfl (by decide +kernel) ⟨Nat.le_of_ble_eq_true rfl, Nat.le_of_ble_eq_true rfl⟩) ⟨fun a U g mk q => ⟨q.1, q.2.calling rfl rfl⟩, k_recv hK hI i_x.1 k_1 (ci := 11) rfl, fun U hU hW => ⟨rfl, kIn.of hI hK hE hS hU hW⟩⟩ rfl rfl hl.1 rfl (lv_room (Nat.le_of_ble_eq_true rfl)) dL_law_791 ⟨Nat.le_of_ble_eq_true rfl, Nat.le_of_ble_eq_true rfl⟩) hS (fun q _ h => h) (fun q h => h) (fun r_5 u9 t H1 locs ht hvm w_4 hB hz1 hk1 hS => ?_)
  obtain ⟨f_3, hI, kc_6⟩ := hB
  rw [ht] at hI
  have k_7 : f_3 mo = .inr (12, [.int z0, .int z1, .ref (gr g mo 2), .ref (gr g mo 3), .ref (gr g mo 4), .ref (gr g mo 5), .ref (gr g mo 6), .ref (gr g mo 7), .ref (gr g mo 8), .ref (gr g mo 9), .int z10, .ref (gr g mo 11), .int z12, .int z13, .int z14, .int z15, .long z16, .int z17, .int z18, .ref (gr g mo 19), .ref (gr g mo 20), .ref (gr g mo 21), .ref (gr g mo 22), .int z23, .long z24, .long z25, .long z26]) := Kp.at kc_6 i_m (by decide) hmo
  have k_8 : f_3 (gr g mo 4) = .inl (gc g 1, 906, .inr (.inl q)) := Kp.at kc_6 i_mo_4 (by decide) hcq
  have k_9 : f_3 (gr g mo 5) = .inl (gc g 1, 9060, .inr (.inl u)) := Kp.at kc_6 i_mo_5 (by decide) hcu
  have k_10 : f_3 (gr g mo 7) = .inl (gc g 1, 1812, .inr (.inl im)) := Kp.at kc_6 i_mo_7 (by decide) hci
  have k_11 : f_3 (gr g mo 8) = .inl (gc g 3, 2, .inl kt) := Kp.at kc_6 i_mo_8 (by decide) hck
  have k_12 : f_3 (gr g mo 3) = .inl (gc g 0, 3, .inl tm) := Kp.at kc_6 i_mo_3 (by decide) hct
  have k_13 : f_3 (gr g x1 0) = .inr (9, [.int a0, .int a1, .int a2]) := Kp.at kc_6 i_x1_0 (by decide) hca
  have k_14 : f_3 x1 = .inr (11, [.ref (gr g x1 0), .ref (gr g x1 1), .ref (gr g x1 2), .ref (gr g x1 3), .ref (gr g x1 4), .ref (gr g x1 5), .ref (gr g x1 6), .ref (gr g x1 7), .ref (gr g x1 8), .ref (gr g x1 9), .ref (gr g x1 10), .int x_2]) := Kp.at kc_6 i_x (by decide) k_1
  have kp_15 := Kp.call hk0 kc_6 (by decide)
  generalize H1 = H at hI hS ⊢
  refine W.widen (k := 786) (n := 20946) (Nat.le_of_ble_eq_true rfl) (Nat.le_of_ble_eq_true rfl) ?_
  refine lv_pop2_2 hx hb dL_law_794 rfl ?_
  refine lv_aload_n hx hb dL_law_795 rfl (lv_at hl 2 rfl) ?_
  refine lv_aload_n hx hb dL_law_796 rfl (lv_at hl 0 rfl) ?_
  refine lv_iload_n hx hb dL_law_797 rfl (lv_at hl 3 rfl) ?_
  refine lv_iconst (v := 1) hx hb dL_law_798 (by decide) ?_
  refine lv_iadd hx hb dL_law_799 ?_
  refine k_topi (y := nI (6 * n + 1)) ((nI_add (6 * n) 1).trans (congrArg nI (by omega))) ?_
  refine va_sld hx hb hX hbl hbA hS (vp_in_nI (by omega) (by omega)) dL_law_800 ?_
  refine k_topi (y := xs (6 * n + 1)) (congrArg xs (nI_clamp (by omega))) ?_
  refine va_calll (va_runV (As := [.int (xs (6 * n + 1))]) (rest := []) ⟨hx, hb, hml, hown, hts⟩ (c_X12_time l dC dI g A hG f_3 mo (xs (6 * n + 1)) z0 z1 z10 z12 z13 z14 z15 z16 z17 z18 z23 z24 z25 z26 q u im kt i_m k_7 (by omega) (by omega) (by omega) k_8 hok k_9 k_10 k_11 hui) (cwV 1 hts (gi_V tb_c_X12_time tw_1225.1 tw_1226.1 tw_1227.1 tw_728.1) rfl rfl rfl (by decide +kernel) ⟨Nat.le_of_ble_eq_true rfl, Nat.le_of_ble_eq_true rfl⟩) ⟨fun a U g mk q => ⟨q.1, q.2.calling rfl rfl⟩, k_recv hK hI i_m.1 k_7 (ci := 12) rfl, fun U hU hW => ⟨rfl, kIn.of hI hK hE hS hU hW⟩⟩ rfl rfl hl.1 rfl (lv_room (Nat.le_of_ble_eq_true rfl)) dL_law_801 ⟨Nat.le_of_ble_eq_true rfl, Nat.le_of_ble_eq_true rfl⟩) hS (fun q _ h => h) (fun q h => h) (fun r_18 u9 t H1 locs ht hvm w_17 hB hz1 hk1 hS => ?_)
  obtain ⟨f_16, hI, kc_19, w0_20, w1_21, w10_22, w12_23, w13_24, w14_25, w15_26, w16_27, w17_28, w18_29, w23_30, w24_31, w25_32, w26_33, q1_34, u1_35, im1_36, ik1_37, k_38, z_39, z_40, z_41, k_42, z_43, k_44, k_45, k_46, z_47⟩ := hB
  rw [ht] at hI
  have k_48 : f_16 (gr g mo 4) = .inl (gc g 1, 906, .inr (.inl q)) := Kp.at kc_19 i_mo_4 (by decide) k_8
  have k_49 : f_16 (gr g mo 5) = .inl (gc g 1, 9060, .inr (.inl u)) := Kp.at kc_19 i_mo_5 (by decide) k_9
  have k_50 : f_16 (gr g mo 7) = .inl (gc g 1, 1812, .inr (.inl im)) := Kp.at kc_19 i_mo_7 (by decide) k_10
  have k_51 : f_16 (gr g mo 8) = .inl (gc g 3, 2, .inl kt) := Kp.at kc_19 i_mo_8 (by decide) k_11
  have k_52 : f_16 (gr g mo 3) = .inl (gc g 0, 3, .inl tm) := Kp.at kc_19 i_mo_3 (by decide) k_12
  have k_53 : f_16 (gr g x1 0) = .inr (9, [.int a0, .int a1, .int a2]) := Kp.at kc_19 i_x1_0 (by decide) k_13
  have k_54 : f_16 x1 = .inr (11, [.ref (gr g x1 0), .ref (gr g x1 1), .ref (gr g x1 2), .ref (gr g x1 3), .ref (gr g x1 4), .ref (gr g x1 5), .ref (gr g x1 6), .ref (gr g x1 7), .ref (gr g x1 8), .ref (gr g x1 9), .ref (gr g x1 10), .int x_2]) := Kp.at kc_19 i_x (by decide) k_14
  have k_38 : f_16 mo = .inr (12, [.int w0_20, .int w1_21, .ref (gr g mo 2), .ref (gr g mo 3), .ref (gr g mo 4), .ref (gr g mo 5), .ref (gr g mo 6), .ref (gr g mo 7), .ref (gr g mo 8), .ref (gr g mo 9), .int w10_22, .ref (gr g mo 11), .int w12_23, .int w13_24, .int w14_25, .int w15_26, .long w16_27, .int w17_28, .int w18_29, .ref (gr g mo 19), .ref (gr g mo 20), .ref (gr g mo 21), .ref (gr g mo 22), .int w23_30, .long w24_31, .long w25_32, .long w26_33]) := k_38
  have z_39 : 0 ≤ w10_22.toInt ∧ w10_22.toInt ≤ 10 := z_39
  have z_40 : 0 ≤ w12_23.toInt ∧ w12_23.toInt ≤ 200 := z_40
  have z_41 : 0 ≤ w23_30.toInt ∧ w23_30.toInt ≤ 8 := z_41
  have z_43 : RowOK q1_34 := z_43
  have d_55 := rk_hd z_43
  have z_47 : UIq w10_22 u1_35 im1_36 ik1_37 := z_47
  have kp_56 := Kp.call kp_15 kc_19 (by decide)
  generalize H1 = H at hI hS ⊢
  refine W.widen (k := 786) (n := 20946) (Nat.le_of_ble_eq_true rfl) (Nat.le_of_ble_eq_true rfl) ?_
  refine lv_pop2_2 hx hb dL_law_804 rfl ?_
  refine lv_goto (tgt := 1200) hx hb dL_law_805 (by decide) ?_
  exact kk _ _ _ _ hI hS ⟨w0_20, w1_21, w10_22, w12_23, w13_24, w14_25, w15_26, w16_27, w17_28, w18_29, w23_30, w24_31, w25_32, w26_33, q1_34, u1_35, im1_36, ik1_37, tm, a0, a1, a2, k_38, (by omega), (by omega), (by omega), k_42, k_44, k_45, k_46, k_52, z_43, z_47, k_53, he0, he1, he2⟩ hl
theorem tw_1228 : q_g (.methodLink RL 108 yX11_eligible) := ⟨(List.mem_append_right _ (List.mem_of_getElem? (i := 933) (by decide +kernel))), good_of_word (by decide +kernel)⟩
theorem tw_1229 : q_g (.instanceMethod yX11_eligible) := ⟨(List.mem_append_right _ (List.mem_of_getElem? (i := 934) (by decide +kernel))), good_of_word (by decide +kernel)⟩
theorem tw_1230 : q_g (.selects RX11 yX11_eligible yX11_eligible) := ⟨(List.mem_append_right _ (List.mem_of_getElem? (i := 935) (by decide +kernel))), good_of_word (by decide +kernel)⟩
theorem tw_1231 : q_g (.methodLink RL 111 yX12_eligible) := ⟨(List.mem_append_right _ (List.mem_of_getElem? (i := 1455) (by decide +kernel))), good_of_word (by decide +kernel)⟩
theorem tw_1232 : q_g (.instanceMethod yX12_eligible) := ⟨(List.mem_append_right _ (List.mem_of_getElem? (i := 1456) (by decide +kernel))), good_of_word (by decide +kernel)⟩
theorem tw_1233 : q_g (.selects RX12 yX12_eligible yX12_eligible) := ⟨(List.mem_append_right _ (List.mem_of_getElem? (i := 1457) (by decide +kernel))), good_of_word (by decide +kernel)⟩
set_option maxHeartbeats 4000000 in
set_option maxRecDepth 100000 in
theorem law_eligible {p : Program} {l : Launch} {e : Env} {s : State} {m : MethodId} {below : List Frame} {meth : Method} {c : Code} {dC : Nat → ClassId} {dI : Nat → Nat → Nat} {g : kG} {A : Nat → Prop} {b L : Nat} {xs : Nat → Int32} {x1 mo : Nat} (C0 : lw_At p s m meth c b L xs) (hL : L ≤ 3072) (hbA : ¬ A b) (hG : kWf g) (hK : va_K (dC, dI) vwCl (gty g) s) (hE : kE g A s) (i_x : ik g 11 x1) (i_m : ik g 12 mo) {n : Nat} (hn : 6 * n + 6 ≤ L) {f : Nat → va_E} {H : Heap} {locs : List Loc} {ls : Array Slot} (hI : Iv dC dI g A f H) (hS : va_S A s.heap H locs) (hLI : LI g f x1 mo) (hl : lv_has ls 4 [(0, .ref b), (1, .ref x1), (2, .ref mo), (3, .int (nI (6 * n)))]) (kk : ∀ (f : Nat → va_E) (H : Heap) (locs : List Loc) (ls : Array Slot), Iv dC dI g A f H → va_S A s.heap H locs → LI g f x1 mo → lv_has ls 4 [(0, .ref b), (1, .ref x1), (2, .ref mo), (3, .int (nI (6 * n)))] → W p l e room_1 s m #[Value.ref b] below meth c H locs 786 20946 (lw_Z below #[Value.ref b] s) (F0 m 1200 ls [])) : W p l e room_1 s m #[Value.ref b] below meth c H locs 786 20946 (lw_Z below #[Value.ref b] s) (F0 m 808 ls []) := by
  obtain ⟨hx, hb, hr, hml, hown, hts, hX, hbl, hlocks, hgv⟩ := id C0
  have hown : s.vm.findClass RL = some m.cls := hown
  obtain ⟨z0, z1, z10, z12, z13, z14, z15, z16, z17, z18, z23, z24, z25, z26, q, u, im, kt, tm, a0, a1, a2, hmo, hb0, hb1, hb2, hcq, hcu, hci, hck, hct, hok, hui, hca, he0, he1, he2⟩ := hLI
  have hk0 : Kp g [0, 1, 2, 3, 4, 5, 6, 7, 8, 9, 10, 11, 12, 20, 21, 22, 23, 24, 25, 26, 27, 28, 30, 31, 32, 33, 34, 35, 36, 37, 38, 39, 40, 41, 42] f f := Kp.rf
  have i_mo_4 := kw_12_4 hG i_m
  have i_mo_5 := kw_12_5 hG i_m
  have i_mo_7 := kw_12_7 hG i_m
  have i_mo_8 := kw_12_8 hG i_m
  have i_mo_3 := kw_12_3 hG i_m
  have i_x1_0 := kw_11_0 hG i_x
  refine lv_aload_n hx hb dL_law_808 rfl (lv_at hl 1 rfl) ?_
  obtain ⟨x_2, k_1⟩ := op_11 hI i_x
  refine va_calli (va_runV (As := []) (rest := []) ⟨hx, hb, hml, hown, hts⟩ (c_X11_eligible l dC dI g A hG f x1 i_x) (cwV 0 hts (gi_V tb_c_X11_eligible tw_1228.1 tw_1229.1 tw_1230.1 tw_56.1) rfl rfl rfl (by decide +kernel) ⟨Nat.le_of_ble_eq_true rfl, Nat.le_of_ble_eq_true rfl⟩) ⟨fun a U g mk q => ⟨q.1, q.2.calling rfl rfl⟩, k_recv hK hI i_x.1 k_1 (ci := 11) rfl, fun U hU hW => ⟨rfl, kIn.of hI hK hE hS hU hW⟩⟩ rfl rfl hl.1 rfl (lv_room (Nat.le_of_ble_eq_true rfl)) dL_law_809 ⟨Nat.le_of_ble_eq_true rfl, Nat.le_of_ble_eq_true rfl⟩) hS (fun q _ h => h) (fun q h => h) (fun r_5 u9 t H1 locs ht hvm w_4 hB hz1 hk1 hS => ?_)
  obtain ⟨f_3, hI, kc_6⟩ := hB
  rw [ht] at hI
  have k_7 : f_3 mo = .inr (12, [.int z0, .int z1, .ref (gr g mo 2), .ref (gr g mo 3), .ref (gr g mo 4), .ref (gr g mo 5), .ref (gr g mo 6), .ref (gr g mo 7), .ref (gr g mo 8), .ref (gr g mo 9), .int z10, .ref (gr g mo 11), .int z12, .int z13, .int z14, .int z15, .long z16, .int z17, .int z18, .ref (gr g mo 19), .ref (gr g mo 20), .ref (gr g mo 21), .ref (gr g mo 22), .int z23, .long z24, .long z25, .long z26]) := Kp.at kc_6 i_m (by decide) hmo
  have k_8 : f_3 (gr g mo 4) = .inl (gc g 1, 906, .inr (.inl q)) := Kp.at kc_6 i_mo_4 (by decide) hcq
  have k_9 : f_3 (gr g mo 5) = .inl (gc g 1, 9060, .inr (.inl u)) := Kp.at kc_6 i_mo_5 (by decide) hcu
  have k_10 : f_3 (gr g mo 7) = .inl (gc g 1, 1812, .inr (.inl im)) := Kp.at kc_6 i_mo_7 (by decide) hci
  have k_11 : f_3 (gr g mo 8) = .inl (gc g 3, 2, .inl kt) := Kp.at kc_6 i_mo_8 (by decide) hck
  have k_12 : f_3 (gr g mo 3) = .inl (gc g 0, 3, .inl tm) := Kp.at kc_6 i_mo_3 (by decide) hct
  have k_13 : f_3 (gr g x1 0) = .inr (9, [.int a0, .int a1, .int a2]) := Kp.at kc_6 i_x1_0 (by decide) hca
  have k_14 : f_3 x1 = .inr (11, [.ref (gr g x1 0), .ref (gr g x1 1), .ref (gr g x1 2), .ref (gr g x1 3), .ref (gr g x1 4), .ref (gr g x1 5), .ref (gr g x1 6), .ref (gr g x1 7), .ref (gr g x1 8), .ref (gr g x1 9), .ref (gr g x1 10), .int x_2]) := Kp.at kc_6 i_x (by decide) k_1
  have kp_15 := Kp.call hk0 kc_6 (by decide)
  generalize H1 = H at hI hS ⊢
  refine W.widen (k := 786) (n := 20946) (Nat.le_of_ble_eq_true rfl) (Nat.le_of_ble_eq_true rfl) ?_
  refine lv_pop hx hb dL_law_812 rfl ?_
  refine lv_aload_n hx hb dL_law_813 rfl (lv_at hl 2 rfl) ?_
  refine va_calli (va_runV (As := []) (rest := []) ⟨hx, hb, hml, hown, hts⟩ (c_X12_eligible l dC dI g A hG f_3 mo z0 z1 z10 z12 z13 z14 z15 z16 z17 z18 z23 z24 z25 z26 q u im kt i_m k_7 (by omega) (by omega) (by omega) k_8 hok k_9 k_10 k_11 hui) (cwV 0 hts (gi_V tb_c_X12_eligible tw_1231.1 tw_1232.1 tw_1233.1 tw_728.1) rfl rfl rfl (by decide +kernel) ⟨Nat.le_of_ble_eq_true rfl, Nat.le_of_ble_eq_true rfl⟩) ⟨fun a U g mk q => ⟨q.1, q.2.calling rfl rfl⟩, k_recv hK hI i_m.1 k_7 (ci := 12) rfl, fun U hU hW => ⟨rfl, kIn.of hI hK hE hS hU hW⟩⟩ rfl rfl hl.1 rfl (lv_room (Nat.le_of_ble_eq_true rfl)) dL_law_814 ⟨Nat.le_of_ble_eq_true rfl, Nat.le_of_ble_eq_true rfl⟩) hS (fun q _ h => h) (fun q h => h) (fun r_18 u9 t H1 locs ht hvm w_17 hB hz1 hk1 hS => ?_)
  obtain ⟨f_16, hI, kc_19, w0_20, w1_21, w10_22, w12_23, w13_24, w14_25, w15_26, w16_27, w17_28, w18_29, w23_30, w24_31, w25_32, w26_33, q1_34, u1_35, im1_36, ik1_37, k_38, z_39, z_40, z_41, k_42, z_43, k_44, k_45, k_46, z_47⟩ := hB
  rw [ht] at hI
  have k_48 : f_16 (gr g mo 4) = .inl (gc g 1, 906, .inr (.inl q)) := Kp.at kc_19 i_mo_4 (by decide) k_8
  have k_49 : f_16 (gr g mo 5) = .inl (gc g 1, 9060, .inr (.inl u)) := Kp.at kc_19 i_mo_5 (by decide) k_9
  have k_50 : f_16 (gr g mo 7) = .inl (gc g 1, 1812, .inr (.inl im)) := Kp.at kc_19 i_mo_7 (by decide) k_10
  have k_51 : f_16 (gr g mo 8) = .inl (gc g 3, 2, .inl kt) := Kp.at kc_19 i_mo_8 (by decide) k_11
  have k_52 : f_16 (gr g mo 3) = .inl (gc g 0, 3, .inl tm) := Kp.at kc_19 i_mo_3 (by decide) k_12
  have k_53 : f_16 (gr g x1 0) = .inr (9, [.int a0, .int a1, .int a2]) := Kp.at kc_19 i_x1_0 (by decide) k_13
  have k_54 : f_16 x1 = .inr (11, [.ref (gr g x1 0), .ref (gr g x1 1), .ref (gr g x1 2), .ref (gr g x1 3), .ref (gr g x1 4), .ref (gr g x1 5), .ref (gr g x1 6), .ref (gr g x1 7), .ref (gr g x1 8), .ref (gr g x1 9), .ref (gr g x1 10), .int x_2]) := Kp.at kc_19 i_x (by decide) k_14
  have k_38 : f_16 mo = .inr (12, [.int w0_20, .int w1_21, .ref (gr g mo 2), .ref (gr g mo 3), .ref (gr g mo 4), .ref (gr g mo 5), .ref (gr g mo 6), .ref (gr g mo 7), .ref (gr g mo 8), .ref (gr g mo 9), .int w10_22, .ref (gr g mo 11), .int w12_23, .int w13_24, .int w14_25, .int w15_26, .long w16_27, .int w17_28, .int w18_29, .ref (gr g mo 19), .ref (gr g mo 20), .ref (gr g mo 21), .ref (gr g mo 22), .int w23_30, .long w24_31, .long w25_32, .long w26_33]) := k_38
  have z_39 : 0 ≤ w10_22.toInt ∧ w10_22.toInt ≤ 10 := z_39
  have z_40 : 0 ≤ w12_23.toInt ∧ w12_23.toInt ≤ 200 := z_40
  have z_41 : 0 ≤ w23_30.toInt ∧ w23_30.toInt ≤ 8 := z_41
  have z_43 : RowOK q1_34 := z_43
  have d_55 := rk_hd z_43
  have z_47 : UIq w10_22 u1_35 im1_36 ik1_37 := z_47
  have kp_56 := Kp.call kp_15 kc_19 (by decide)
  generalize H1 = H at hI hS ⊢
  refine W.widen (k := 786) (n := 20946) (Nat.le_of_ble_eq_true rfl) (Nat.le_of_ble_eq_true rfl) ?_
  refine lv_pop hx hb dL_law_817 rfl ?_
  refine lv_goto (tgt := 1200) hx hb dL_law_818 (by decide) ?_
  exact kk _ _ _ _ hI hS ⟨w0_20, w1_21, w10_22, w12_23, w13_24, w14_25, w15_26, w16_27, w17_28, w18_29, w23_30, w24_31, w25_32, w26_33, q1_34, u1_35, im1_36, ik1_37, tm, a0, a1, a2, k_38, (by omega), (by omega), (by omega), k_42, k_44, k_45, k_46, k_52, z_43, z_47, k_53, he0, he1, he2⟩ hl
theorem tw_1234 : q_g (.methodLink RL 112 yX11_earliest) := ⟨(List.mem_append_right _ (List.mem_of_getElem? (i := 941) (by decide +kernel))), good_of_word (by decide +kernel)⟩
theorem tw_1235 : q_g (.instanceMethod yX11_earliest) := ⟨(List.mem_append_right _ (List.mem_of_getElem? (i := 942) (by decide +kernel))), good_of_word (by decide +kernel)⟩
theorem tw_1236 : q_g (.selects RX11 yX11_earliest yX11_earliest) := ⟨(List.mem_append_right _ (List.mem_of_getElem? (i := 943) (by decide +kernel))), good_of_word (by decide +kernel)⟩
theorem tw_1237 : q_g (.methodLink RL 115 yX12_earliest) := ⟨(List.mem_append_right _ (List.mem_of_getElem? (i := 1459) (by decide +kernel))), good_of_word (by decide +kernel)⟩
theorem tw_1238 : q_g (.instanceMethod yX12_earliest) := ⟨(List.mem_append_right _ (List.mem_of_getElem? (i := 1460) (by decide +kernel))), good_of_word (by decide +kernel)⟩
theorem tw_1239 : q_g (.selects RX12 yX12_earliest yX12_earliest) := ⟨(List.mem_append_right _ (List.mem_of_getElem? (i := 1461) (by decide +kernel))), good_of_word (by decide +kernel)⟩
set_option maxHeartbeats 4000000 in
set_option maxRecDepth 100000 in
theorem law_earliest {p : Program} {l : Launch} {e : Env} {s : State} {m : MethodId} {below : List Frame} {meth : Method} {c : Code} {dC : Nat → ClassId} {dI : Nat → Nat → Nat} {g : kG} {A : Nat → Prop} {b L : Nat} {xs : Nat → Int32} {x1 mo : Nat} (C0 : lw_At p s m meth c b L xs) (hL : L ≤ 3072) (hbA : ¬ A b) (hG : kWf g) (hK : va_K (dC, dI) vwCl (gty g) s) (hE : kE g A s) (i_x : ik g 11 x1) (i_m : ik g 12 mo) {n : Nat} (hn : 6 * n + 6 ≤ L) {f : Nat → va_E} {H : Heap} {locs : List Loc} {ls : Array Slot} (hI : Iv dC dI g A f H) (hS : va_S A s.heap H locs) (hLI : LI g f x1 mo) (hl : lv_has ls 4 [(0, .ref b), (1, .ref x1), (2, .ref mo), (3, .int (nI (6 * n)))]) (kk : ∀ (f : Nat → va_E) (H : Heap) (locs : List Loc) (ls : Array Slot), Iv dC dI g A f H → va_S A s.heap H locs → LI g f x1 mo → lv_has ls 4 [(0, .ref b), (1, .ref x1), (2, .ref mo), (3, .int (nI (6 * n)))] → W p l e room_1 s m #[Value.ref b] below meth c H locs 786 20946 (lw_Z below #[Value.ref b] s) (F0 m 1200 ls [])) : W p l e room_1 s m #[Value.ref b] below meth c H locs 786 20946 (lw_Z below #[Value.ref b] s) (F0 m 821 ls []) := by
  obtain ⟨hx, hb, hr, hml, hown, hts, hX, hbl, hlocks, hgv⟩ := id C0
  have hown : s.vm.findClass RL = some m.cls := hown
  obtain ⟨z0, z1, z10, z12, z13, z14, z15, z16, z17, z18, z23, z24, z25, z26, q, u, im, kt, tm, a0, a1, a2, hmo, hb0, hb1, hb2, hcq, hcu, hci, hck, hct, hok, hui, hca, he0, he1, he2⟩ := hLI
  have hk0 : Kp g [0, 1, 2, 3, 4, 5, 6, 7, 8, 9, 10, 11, 12, 20, 21, 22, 23, 24, 25, 26, 27, 28, 30, 31, 32, 33, 34, 35, 36, 37, 38, 39, 40, 41, 42] f f := Kp.rf
  have i_mo_4 := kw_12_4 hG i_m
  have i_mo_5 := kw_12_5 hG i_m
  have i_mo_7 := kw_12_7 hG i_m
  have i_mo_8 := kw_12_8 hG i_m
  have i_mo_3 := kw_12_3 hG i_m
  have i_x1_0 := kw_11_0 hG i_x
  refine lv_aload_n hx hb dL_law_821 rfl (lv_at hl 1 rfl) ?_
  refine lv_aload_n hx hb dL_law_822 rfl (lv_at hl 0 rfl) ?_
  refine lv_iload_n hx hb dL_law_823 rfl (lv_at hl 3 rfl) ?_
  refine lv_iconst (v := 1) hx hb dL_law_824 (by decide) ?_
  refine lv_iadd hx hb dL_law_825 ?_
  refine k_topi (y := nI (6 * n + 1)) ((nI_add (6 * n) 1).trans (congrArg nI (by omega))) ?_
  refine va_sld hx hb hX hbl hbA hS (vp_in_nI (by omega) (by omega)) dL_law_826 ?_
  refine k_topi (y := xs (6 * n + 1)) (congrArg xs (nI_clamp (by omega))) ?_
  obtain ⟨x_2, k_1⟩ := op_11 hI i_x
  refine va_calli (va_runV (As := [.int (xs (6 * n + 1))]) (rest := []) ⟨hx, hb, hml, hown, hts⟩ (c_X11_earliest l dC dI g A hG f x1 (xs (6 * n + 1)) i_x) (cwV 1 hts (gi_V tb_c_X11_earliest tw_1234.1 tw_1235.1 tw_1236.1 tw_56.1) rfl rfl rfl (by decide +kernel) ⟨Nat.le_of_ble_eq_true rfl, Nat.le_of_ble_eq_true rfl⟩) ⟨fun a U g mk q => ⟨q.1, q.2.calling rfl rfl⟩, k_recv hK hI i_x.1 k_1 (ci := 11) rfl, fun U hU hW => ⟨rfl, kIn.of hI hK hE hS hU hW⟩⟩ rfl rfl hl.1 rfl (lv_room (Nat.le_of_ble_eq_true rfl)) dL_law_827 ⟨Nat.le_of_ble_eq_true rfl, Nat.le_of_ble_eq_true rfl⟩) hS (fun q _ h => h) (fun q h => h) (fun r_5 u9 t H1 locs ht hvm w_4 hB hz1 hk1 hS => ?_)
  obtain ⟨f_3, hI, kc_6⟩ := hB
  rw [ht] at hI
  have k_7 : f_3 mo = .inr (12, [.int z0, .int z1, .ref (gr g mo 2), .ref (gr g mo 3), .ref (gr g mo 4), .ref (gr g mo 5), .ref (gr g mo 6), .ref (gr g mo 7), .ref (gr g mo 8), .ref (gr g mo 9), .int z10, .ref (gr g mo 11), .int z12, .int z13, .int z14, .int z15, .long z16, .int z17, .int z18, .ref (gr g mo 19), .ref (gr g mo 20), .ref (gr g mo 21), .ref (gr g mo 22), .int z23, .long z24, .long z25, .long z26]) := Kp.at kc_6 i_m (by decide) hmo
  have k_8 : f_3 (gr g mo 4) = .inl (gc g 1, 906, .inr (.inl q)) := Kp.at kc_6 i_mo_4 (by decide) hcq
  have k_9 : f_3 (gr g mo 5) = .inl (gc g 1, 9060, .inr (.inl u)) := Kp.at kc_6 i_mo_5 (by decide) hcu
  have k_10 : f_3 (gr g mo 7) = .inl (gc g 1, 1812, .inr (.inl im)) := Kp.at kc_6 i_mo_7 (by decide) hci
  have k_11 : f_3 (gr g mo 8) = .inl (gc g 3, 2, .inl kt) := Kp.at kc_6 i_mo_8 (by decide) hck
  have k_12 : f_3 (gr g mo 3) = .inl (gc g 0, 3, .inl tm) := Kp.at kc_6 i_mo_3 (by decide) hct
  have k_13 : f_3 (gr g x1 0) = .inr (9, [.int a0, .int a1, .int a2]) := Kp.at kc_6 i_x1_0 (by decide) hca
  have k_14 : f_3 x1 = .inr (11, [.ref (gr g x1 0), .ref (gr g x1 1), .ref (gr g x1 2), .ref (gr g x1 3), .ref (gr g x1 4), .ref (gr g x1 5), .ref (gr g x1 6), .ref (gr g x1 7), .ref (gr g x1 8), .ref (gr g x1 9), .ref (gr g x1 10), .int x_2]) := Kp.at kc_6 i_x (by decide) k_1
  have kp_15 := Kp.call hk0 kc_6 (by decide)
  generalize H1 = H at hI hS ⊢
  refine W.widen (k := 786) (n := 20946) (Nat.le_of_ble_eq_true rfl) (Nat.le_of_ble_eq_true rfl) ?_
  refine lv_pop hx hb dL_law_830 rfl ?_
  refine lv_aload_n hx hb dL_law_831 rfl (lv_at hl 2 rfl) ?_
  refine lv_aload_n hx hb dL_law_832 rfl (lv_at hl 0 rfl) ?_
  refine lv_iload_n hx hb dL_law_833 rfl (lv_at hl 3 rfl) ?_
  refine lv_iconst (v := 1) hx hb dL_law_834 (by decide) ?_
  refine lv_iadd hx hb dL_law_835 ?_
  refine k_topi (y := nI (6 * n + 1)) ((nI_add (6 * n) 1).trans (congrArg nI (by omega))) ?_
  refine va_sld hx hb hX hbl hbA hS (vp_in_nI (by omega) (by omega)) dL_law_836 ?_
  refine k_topi (y := xs (6 * n + 1)) (congrArg xs (nI_clamp (by omega))) ?_
  refine va_calli (va_runV (As := [.int (xs (6 * n + 1))]) (rest := []) ⟨hx, hb, hml, hown, hts⟩ (c_X12_earliest l dC dI g A hG f_3 mo (xs (6 * n + 1)) z0 z1 z10 z12 z13 z14 z15 z16 z17 z18 z23 z24 z25 z26 q u im kt i_m k_7 (by omega) (by omega) (by omega) k_8 hok k_9 k_10 k_11 hui) (cwV 1 hts (gi_V tb_c_X12_earliest tw_1237.1 tw_1238.1 tw_1239.1 tw_728.1) rfl rfl rfl (by decide +kernel) ⟨Nat.le_of_ble_eq_true rfl, Nat.le_of_ble_eq_true rfl⟩) ⟨fun a U g mk q => ⟨q.1, q.2.calling rfl rfl⟩, k_recv hK hI i_m.1 k_7 (ci := 12) rfl, fun U hU hW => ⟨rfl, kIn.of hI hK hE hS hU hW⟩⟩ rfl rfl hl.1 rfl (lv_room (Nat.le_of_ble_eq_true rfl)) dL_law_837 ⟨Nat.le_of_ble_eq_true rfl, Nat.le_of_ble_eq_true rfl⟩) hS (fun q _ h => h) (fun q h => h) (fun r_18 u9 t H1 locs ht hvm w_17 hB hz1 hk1 hS => ?_)
  obtain ⟨f_16, hI, kc_19, w0_20, w1_21, w10_22, w12_23, w13_24, w14_25, w15_26, w16_27, w17_28, w18_29, w23_30, w24_31, w25_32, w26_33, q1_34, u1_35, im1_36, ik1_37, k_38, z_39, z_40, z_41, k_42, z_43, k_44, k_45, k_46, z_47⟩ := hB
  rw [ht] at hI
  have k_48 : f_16 (gr g mo 4) = .inl (gc g 1, 906, .inr (.inl q)) := Kp.at kc_19 i_mo_4 (by decide) k_8
  have k_49 : f_16 (gr g mo 5) = .inl (gc g 1, 9060, .inr (.inl u)) := Kp.at kc_19 i_mo_5 (by decide) k_9
  have k_50 : f_16 (gr g mo 7) = .inl (gc g 1, 1812, .inr (.inl im)) := Kp.at kc_19 i_mo_7 (by decide) k_10
  have k_51 : f_16 (gr g mo 8) = .inl (gc g 3, 2, .inl kt) := Kp.at kc_19 i_mo_8 (by decide) k_11
  have k_52 : f_16 (gr g mo 3) = .inl (gc g 0, 3, .inl tm) := Kp.at kc_19 i_mo_3 (by decide) k_12
  have k_53 : f_16 (gr g x1 0) = .inr (9, [.int a0, .int a1, .int a2]) := Kp.at kc_19 i_x1_0 (by decide) k_13
  have k_54 : f_16 x1 = .inr (11, [.ref (gr g x1 0), .ref (gr g x1 1), .ref (gr g x1 2), .ref (gr g x1 3), .ref (gr g x1 4), .ref (gr g x1 5), .ref (gr g x1 6), .ref (gr g x1 7), .ref (gr g x1 8), .ref (gr g x1 9), .ref (gr g x1 10), .int x_2]) := Kp.at kc_19 i_x (by decide) k_14
  have k_38 : f_16 mo = .inr (12, [.int w0_20, .int w1_21, .ref (gr g mo 2), .ref (gr g mo 3), .ref (gr g mo 4), .ref (gr g mo 5), .ref (gr g mo 6), .ref (gr g mo 7), .ref (gr g mo 8), .ref (gr g mo 9), .int w10_22, .ref (gr g mo 11), .int w12_23, .int w13_24, .int w14_25, .int w15_26, .long w16_27, .int w17_28, .int w18_29, .ref (gr g mo 19), .ref (gr g mo 20), .ref (gr g mo 21), .ref (gr g mo 22), .int w23_30, .long w24_31, .long w25_32, .long w26_33]) := k_38
  have z_39 : 0 ≤ w10_22.toInt ∧ w10_22.toInt ≤ 10 := z_39
  have z_40 : 0 ≤ w12_23.toInt ∧ w12_23.toInt ≤ 200 := z_40
  have z_41 : 0 ≤ w23_30.toInt ∧ w23_30.toInt ≤ 8 := z_41
  have z_43 : RowOK q1_34 := z_43
  have d_55 := rk_hd z_43
  have z_47 : UIq w10_22 u1_35 im1_36 ik1_37 := z_47
  have kp_56 := Kp.call kp_15 kc_19 (by decide)
  generalize H1 = H at hI hS ⊢
  refine W.widen (k := 786) (n := 20946) (Nat.le_of_ble_eq_true rfl) (Nat.le_of_ble_eq_true rfl) ?_
  refine lv_pop hx hb dL_law_840 rfl ?_
  refine lv_goto (tgt := 1200) hx hb dL_law_841 (by decide) ?_
  exact kk _ _ _ _ hI hS ⟨w0_20, w1_21, w10_22, w12_23, w13_24, w14_25, w15_26, w16_27, w17_28, w18_29, w23_30, w24_31, w25_32, w26_33, q1_34, u1_35, im1_36, ik1_37, tm, a0, a1, a2, k_38, (by omega), (by omega), (by omega), k_42, k_44, k_45, k_46, k_52, z_43, z_47, k_53, he0, he1, he2⟩ hl
theorem tw_1240 : q_g (.methodLink RL 116 yX11_rank) := ⟨(List.mem_append_right _ (List.mem_of_getElem? (i := 954) (by decide +kernel))), good_of_word (by decide +kernel)⟩
theorem tw_1241 : q_g (.instanceMethod yX11_rank) := ⟨(List.mem_append_right _ (List.mem_of_getElem? (i := 955) (by decide +kernel))), good_of_word (by decide +kernel)⟩
theorem tw_1242 : q_g (.selects RX11 yX11_rank yX11_rank) := ⟨(List.mem_append_right _ (List.mem_of_getElem? (i := 956) (by decide +kernel))), good_of_word (by decide +kernel)⟩
theorem tw_1243 : q_g (.methodLink RL 119 yX12_rank) := ⟨(List.mem_append_right _ (List.mem_of_getElem? (i := 1467) (by decide +kernel))), good_of_word (by decide +kernel)⟩
theorem tw_1244 : q_g (.instanceMethod yX12_rank) := ⟨(List.mem_append_right _ (List.mem_of_getElem? (i := 1468) (by decide +kernel))), good_of_word (by decide +kernel)⟩
theorem tw_1245 : q_g (.selects RX12 yX12_rank yX12_rank) := ⟨(List.mem_append_right _ (List.mem_of_getElem? (i := 1469) (by decide +kernel))), good_of_word (by decide +kernel)⟩
set_option maxHeartbeats 4000000 in
set_option maxRecDepth 100000 in
theorem law_rank {p : Program} {l : Launch} {e : Env} {s : State} {m : MethodId} {below : List Frame} {meth : Method} {c : Code} {dC : Nat → ClassId} {dI : Nat → Nat → Nat} {g : kG} {A : Nat → Prop} {b L : Nat} {xs : Nat → Int32} {x1 mo : Nat} (C0 : lw_At p s m meth c b L xs) (hL : L ≤ 3072) (hbA : ¬ A b) (hG : kWf g) (hK : va_K (dC, dI) vwCl (gty g) s) (hE : kE g A s) (i_x : ik g 11 x1) (i_m : ik g 12 mo) {n : Nat} (hn : 6 * n + 6 ≤ L) {f : Nat → va_E} {H : Heap} {locs : List Loc} {ls : Array Slot} (hI : Iv dC dI g A f H) (hS : va_S A s.heap H locs) (hLI : LI g f x1 mo) (hl : lv_has ls 4 [(0, .ref b), (1, .ref x1), (2, .ref mo), (3, .int (nI (6 * n)))]) (kk : ∀ (f : Nat → va_E) (H : Heap) (locs : List Loc) (ls : Array Slot), Iv dC dI g A f H → va_S A s.heap H locs → LI g f x1 mo → lv_has ls 4 [(0, .ref b), (1, .ref x1), (2, .ref mo), (3, .int (nI (6 * n)))] → W p l e room_1 s m #[Value.ref b] below meth c H locs 786 20946 (lw_Z below #[Value.ref b] s) (F0 m 1200 ls [])) : W p l e room_1 s m #[Value.ref b] below meth c H locs 786 20946 (lw_Z below #[Value.ref b] s) (F0 m 844 ls []) := by
  obtain ⟨hx, hb, hr, hml, hown, hts, hX, hbl, hlocks, hgv⟩ := id C0
  have hown : s.vm.findClass RL = some m.cls := hown
  obtain ⟨z0, z1, z10, z12, z13, z14, z15, z16, z17, z18, z23, z24, z25, z26, q, u, im, kt, tm, a0, a1, a2, hmo, hb0, hb1, hb2, hcq, hcu, hci, hck, hct, hok, hui, hca, he0, he1, he2⟩ := hLI
  have hk0 : Kp g [0, 1, 2, 3, 4, 5, 6, 7, 8, 9, 10, 11, 12, 20, 21, 22, 23, 24, 25, 26, 27, 28, 30, 31, 32, 33, 34, 35, 36, 37, 38, 39, 40, 41, 42] f f := Kp.rf
  have i_mo_4 := kw_12_4 hG i_m
  have i_mo_5 := kw_12_5 hG i_m
  have i_mo_7 := kw_12_7 hG i_m
  have i_mo_8 := kw_12_8 hG i_m
  have i_mo_3 := kw_12_3 hG i_m
  have i_x1_0 := kw_11_0 hG i_x
  refine lv_aload_n hx hb dL_law_844 rfl (lv_at hl 1 rfl) ?_
  refine lv_aload_n hx hb dL_law_845 rfl (lv_at hl 0 rfl) ?_
  refine lv_iload_n hx hb dL_law_846 rfl (lv_at hl 3 rfl) ?_
  refine lv_iconst (v := 1) hx hb dL_law_847 (by decide) ?_
  refine lv_iadd hx hb dL_law_848 ?_
  refine k_topi (y := nI (6 * n + 1)) ((nI_add (6 * n) 1).trans (congrArg nI (by omega))) ?_
  refine va_sld hx hb hX hbl hbA hS (vp_in_nI (by omega) (by omega)) dL_law_849 ?_
  refine k_topi (y := xs (6 * n + 1)) (congrArg xs (nI_clamp (by omega))) ?_
  obtain ⟨x_2, k_1⟩ := op_11 hI i_x
  refine va_calli (va_runV (As := [.int (xs (6 * n + 1))]) (rest := []) ⟨hx, hb, hml, hown, hts⟩ (c_X11_rank l dC dI g A hG f x1 (xs (6 * n + 1)) i_x) (cwV 1 hts (gi_V tb_c_X11_rank tw_1240.1 tw_1241.1 tw_1242.1 tw_56.1) rfl rfl rfl (by decide +kernel) ⟨Nat.le_of_ble_eq_true rfl, Nat.le_of_ble_eq_true rfl⟩) ⟨fun a U g mk q => ⟨q.1, q.2.calling rfl rfl⟩, k_recv hK hI i_x.1 k_1 (ci := 11) rfl, fun U hU hW => ⟨rfl, kIn.of hI hK hE hS hU hW⟩⟩ rfl rfl hl.1 rfl (lv_room (Nat.le_of_ble_eq_true rfl)) dL_law_850 ⟨Nat.le_of_ble_eq_true rfl, Nat.le_of_ble_eq_true rfl⟩) hS (fun q _ h => h) (fun q h => h) (fun r_4 u9 t H1 locs ht hvm w_3 hB hz1 hk1 hS => ?_)
  have hI : Iv dC dI g A f t.heap := hB
  rw [ht] at hI
  generalize H1 = H at hI hS ⊢
  refine W.widen (k := 786) (n := 20946) (Nat.le_of_ble_eq_true rfl) (Nat.le_of_ble_eq_true rfl) ?_
  refine lv_pop hx hb dL_law_853 rfl ?_
  refine lv_aload_n hx hb dL_law_854 rfl (lv_at hl 2 rfl) ?_
  refine lv_aload_n hx hb dL_law_855 rfl (lv_at hl 0 rfl) ?_
  refine lv_iload_n hx hb dL_law_856 rfl (lv_at hl 3 rfl) ?_
  refine lv_iconst (v := 1) hx hb dL_law_857 (by decide) ?_
  refine lv_iadd hx hb dL_law_858 ?_
  refine k_topi (y := nI (6 * n + 1)) ((nI_add (6 * n) 1).trans (congrArg nI (by omega))) ?_
  refine va_sld hx hb hX hbl hbA hS (vp_in_nI (by omega) (by omega)) dL_law_859 ?_
  refine k_topi (y := xs (6 * n + 1)) (congrArg xs (nI_clamp (by omega))) ?_
  refine va_calli (va_runV (As := [.int (xs (6 * n + 1))]) (rest := []) ⟨hx, hb, hml, hown, hts⟩ (c_X12_rank l dC dI g A hG f mo (xs (6 * n + 1)) z0 z1 z10 z12 z13 z14 z15 z16 z17 z18 z23 z24 z25 z26 q u im kt i_m hmo (by omega) (by omega) (by omega) hcq hok hcu hci hck hui) (cwV 1 hts (gi_V tb_c_X12_rank tw_1243.1 tw_1244.1 tw_1245.1 tw_728.1) rfl rfl rfl (by decide +kernel) ⟨Nat.le_of_ble_eq_true rfl, Nat.le_of_ble_eq_true rfl⟩) ⟨fun a U g mk q => ⟨q.1, q.2.calling rfl rfl⟩, k_recv hK hI i_m.1 hmo (ci := 12) rfl, fun U hU hW => ⟨rfl, kIn.of hI hK hE hS hU hW⟩⟩ rfl rfl hl.1 rfl (lv_room (Nat.le_of_ble_eq_true rfl)) dL_law_860 ⟨Nat.le_of_ble_eq_true rfl, Nat.le_of_ble_eq_true rfl⟩) hS (fun q _ h => h) (fun q h => h) (fun r_7 u9 t H1 locs ht hvm w_6 hB hz1 hk1 hS => ?_)
  obtain ⟨f_5, hI, kc_8, w0_9, w1_10, w10_11, w12_12, w13_13, w14_14, w15_15, w16_16, w17_17, w18_18, w23_19, w24_20, w25_21, w26_22, q1_23, u1_24, im1_25, ik1_26, k_27, z_28, z_29, z_30, k_31, z_32, k_33, k_34, k_35, z_36⟩ := hB
  rw [ht] at hI
  have k_37 : f_5 (gr g mo 4) = .inl (gc g 1, 906, .inr (.inl q)) := Kp.at kc_8 i_mo_4 (by decide) hcq
  have k_38 : f_5 (gr g mo 5) = .inl (gc g 1, 9060, .inr (.inl u)) := Kp.at kc_8 i_mo_5 (by decide) hcu
  have k_39 : f_5 (gr g mo 7) = .inl (gc g 1, 1812, .inr (.inl im)) := Kp.at kc_8 i_mo_7 (by decide) hci
  have k_40 : f_5 (gr g mo 8) = .inl (gc g 3, 2, .inl kt) := Kp.at kc_8 i_mo_8 (by decide) hck
  have k_41 : f_5 (gr g mo 3) = .inl (gc g 0, 3, .inl tm) := Kp.at kc_8 i_mo_3 (by decide) hct
  have k_42 : f_5 (gr g x1 0) = .inr (9, [.int a0, .int a1, .int a2]) := Kp.at kc_8 i_x1_0 (by decide) hca
  have k_43 : f_5 x1 = .inr (11, [.ref (gr g x1 0), .ref (gr g x1 1), .ref (gr g x1 2), .ref (gr g x1 3), .ref (gr g x1 4), .ref (gr g x1 5), .ref (gr g x1 6), .ref (gr g x1 7), .ref (gr g x1 8), .ref (gr g x1 9), .ref (gr g x1 10), .int x_2]) := Kp.at kc_8 i_x (by decide) k_1
  have k_27 : f_5 mo = .inr (12, [.int w0_9, .int w1_10, .ref (gr g mo 2), .ref (gr g mo 3), .ref (gr g mo 4), .ref (gr g mo 5), .ref (gr g mo 6), .ref (gr g mo 7), .ref (gr g mo 8), .ref (gr g mo 9), .int w10_11, .ref (gr g mo 11), .int w12_12, .int w13_13, .int w14_14, .int w15_15, .long w16_16, .int w17_17, .int w18_18, .ref (gr g mo 19), .ref (gr g mo 20), .ref (gr g mo 21), .ref (gr g mo 22), .int w23_19, .long w24_20, .long w25_21, .long w26_22]) := k_27
  have z_28 : 0 ≤ w10_11.toInt ∧ w10_11.toInt ≤ 10 := z_28
  have z_29 : 0 ≤ w12_12.toInt ∧ w12_12.toInt ≤ 200 := z_29
  have z_30 : 0 ≤ w23_19.toInt ∧ w23_19.toInt ≤ 8 := z_30
  have z_32 : RowOK q1_23 := z_32
  have d_44 := rk_hd z_32
  have z_36 : UIq w10_11 u1_24 im1_25 ik1_26 := z_36
  have kp_45 := Kp.call hk0 kc_8 (by decide)
  generalize H1 = H at hI hS ⊢
  refine W.widen (k := 786) (n := 20946) (Nat.le_of_ble_eq_true rfl) (Nat.le_of_ble_eq_true rfl) ?_
  refine lv_pop hx hb dL_law_863 rfl ?_
  refine lv_goto (tgt := 1200) hx hb dL_law_864 (by decide) ?_
  exact kk _ _ _ _ hI hS ⟨w0_9, w1_10, w10_11, w12_12, w13_13, w14_14, w15_15, w16_16, w17_17, w18_18, w23_19, w24_20, w25_21, w26_22, q1_23, u1_24, im1_25, ik1_26, tm, a0, a1, a2, k_27, (by omega), (by omega), (by omega), k_31, k_33, k_34, k_35, k_41, z_32, z_36, k_42, he0, he1, he2⟩ hl
theorem tw_1246 : q_g (.methodLink RL 120 yX11_ran) := ⟨(List.mem_append_right _ (List.mem_of_getElem? (i := 962) (by decide +kernel))), good_of_word (by decide +kernel)⟩
theorem tw_1247 : q_g (.instanceMethod yX11_ran) := ⟨(List.mem_append_right _ (List.mem_of_getElem? (i := 963) (by decide +kernel))), good_of_word (by decide +kernel)⟩
theorem tw_1248 : q_g (.selects RX11 yX11_ran yX11_ran) := ⟨(List.mem_append_right _ (List.mem_of_getElem? (i := 964) (by decide +kernel))), good_of_word (by decide +kernel)⟩
theorem tw_1249 : q_g (.methodLink RL 123 yX12_ran) := ⟨(List.mem_append_right _ (List.mem_of_getElem? (i := 1471) (by decide +kernel))), good_of_word (by decide +kernel)⟩
theorem tw_1250 : q_g (.instanceMethod yX12_ran) := ⟨(List.mem_append_right _ (List.mem_of_getElem? (i := 1472) (by decide +kernel))), good_of_word (by decide +kernel)⟩
theorem tw_1251 : q_g (.selects RX12 yX12_ran yX12_ran) := ⟨(List.mem_append_right _ (List.mem_of_getElem? (i := 1473) (by decide +kernel))), good_of_word (by decide +kernel)⟩
set_option maxHeartbeats 4000000 in
set_option maxRecDepth 100000 in
theorem law_ran {p : Program} {l : Launch} {e : Env} {s : State} {m : MethodId} {below : List Frame} {meth : Method} {c : Code} {dC : Nat → ClassId} {dI : Nat → Nat → Nat} {g : kG} {A : Nat → Prop} {b L : Nat} {xs : Nat → Int32} {x1 mo : Nat} (C0 : lw_At p s m meth c b L xs) (hL : L ≤ 3072) (hbA : ¬ A b) (hG : kWf g) (hK : va_K (dC, dI) vwCl (gty g) s) (hE : kE g A s) (i_x : ik g 11 x1) (i_m : ik g 12 mo) {n : Nat} (hn : 6 * n + 6 ≤ L) {f : Nat → va_E} {H : Heap} {locs : List Loc} {ls : Array Slot} (hI : Iv dC dI g A f H) (hS : va_S A s.heap H locs) (hLI : LI g f x1 mo) (hl : lv_has ls 4 [(0, .ref b), (1, .ref x1), (2, .ref mo), (3, .int (nI (6 * n)))]) (kk : ∀ (f : Nat → va_E) (H : Heap) (locs : List Loc) (ls : Array Slot), Iv dC dI g A f H → va_S A s.heap H locs → LI g f x1 mo → lv_has ls 4 [(0, .ref b), (1, .ref x1), (2, .ref mo), (3, .int (nI (6 * n)))] → W p l e room_1 s m #[Value.ref b] below meth c H locs 786 20946 (lw_Z below #[Value.ref b] s) (F0 m 1200 ls [])) : W p l e room_1 s m #[Value.ref b] below meth c H locs 786 20946 (lw_Z below #[Value.ref b] s) (F0 m 867 ls []) := by
  obtain ⟨hx, hb, hr, hml, hown, hts, hX, hbl, hlocks, hgv⟩ := id C0
  have hown : s.vm.findClass RL = some m.cls := hown
  obtain ⟨z0, z1, z10, z12, z13, z14, z15, z16, z17, z18, z23, z24, z25, z26, q, u, im, kt, tm, a0, a1, a2, hmo, hb0, hb1, hb2, hcq, hcu, hci, hck, hct, hok, hui, hca, he0, he1, he2⟩ := hLI
  have hk0 : Kp g [0, 1, 2, 3, 4, 5, 6, 7, 8, 9, 10, 11, 12, 20, 21, 22, 23, 24, 25, 26, 27, 28, 30, 31, 32, 33, 34, 35, 36, 37, 38, 39, 40, 41, 42] f f := Kp.rf
  have i_mo_4 := kw_12_4 hG i_m
  have i_mo_5 := kw_12_5 hG i_m
  have i_mo_7 := kw_12_7 hG i_m
  have i_mo_8 := kw_12_8 hG i_m
  have i_mo_3 := kw_12_3 hG i_m
  have i_x1_0 := kw_11_0 hG i_x
  refine lv_aload_n hx hb dL_law_867 rfl (lv_at hl 1 rfl) ?_
  refine lv_aload_n hx hb dL_law_868 rfl (lv_at hl 0 rfl) ?_
  refine lv_iload_n hx hb dL_law_869 rfl (lv_at hl 3 rfl) ?_
  refine lv_iconst (v := 1) hx hb dL_law_870 (by decide) ?_
  refine lv_iadd hx hb dL_law_871 ?_
  refine k_topi (y := nI (6 * n + 1)) ((nI_add (6 * n) 1).trans (congrArg nI (by omega))) ?_
  refine va_sld hx hb hX hbl hbA hS (vp_in_nI (by omega) (by omega)) dL_law_872 ?_
  refine k_topi (y := xs (6 * n + 1)) (congrArg xs (nI_clamp (by omega))) ?_
  obtain ⟨x_2, k_1⟩ := op_11 hI i_x
  refine va_calli (va_runV (As := [.int (xs (6 * n + 1))]) (rest := []) ⟨hx, hb, hml, hown, hts⟩ (c_X11_ran l dC dI g A hG f x1 (xs (6 * n + 1)) i_x) (cwV 1 hts (gi_V tb_c_X11_ran tw_1246.1 tw_1247.1 tw_1248.1 tw_56.1) rfl rfl rfl (by decide +kernel) ⟨Nat.le_of_ble_eq_true rfl, Nat.le_of_ble_eq_true rfl⟩) ⟨fun a U g mk q => ⟨q.1, q.2.calling rfl rfl⟩, k_recv hK hI i_x.1 k_1 (ci := 11) rfl, fun U hU hW => ⟨rfl, kIn.of hI hK hE hS hU hW⟩⟩ rfl rfl hl.1 rfl (lv_room (Nat.le_of_ble_eq_true rfl)) dL_law_873 ⟨Nat.le_of_ble_eq_true rfl, Nat.le_of_ble_eq_true rfl⟩) hS (fun q _ h => h) (fun q h => h) (fun r_4 u9 t H1 locs ht hvm w_3 hB hz1 hk1 hS => ?_)
  have hI : Iv dC dI g A f t.heap := hB
  rw [ht] at hI
  generalize H1 = H at hI hS ⊢
  refine W.widen (k := 786) (n := 20946) (Nat.le_of_ble_eq_true rfl) (Nat.le_of_ble_eq_true rfl) ?_
  refine lv_pop hx hb dL_law_876 rfl ?_
  refine lv_aload_n hx hb dL_law_877 rfl (lv_at hl 2 rfl) ?_
  refine lv_aload_n hx hb dL_law_878 rfl (lv_at hl 0 rfl) ?_
  refine lv_iload_n hx hb dL_law_879 rfl (lv_at hl 3 rfl) ?_
  refine lv_iconst (v := 1) hx hb dL_law_880 (by decide) ?_
  refine lv_iadd hx hb dL_law_881 ?_
  refine k_topi (y := nI (6 * n + 1)) ((nI_add (6 * n) 1).trans (congrArg nI (by omega))) ?_
  refine va_sld hx hb hX hbl hbA hS (vp_in_nI (by omega) (by omega)) dL_law_882 ?_
  refine k_topi (y := xs (6 * n + 1)) (congrArg xs (nI_clamp (by omega))) ?_
  refine va_calli (va_runV (As := [.int (xs (6 * n + 1))]) (rest := []) ⟨hx, hb, hml, hown, hts⟩ (c_X12_ran l dC dI g A hG f mo (xs (6 * n + 1)) z0 z1 z10 z12 z13 z14 z15 z16 z17 z18 z23 z24 z25 z26 q u im kt i_m hmo (by omega) (by omega) (by omega) hcq hok hcu hci hck hui) (cwV 1 hts (gi_V tb_c_X12_ran tw_1249.1 tw_1250.1 tw_1251.1 tw_728.1) rfl rfl rfl (by decide +kernel) ⟨Nat.le_of_ble_eq_true rfl, Nat.le_of_ble_eq_true rfl⟩) ⟨fun a U g mk q => ⟨q.1, q.2.calling rfl rfl⟩, k_recv hK hI i_m.1 hmo (ci := 12) rfl, fun U hU hW => ⟨rfl, kIn.of hI hK hE hS hU hW⟩⟩ rfl rfl hl.1 rfl (lv_room (Nat.le_of_ble_eq_true rfl)) dL_law_883 ⟨Nat.le_of_ble_eq_true rfl, Nat.le_of_ble_eq_true rfl⟩) hS (fun q _ h => h) (fun q h => h) (fun r_7 u9 t H1 locs ht hvm w_6 hB hz1 hk1 hS => ?_)
  obtain ⟨f_5, hI, kc_8, w0_9, w1_10, w10_11, w12_12, w13_13, w14_14, w15_15, w16_16, w17_17, w18_18, w23_19, w24_20, w25_21, w26_22, q1_23, u1_24, im1_25, ik1_26, k_27, z_28, z_29, z_30, k_31, z_32, k_33, k_34, k_35, z_36⟩ := hB
  rw [ht] at hI
  have k_37 : f_5 (gr g mo 4) = .inl (gc g 1, 906, .inr (.inl q)) := Kp.at kc_8 i_mo_4 (by decide) hcq
  have k_38 : f_5 (gr g mo 5) = .inl (gc g 1, 9060, .inr (.inl u)) := Kp.at kc_8 i_mo_5 (by decide) hcu
  have k_39 : f_5 (gr g mo 7) = .inl (gc g 1, 1812, .inr (.inl im)) := Kp.at kc_8 i_mo_7 (by decide) hci
  have k_40 : f_5 (gr g mo 8) = .inl (gc g 3, 2, .inl kt) := Kp.at kc_8 i_mo_8 (by decide) hck
  have k_41 : f_5 (gr g mo 3) = .inl (gc g 0, 3, .inl tm) := Kp.at kc_8 i_mo_3 (by decide) hct
  have k_42 : f_5 (gr g x1 0) = .inr (9, [.int a0, .int a1, .int a2]) := Kp.at kc_8 i_x1_0 (by decide) hca
  have k_43 : f_5 x1 = .inr (11, [.ref (gr g x1 0), .ref (gr g x1 1), .ref (gr g x1 2), .ref (gr g x1 3), .ref (gr g x1 4), .ref (gr g x1 5), .ref (gr g x1 6), .ref (gr g x1 7), .ref (gr g x1 8), .ref (gr g x1 9), .ref (gr g x1 10), .int x_2]) := Kp.at kc_8 i_x (by decide) k_1
  have k_27 : f_5 mo = .inr (12, [.int w0_9, .int w1_10, .ref (gr g mo 2), .ref (gr g mo 3), .ref (gr g mo 4), .ref (gr g mo 5), .ref (gr g mo 6), .ref (gr g mo 7), .ref (gr g mo 8), .ref (gr g mo 9), .int w10_11, .ref (gr g mo 11), .int w12_12, .int w13_13, .int w14_14, .int w15_15, .long w16_16, .int w17_17, .int w18_18, .ref (gr g mo 19), .ref (gr g mo 20), .ref (gr g mo 21), .ref (gr g mo 22), .int w23_19, .long w24_20, .long w25_21, .long w26_22]) := k_27
  have z_28 : 0 ≤ w10_11.toInt ∧ w10_11.toInt ≤ 10 := z_28
  have z_29 : 0 ≤ w12_12.toInt ∧ w12_12.toInt ≤ 200 := z_29
  have z_30 : 0 ≤ w23_19.toInt ∧ w23_19.toInt ≤ 8 := z_30
  have z_32 : RowOK q1_23 := z_32
  have d_44 := rk_hd z_32
  have z_36 : UIq w10_11 u1_24 im1_25 ik1_26 := z_36
  have kp_45 := Kp.call hk0 kc_8 (by decide)
  generalize H1 = H at hI hS ⊢
  refine W.widen (k := 786) (n := 20946) (Nat.le_of_ble_eq_true rfl) (Nat.le_of_ble_eq_true rfl) ?_
  refine lv_pop hx hb dL_law_886 rfl ?_
  refine lv_goto (tgt := 1200) hx hb dL_law_887 (by decide) ?_
  exact kk _ _ _ _ hI hS ⟨w0_9, w1_10, w10_11, w12_12, w13_13, w14_14, w15_15, w16_16, w17_17, w18_18, w23_19, w24_20, w25_21, w26_22, q1_23, u1_24, im1_25, ik1_26, tm, a0, a1, a2, k_27, (by omega), (by omega), (by omega), k_31, k_33, k_34, k_35, k_41, z_32, z_36, k_42, he0, he1, he2⟩ hl
theorem tw_1252 : q_g (.methodLink RL 124 yX11_service) := ⟨(List.mem_append_right _ (List.mem_of_getElem? (i := 978) (by decide +kernel))), good_of_word (by decide +kernel)⟩
theorem tw_1253 : q_g (.instanceMethod yX11_service) := ⟨(List.mem_append_right _ (List.mem_of_getElem? (i := 979) (by decide +kernel))), good_of_word (by decide +kernel)⟩
theorem tw_1254 : q_g (.selects RX11 yX11_service yX11_service) := ⟨(List.mem_append_right _ (List.mem_of_getElem? (i := 980) (by decide +kernel))), good_of_word (by decide +kernel)⟩
theorem tw_1255 : q_g (.methodLink RL 127 yX12_service) := ⟨(List.mem_append_right _ (List.mem_of_getElem? (i := 1479) (by decide +kernel))), good_of_word (by decide +kernel)⟩
theorem tw_1256 : q_g (.instanceMethod yX12_service) := ⟨(List.mem_append_right _ (List.mem_of_getElem? (i := 1480) (by decide +kernel))), good_of_word (by decide +kernel)⟩
theorem tw_1257 : q_g (.selects RX12 yX12_service yX12_service) := ⟨(List.mem_append_right _ (List.mem_of_getElem? (i := 1481) (by decide +kernel))), good_of_word (by decide +kernel)⟩
set_option maxHeartbeats 4000000 in
set_option maxRecDepth 100000 in
theorem law_service {p : Program} {l : Launch} {e : Env} {s : State} {m : MethodId} {below : List Frame} {meth : Method} {c : Code} {dC : Nat → ClassId} {dI : Nat → Nat → Nat} {g : kG} {A : Nat → Prop} {b L : Nat} {xs : Nat → Int32} {x1 mo : Nat} (C0 : lw_At p s m meth c b L xs) (hL : L ≤ 3072) (hbA : ¬ A b) (hG : kWf g) (hK : va_K (dC, dI) vwCl (gty g) s) (hE : kE g A s) (i_x : ik g 11 x1) (i_m : ik g 12 mo) {n : Nat} (hn : 6 * n + 6 ≤ L) {f : Nat → va_E} {H : Heap} {locs : List Loc} {ls : Array Slot} (hI : Iv dC dI g A f H) (hS : va_S A s.heap H locs) (hLI : LI g f x1 mo) (hl : lv_has ls 4 [(0, .ref b), (1, .ref x1), (2, .ref mo), (3, .int (nI (6 * n)))]) (kk : ∀ (f : Nat → va_E) (H : Heap) (locs : List Loc) (ls : Array Slot), Iv dC dI g A f H → va_S A s.heap H locs → LI g f x1 mo → lv_has ls 4 [(0, .ref b), (1, .ref x1), (2, .ref mo), (3, .int (nI (6 * n)))] → W p l e room_1 s m #[Value.ref b] below meth c H locs 786 20946 (lw_Z below #[Value.ref b] s) (F0 m 1200 ls [])) : W p l e room_1 s m #[Value.ref b] below meth c H locs 786 20946 (lw_Z below #[Value.ref b] s) (F0 m 890 ls []) := by
  obtain ⟨hx, hb, hr, hml, hown, hts, hX, hbl, hlocks, hgv⟩ := id C0
  have hown : s.vm.findClass RL = some m.cls := hown
  obtain ⟨z0, z1, z10, z12, z13, z14, z15, z16, z17, z18, z23, z24, z25, z26, q, u, im, kt, tm, a0, a1, a2, hmo, hb0, hb1, hb2, hcq, hcu, hci, hck, hct, hok, hui, hca, he0, he1, he2⟩ := hLI
  have hk0 : Kp g [0, 1, 2, 3, 4, 5, 6, 7, 8, 9, 10, 11, 12, 20, 21, 22, 23, 24, 25, 26, 27, 28, 30, 31, 32, 33, 34, 35, 36, 37, 38, 39, 40, 41, 42] f f := Kp.rf
  have i_mo_4 := kw_12_4 hG i_m
  have i_mo_5 := kw_12_5 hG i_m
  have i_mo_7 := kw_12_7 hG i_m
  have i_mo_8 := kw_12_8 hG i_m
  have i_mo_3 := kw_12_3 hG i_m
  have i_x1_0 := kw_11_0 hG i_x
  refine lv_aload_n hx hb dL_law_890 rfl (lv_at hl 1 rfl) ?_
  refine lv_aload_n hx hb dL_law_891 rfl (lv_at hl 0 rfl) ?_
  refine lv_iload_n hx hb dL_law_892 rfl (lv_at hl 3 rfl) ?_
  refine lv_iconst (v := 1) hx hb dL_law_893 (by decide) ?_
  refine lv_iadd hx hb dL_law_894 ?_
  refine k_topi (y := nI (6 * n + 1)) ((nI_add (6 * n) 1).trans (congrArg nI (by omega))) ?_
  refine va_sld hx hb hX hbl hbA hS (vp_in_nI (by omega) (by omega)) dL_law_895 ?_
  refine k_topi (y := xs (6 * n + 1)) (congrArg xs (nI_clamp (by omega))) ?_
  refine lv_aload_n hx hb dL_law_896 rfl (lv_at hl 0 rfl) ?_
  refine lv_iload_n hx hb dL_law_897 rfl (lv_at hl 3 rfl) ?_
  refine lv_iconst (v := 2) hx hb dL_law_898 (by decide) ?_
  refine lv_iadd hx hb dL_law_899 ?_
  refine k_topi (y := nI (6 * n + 2)) ((nI_add (6 * n) 2).trans (congrArg nI (by omega))) ?_
  refine va_sld hx hb hX hbl hbA hS (vp_in_nI (by omega) (by omega)) dL_law_900 ?_
  refine k_topi (y := xs (6 * n + 2)) (congrArg xs (nI_clamp (by omega))) ?_
  refine lv_aload_n hx hb dL_law_901 rfl (lv_at hl 0 rfl) ?_
  refine lv_iload_n hx hb dL_law_902 rfl (lv_at hl 3 rfl) ?_
  refine lv_iconst (v := 3) hx hb dL_law_903 (by decide) ?_
  refine lv_iadd hx hb dL_law_904 ?_
  refine k_topi (y := nI (6 * n + 3)) ((nI_add (6 * n) 3).trans (congrArg nI (by omega))) ?_
  refine va_sld hx hb hX hbl hbA hS (vp_in_nI (by omega) (by omega)) dL_law_905 ?_
  refine k_topi (y := xs (6 * n + 3)) (congrArg xs (nI_clamp (by omega))) ?_
  obtain ⟨x_2, k_1⟩ := op_11 hI i_x
  refine va_calli (va_runV (As := [.int (xs (6 * n + 1)), .int (xs (6 * n + 2)), .int (xs (6 * n + 3))]) (rest := []) ⟨hx, hb, hml, hown, hts⟩ (c_X11_service l dC dI g A hG f x1 (xs (6 * n + 1)) (xs (6 * n + 2)) (xs (6 * n + 3)) i_x) (cwV 3 hts (gi_V tb_c_X11_service tw_1252.1 tw_1253.1 tw_1254.1 tw_56.1) rfl rfl rfl (by decide +kernel) ⟨Nat.le_of_ble_eq_true rfl, Nat.le_of_ble_eq_true rfl⟩) ⟨fun a U g mk q => ⟨q.1, q.2.calling rfl rfl⟩, k_recv hK hI i_x.1 k_1 (ci := 11) rfl, fun U hU hW => ⟨rfl, kIn.of hI hK hE hS hU hW⟩⟩ rfl rfl hl.1 rfl (lv_room (Nat.le_of_ble_eq_true rfl)) dL_law_906 ⟨Nat.le_of_ble_eq_true rfl, Nat.le_of_ble_eq_true rfl⟩) hS (fun q _ h => h) (fun q h => h) (fun r_4 u9 t H1 locs ht hvm w_3 hB hz1 hk1 hS => ?_)
  have hI : Iv dC dI g A f t.heap := hB
  rw [ht] at hI
  generalize H1 = H at hI hS ⊢
  refine W.widen (k := 786) (n := 20946) (Nat.le_of_ble_eq_true rfl) (Nat.le_of_ble_eq_true rfl) ?_
  refine lv_pop hx hb dL_law_909 rfl ?_
  refine lv_aload_n hx hb dL_law_910 rfl (lv_at hl 2 rfl) ?_
  refine lv_aload_n hx hb dL_law_911 rfl (lv_at hl 0 rfl) ?_
  refine lv_iload_n hx hb dL_law_912 rfl (lv_at hl 3 rfl) ?_
  refine lv_iconst (v := 1) hx hb dL_law_913 (by decide) ?_
  refine lv_iadd hx hb dL_law_914 ?_
  refine k_topi (y := nI (6 * n + 1)) ((nI_add (6 * n) 1).trans (congrArg nI (by omega))) ?_
  refine va_sld hx hb hX hbl hbA hS (vp_in_nI (by omega) (by omega)) dL_law_915 ?_
  refine k_topi (y := xs (6 * n + 1)) (congrArg xs (nI_clamp (by omega))) ?_
  refine lv_aload_n hx hb dL_law_916 rfl (lv_at hl 0 rfl) ?_
  refine lv_iload_n hx hb dL_law_917 rfl (lv_at hl 3 rfl) ?_
  refine lv_iconst (v := 2) hx hb dL_law_918 (by decide) ?_
  refine lv_iadd hx hb dL_law_919 ?_
  refine k_topi (y := nI (6 * n + 2)) ((nI_add (6 * n) 2).trans (congrArg nI (by omega))) ?_
  refine va_sld hx hb hX hbl hbA hS (vp_in_nI (by omega) (by omega)) dL_law_920 ?_
  refine k_topi (y := xs (6 * n + 2)) (congrArg xs (nI_clamp (by omega))) ?_
  refine lv_aload_n hx hb dL_law_921 rfl (lv_at hl 0 rfl) ?_
  refine lv_iload_n hx hb dL_law_922 rfl (lv_at hl 3 rfl) ?_
  refine lv_iconst (v := 3) hx hb dL_law_923 (by decide) ?_
  refine lv_iadd hx hb dL_law_924 ?_
  refine k_topi (y := nI (6 * n + 3)) ((nI_add (6 * n) 3).trans (congrArg nI (by omega))) ?_
  refine va_sld hx hb hX hbl hbA hS (vp_in_nI (by omega) (by omega)) dL_law_925 ?_
  refine k_topi (y := xs (6 * n + 3)) (congrArg xs (nI_clamp (by omega))) ?_
  refine va_calli (va_runV (As := [.int (xs (6 * n + 1)), .int (xs (6 * n + 2)), .int (xs (6 * n + 3))]) (rest := []) ⟨hx, hb, hml, hown, hts⟩ (c_X12_service l dC dI g A hG f mo (xs (6 * n + 1)) (xs (6 * n + 2)) (xs (6 * n + 3)) z0 z1 z10 z12 z13 z14 z15 z16 z17 z18 z23 z24 z25 z26 q u im kt i_m hmo (by omega) (by omega) (by omega) hcq hok hcu hci hck hui) (cwV 3 hts (gi_V tb_c_X12_service tw_1255.1 tw_1256.1 tw_1257.1 tw_728.1) rfl rfl rfl (by decide +kernel) ⟨Nat.le_of_ble_eq_true rfl, Nat.le_of_ble_eq_true rfl⟩) ⟨fun a U g mk q => ⟨q.1, q.2.calling rfl rfl⟩, k_recv hK hI i_m.1 hmo (ci := 12) rfl, fun U hU hW => ⟨rfl, kIn.of hI hK hE hS hU hW⟩⟩ rfl rfl hl.1 rfl (lv_room (Nat.le_of_ble_eq_true rfl)) dL_law_926 ⟨Nat.le_of_ble_eq_true rfl, Nat.le_of_ble_eq_true rfl⟩) hS (fun q _ h => h) (fun q h => h) (fun r_7 u9 t H1 locs ht hvm w_6 hB hz1 hk1 hS => ?_)
  obtain ⟨f_5, hI, kc_8, w0_9, w1_10, w10_11, w12_12, w13_13, w14_14, w15_15, w16_16, w17_17, w18_18, w23_19, w24_20, w25_21, w26_22, q1_23, u1_24, im1_25, ik1_26, k_27, z_28, z_29, z_30, k_31, z_32, k_33, k_34, k_35, z_36⟩ := hB
  rw [ht] at hI
  have k_37 : f_5 (gr g mo 4) = .inl (gc g 1, 906, .inr (.inl q)) := Kp.at kc_8 i_mo_4 (by decide) hcq
  have k_38 : f_5 (gr g mo 5) = .inl (gc g 1, 9060, .inr (.inl u)) := Kp.at kc_8 i_mo_5 (by decide) hcu
  have k_39 : f_5 (gr g mo 7) = .inl (gc g 1, 1812, .inr (.inl im)) := Kp.at kc_8 i_mo_7 (by decide) hci
  have k_40 : f_5 (gr g mo 8) = .inl (gc g 3, 2, .inl kt) := Kp.at kc_8 i_mo_8 (by decide) hck
  have k_41 : f_5 (gr g mo 3) = .inl (gc g 0, 3, .inl tm) := Kp.at kc_8 i_mo_3 (by decide) hct
  have k_42 : f_5 (gr g x1 0) = .inr (9, [.int a0, .int a1, .int a2]) := Kp.at kc_8 i_x1_0 (by decide) hca
  have k_43 : f_5 x1 = .inr (11, [.ref (gr g x1 0), .ref (gr g x1 1), .ref (gr g x1 2), .ref (gr g x1 3), .ref (gr g x1 4), .ref (gr g x1 5), .ref (gr g x1 6), .ref (gr g x1 7), .ref (gr g x1 8), .ref (gr g x1 9), .ref (gr g x1 10), .int x_2]) := Kp.at kc_8 i_x (by decide) k_1
  have k_27 : f_5 mo = .inr (12, [.int w0_9, .int w1_10, .ref (gr g mo 2), .ref (gr g mo 3), .ref (gr g mo 4), .ref (gr g mo 5), .ref (gr g mo 6), .ref (gr g mo 7), .ref (gr g mo 8), .ref (gr g mo 9), .int w10_11, .ref (gr g mo 11), .int w12_12, .int w13_13, .int w14_14, .int w15_15, .long w16_16, .int w17_17, .int w18_18, .ref (gr g mo 19), .ref (gr g mo 20), .ref (gr g mo 21), .ref (gr g mo 22), .int w23_19, .long w24_20, .long w25_21, .long w26_22]) := k_27
  have z_28 : 0 ≤ w10_11.toInt ∧ w10_11.toInt ≤ 10 := z_28
  have z_29 : 0 ≤ w12_12.toInt ∧ w12_12.toInt ≤ 200 := z_29
  have z_30 : 0 ≤ w23_19.toInt ∧ w23_19.toInt ≤ 8 := z_30
  have z_32 : RowOK q1_23 := z_32
  have d_44 := rk_hd z_32
  have z_36 : UIq w10_11 u1_24 im1_25 ik1_26 := z_36
  have kp_45 := Kp.call hk0 kc_8 (by decide)
  generalize H1 = H at hI hS ⊢
  refine W.widen (k := 786) (n := 20946) (Nat.le_of_ble_eq_true rfl) (Nat.le_of_ble_eq_true rfl) ?_
  refine lv_pop hx hb dL_law_929 rfl ?_
  refine lv_goto (tgt := 1200) hx hb dL_law_930 (by decide) ?_
  exact kk _ _ _ _ hI hS ⟨w0_9, w1_10, w10_11, w12_12, w13_13, w14_14, w15_15, w16_16, w17_17, w18_18, w23_19, w24_20, w25_21, w26_22, q1_23, u1_24, im1_25, ik1_26, tm, a0, a1, a2, k_27, (by omega), (by omega), (by omega), k_31, k_33, k_34, k_35, k_41, z_32, z_36, k_42, he0, he1, he2⟩ hl
