theorem tw_1258 : q_g (.methodLink RL 128 yX11_share) := ⟨(List.mem_append_right _ (List.mem_of_getElem? (i := 991) (by decide +kernel))), good_of_word (by decide +kernel)⟩
theorem tw_1259 : q_g (.instanceMethod yX11_share) := ⟨(List.mem_append_right _ (List.mem_of_getElem? (i := 992) (by decide +kernel))), good_of_word (by decide +kernel)⟩
theorem tw_1260 : q_g (.selects RX11 yX11_share yX11_share) := ⟨(List.mem_append_right _ (List.mem_of_getElem? (i := 993) (by decide +kernel))), good_of_word (by decide +kernel)⟩
theorem tw_1261 : q_g (.methodLink RL 132 yX12_share) := ⟨(List.mem_append_right _ (List.mem_of_getElem? (i := 1487) (by decide +kernel))), good_of_word (by decide +kernel)⟩
theorem tw_1262 : q_g (.instanceMethod yX12_share) := ⟨(List.mem_append_right _ (List.mem_of_getElem? (i := 1488) (by decide +kernel))), good_of_word (by decide +kernel)⟩
theorem tw_1263 : q_g (.selects RX12 yX12_share yX12_share) := ⟨(List.mem_append_right _ (List.mem_of_getElem? (i := 1489) (by decide +kernel))), good_of_word (by decide +kernel)⟩
set_option maxHeartbeats 4000000 in
set_option maxRecDepth 100000 in
theorem law_share {p : Program} {l : Launch} {e : Env} {s : State} {m : MethodId} {below : List Frame} {meth : Method} {c : Code} {dC : Nat → ClassId} {dI : Nat → Nat → Nat} {g : kG} {A : Nat → Prop} {b L : Nat} {xs : Nat → Int32} {x1 mo : Nat} (C0 : lw_At p s m meth c b L xs) (hL : L ≤ 3072) (hbA : ¬ A b) (hG : kWf g) (hK : va_K (dC, dI) vwCl (gty g) s) (hE : kE g A s) (i_x : ik g 11 x1) (i_m : ik g 12 mo) {n : Nat} (hn : 6 * n + 6 ≤ L) {f : Nat → va_E} {H : Heap} {locs : List Loc} {ls : Array Slot} (hI : Iv dC dI g A f H) (hS : va_S A s.heap H locs) (hLI : LI g f x1 mo) (hl : lv_has ls 4 [(0, .ref b), (1, .ref x1), (2, .ref mo), (3, .int (nI (6 * n)))]) (kk : ∀ (f : Nat → va_E) (H : Heap) (locs : List Loc) (ls : Array Slot), Iv dC dI g A f H → va_S A s.heap H locs → LI g f x1 mo → lv_has ls 4 [(0, .ref b), (1, .ref x1), (2, .ref mo), (3, .int (nI (6 * n)))] → W p l e room_1 s m #[Value.ref b] below meth c H locs 786 20946 (lw_Z below #[Value.ref b] s) (F0 m 1200 ls [])) : W p l e room_1 s m #[Value.ref b] below meth c H locs 786 20946 (lw_Z below #[Value.ref b] s) (F0 m 933 ls []) := by
  obtain ⟨hx, hb, hr, hml, hown, hts, hX, hbl, hlocks, hgv⟩ := id C0
  have hown : s.vm.findClass RL = some m.cls := hown
  obtain ⟨z0, z1, z10, z12, z13, z14, z15, z16, z17, z18, z23, z24, z25, z26, q, u, im, kt, tm, a0, a1, a2, hmo, hb0, hb1, hb2, hcq, hcu, hci, hck, hct, hok, hui, hca, he0, he1, he2⟩ := hLI
  have hk0 : Kp g [0, 1, 2, 3, 4, 5, 6, 7, 8, 9, 10, 11, 12, 20, 21, 22, 23, 24, 25, 26, 27, 28, 30, 31, 32, 33, 34, 35, 36, 37, 38, 39, 40, 41, 42] f f := Kp.rf
  have i_mo_4 := kw_12_4 hG i_m
  have i_mo_5 := kw_12_5 hG i_m
  have i_mo_7 := kw_12_7 hG i_m
  have i_mo_8 := kw_12_8 hG i_m
  have i_mo_3 := kw_12_3 hG i_m
  have i_x1_0 := kw_11_0 hG i_x
  refine lv_aload_n hx hb dL_law_933 rfl (lv_at hl 1 rfl) ?_
  refine lv_aload_n hx hb dL_law_934 rfl (lv_at hl 0 rfl) ?_
  refine lv_iload_n hx hb dL_law_935 rfl (lv_at hl 3 rfl) ?_
  refine lv_iconst (v := 1) hx hb dL_law_936 (by decide) ?_
  refine lv_iadd hx hb dL_law_937 ?_
  refine k_topi (y := nI (6 * n + 1)) ((nI_add (6 * n) 1).trans (congrArg nI (by omega))) ?_
  refine va_sld hx hb hX hbl hbA hS (vp_in_nI (by omega) (by omega)) dL_law_938 ?_
  refine k_topi (y := xs (6 * n + 1)) (congrArg xs (nI_clamp (by omega))) ?_
  refine lv_aload_n hx hb dL_law_939 rfl (lv_at hl 0 rfl) ?_
  refine lv_iload_n hx hb dL_law_940 rfl (lv_at hl 3 rfl) ?_
  refine lv_iconst (v := 2) hx hb dL_law_941 (by decide) ?_
  refine lv_iadd hx hb dL_law_942 ?_
  refine k_topi (y := nI (6 * n + 2)) ((nI_add (6 * n) 2).trans (congrArg nI (by omega))) ?_
  refine va_sld hx hb hX hbl hbA hS (vp_in_nI (by omega) (by omega)) dL_law_943 ?_
  refine k_topi (y := xs (6 * n + 2)) (congrArg xs (nI_clamp (by omega))) ?_
  refine lv_aload_n hx hb dL_law_944 rfl (lv_at hl 0 rfl) ?_
  refine lv_iload_n hx hb dL_law_945 rfl (lv_at hl 3 rfl) ?_
  refine lv_iconst (v := 3) hx hb dL_law_946 (by decide) ?_
  refine lv_iadd hx hb dL_law_947 ?_
  refine k_topi (y := nI (6 * n + 3)) ((nI_add (6 * n) 3).trans (congrArg nI (by omega))) ?_
  refine va_sld hx hb hX hbl hbA hS (vp_in_nI (by omega) (by omega)) dL_law_948 ?_
  refine k_topi (y := xs (6 * n + 3)) (congrArg xs (nI_clamp (by omega))) ?_
  obtain ⟨x_2, k_1⟩ := op_11 hI i_x
  refine va_calll (va_runV (As := [.int (xs (6 * n + 1)), .int (xs (6 * n + 2)), .int (xs (6 * n + 3))]) (rest := []) ⟨hx, hb, hml, hown, hts⟩ (c_X11_share l dC dI g A hG f x1 (xs (6 * n + 1)) (xs (6 * n + 2)) (xs (6 * n + 3)) i_x) (cwV 3 hts (gi_V tb_c_X11_share tw_1258.1 tw_1259.1 tw_1260.1 tw_56.1) rfl rfl rfl (by decide +kernel) ⟨Nat.le_of_ble_eq_true rfl, Nat.le_of_ble_eq_true rfl⟩) ⟨fun a U g mk q => ⟨q.1, q.2.calling rfl rfl⟩, k_recv hK hI i_x.1 k_1 (ci := 11) rfl, fun U hU hW => ⟨rfl, kIn.of hI hK hE hS hU hW⟩⟩ rfl rfl hl.1 rfl (lv_room (Nat.le_of_ble_eq_true rfl)) dL_law_949 ⟨Nat.le_of_ble_eq_true rfl, Nat.le_of_ble_eq_true rfl⟩) hS (fun q _ h => h) (fun q h => h) (fun r_4 u9 t H1 locs ht hvm w_3 hB hz1 hk1 hS => ?_)
  have hI : Iv dC dI g A f t.heap := hB
  rw [ht] at hI
  generalize H1 = H at hI hS ⊢
  refine W.widen (k := 786) (n := 20946) (Nat.le_of_ble_eq_true rfl) (Nat.le_of_ble_eq_true rfl) ?_
  refine lv_pop2_2 hx hb dL_law_952 rfl ?_
  refine lv_aload_n hx hb dL_law_953 rfl (lv_at hl 2 rfl) ?_
  refine lv_aload_n hx hb dL_law_954 rfl (lv_at hl 0 rfl) ?_
  refine lv_iload_n hx hb dL_law_955 rfl (lv_at hl 3 rfl) ?_
  refine lv_iconst (v := 1) hx hb dL_law_956 (by decide) ?_
  refine lv_iadd hx hb dL_law_957 ?_
  refine k_topi (y := nI (6 * n + 1)) ((nI_add (6 * n) 1).trans (congrArg nI (by omega))) ?_
  refine va_sld hx hb hX hbl hbA hS (vp_in_nI (by omega) (by omega)) dL_law_958 ?_
  refine k_topi (y := xs (6 * n + 1)) (congrArg xs (nI_clamp (by omega))) ?_
  refine lv_aload_n hx hb dL_law_959 rfl (lv_at hl 0 rfl) ?_
  refine lv_iload_n hx hb dL_law_960 rfl (lv_at hl 3 rfl) ?_
  refine lv_iconst (v := 2) hx hb dL_law_961 (by decide) ?_
  refine lv_iadd hx hb dL_law_962 ?_
  refine k_topi (y := nI (6 * n + 2)) ((nI_add (6 * n) 2).trans (congrArg nI (by omega))) ?_
  refine va_sld hx hb hX hbl hbA hS (vp_in_nI (by omega) (by omega)) dL_law_963 ?_
  refine k_topi (y := xs (6 * n + 2)) (congrArg xs (nI_clamp (by omega))) ?_
  refine lv_aload_n hx hb dL_law_964 rfl (lv_at hl 0 rfl) ?_
  refine lv_iload_n hx hb dL_law_965 rfl (lv_at hl 3 rfl) ?_
  refine lv_iconst (v := 3) hx hb dL_law_966 (by decide) ?_
  refine lv_iadd hx hb dL_law_967 ?_
  refine k_topi (y := nI (6 * n + 3)) ((nI_add (6 * n) 3).trans (congrArg nI (by omega))) ?_
  refine va_sld hx hb hX hbl hbA hS (vp_in_nI (by omega) (by omega)) dL_law_968 ?_
  refine k_topi (y := xs (6 * n + 3)) (congrArg xs (nI_clamp (by omega))) ?_
  refine va_calll (va_runV (As := [.int (xs (6 * n + 1)), .int (xs (6 * n + 2)), .int (xs (6 * n + 3))]) (rest := []) ⟨hx, hb, hml, hown, hts⟩ (c_X12_share l dC dI g A hG f mo (xs (6 * n + 1)) (xs (6 * n + 2)) (xs (6 * n + 3)) z0 z1 z10 z12 z13 z14 z15 z16 z17 z18 z23 z24 z25 z26 q u im kt i_m hmo (by omega) (by omega) (by omega) hcq hok hcu hci hck hui) (cwV 3 hts (gi_V tb_c_X12_share tw_1261.1 tw_1262.1 tw_1263.1 tw_728.1) rfl rfl rfl (by decide +kernel) ⟨Nat.le_of_ble_eq_true rfl, Nat.le_of_ble_eq_true rfl⟩) ⟨fun a U g mk q => ⟨q.1, q.2.calling rfl rfl⟩, k_recv hK hI i_m.1 hmo (ci := 12) rfl, fun U hU hW => ⟨rfl, kIn.of hI hK hE hS hU hW⟩⟩ rfl rfl hl.1 rfl (lv_room (Nat.le_of_ble_eq_true rfl)) dL_law_969 ⟨Nat.le_of_ble_eq_true rfl, Nat.le_of_ble_eq_true rfl⟩) hS (fun q _ h => h) (fun q h => h) (fun r_7 u9 t H1 locs ht hvm w_6 hB hz1 hk1 hS => ?_)
  obtain ⟨f_5, hI, kc_8, w0_9, w1_10, w10_11, w12_12, w13_13, w14_14, w15_15, w16_16, w17_17, w18_18, w23_19, w24_20, w25_21, w26_22, q1_23, u1_24, im1_25, ik1_26, k_27, z_28, z_29, z_30, k_31, z_32, k_33, k_34, k_35, z_36⟩ := hB
  rw [ht] at hI
  have k_37 : f_5 (gr g mo 4) = .inl (gc g 1, 906, .inr (.inl q)) := Kp.at kc_8 i_mo_4 (by decide) hcq
  have k_38 : f_5 (gr g mo 5) = .inl (gc g 1, 9060, .inr (.inl u)) := Kp.at kc_8 i_mo_5 (by decide) hcu
  have k_39 : f_5 (gr g mo 7) = .inl (gc g 1, 1812, .inr (.inl im)) := Kp.at kc_8 i_mo_7 (by decide) hci
  have k_40 : f_5 (gr g mo 8) = .inl (gc g 3, 2, .inl kt) := Kp.at kc_8 i_mo_8 (by decide) hck
  have k_41 : f_5 (gr g mo 3) = .inl (gc g 0, 3, .inl tm) := Kp.at kc_8 i_mo_3 (by decide) hct
  have k_42 : f_5 (gr g x1 0) = .inr (9, [.int a0, .int a1, .int a2]) := Kp.at kc_8 i_x1_0 (by decide) hca
  have k_43 : f_5 x1 = .inr (11, [.ref (gr g x1 0), .ref (gr g x1 1), .ref (gr g x1 2), .ref (gr g x1 3), .ref (gr g x1 4), .ref (gr g x1 5), .ref (gr g x1 6), .ref (gr g x1 7), .ref (gr g x1 8), .ref (gr g x1 9), .ref (gr g x1 10), .int x_2]) := Kp.at kc_8 i_x (by decide) k_1
  have k_27 : f_5 mo = .inr (12, [.int w0_9, .int w1_10, .ref (gr g mo 2), .ref (gr g mo 3), .ref (gr g mo 4), .ref (gr g mo 5), .ref (gr g mo 6), .ref (gr g mo 7), .ref (gr g mo 8), .ref (gr g mo 9), .int w10_11, .ref (gr g mo 11), .int w12_12, .int w13_13, .int w14_14, .int w15_15, .long w16_16, .int w17_17, .int w18_18, .ref (gr g mo 19), .ref (gr g mo 20), .ref (gr g mo 21), .ref (gr g mo 22), .int w23_19, .long w24_20, .long w25_21, .long w26_22]) := k_27
  have z_28 : 0 ≤ w10_11.toInt ∧ w10_11.toInt ≤ 10 := z_28
  have z_29 : 0 ≤ w12_12.toInt ∧ w12_12.toInt ≤ 200 := z_29
  have z_30 : 0 ≤ w23_19.toInt ∧ w23_19.toInt ≤ 8 := z_30
  have z_32 : RowOK q1_23 := z_32
  have d_44 := rk_hd z_32
  have z_36 : UIq w10_11 u1_24 im1_25 ik1_26 := z_36
  have kp_45 := Kp.call hk0 kc_8 (by decide)
  generalize H1 = H at hI hS ⊢
  refine W.widen (k := 786) (n := 20946) (Nat.le_of_ble_eq_true rfl) (Nat.le_of_ble_eq_true rfl) ?_
  refine lv_pop2_2 hx hb dL_law_972 rfl ?_
  refine lv_goto (tgt := 1200) hx hb dL_law_973 (by decide) ?_
  exact kk _ _ _ _ hI hS ⟨w0_9, w1_10, w10_11, w12_12, w13_13, w14_14, w15_15, w16_16, w17_17, w18_18, w23_19, w24_20, w25_21, w26_22, q1_23, u1_24, im1_25, ik1_26, tm, a0, a1, a2, k_27, (by omega), (by omega), (by omega), k_31, k_33, k_34, k_35, k_41, z_32, z_36, k_42, he0, he1, he2⟩ hl
theorem tw_1264 : q_g (.methodLink RL 133 yX11_worst) := ⟨(List.mem_append_right _ (List.mem_of_getElem? (i := 1008) (by decide +kernel))), good_of_word (by decide +kernel)⟩
theorem tw_1265 : q_g (.instanceMethod yX11_worst) := ⟨(List.mem_append_right _ (List.mem_of_getElem? (i := 1009) (by decide +kernel))), good_of_word (by decide +kernel)⟩
theorem tw_1266 : q_g (.selects RX11 yX11_worst yX11_worst) := ⟨(List.mem_append_right _ (List.mem_of_getElem? (i := 1010) (by decide +kernel))), good_of_word (by decide +kernel)⟩
theorem tw_1267 : q_g (.methodLink RL 136 yX12_worst) := ⟨(List.mem_append_right _ (List.mem_of_getElem? (i := 1496) (by decide +kernel))), good_of_word (by decide +kernel)⟩
theorem tw_1268 : q_g (.instanceMethod yX12_worst) := ⟨(List.mem_append_right _ (List.mem_of_getElem? (i := 1497) (by decide +kernel))), good_of_word (by decide +kernel)⟩
theorem tw_1269 : q_g (.selects RX12 yX12_worst yX12_worst) := ⟨(List.mem_append_right _ (List.mem_of_getElem? (i := 1498) (by decide +kernel))), good_of_word (by decide +kernel)⟩
set_option maxHeartbeats 4000000 in
set_option maxRecDepth 100000 in
theorem law_worst {p : Program} {l : Launch} {e : Env} {s : State} {m : MethodId} {below : List Frame} {meth : Method} {c : Code} {dC : Nat → ClassId} {dI : Nat → Nat → Nat} {g : kG} {A : Nat → Prop} {b L : Nat} {xs : Nat → Int32} {x1 mo : Nat} (C0 : lw_At p s m meth c b L xs) (hL : L ≤ 3072) (hbA : ¬ A b) (hG : kWf g) (hK : va_K (dC, dI) vwCl (gty g) s) (hE : kE g A s) (i_x : ik g 11 x1) (i_m : ik g 12 mo) {n : Nat} (hn : 6 * n + 6 ≤ L) {f : Nat → va_E} {H : Heap} {locs : List Loc} {ls : Array Slot} (hI : Iv dC dI g A f H) (hS : va_S A s.heap H locs) (hLI : LI g f x1 mo) (hl : lv_has ls 4 [(0, .ref b), (1, .ref x1), (2, .ref mo), (3, .int (nI (6 * n)))]) (kk : ∀ (f : Nat → va_E) (H : Heap) (locs : List Loc) (ls : Array Slot), Iv dC dI g A f H → va_S A s.heap H locs → LI g f x1 mo → lv_has ls 4 [(0, .ref b), (1, .ref x1), (2, .ref mo), (3, .int (nI (6 * n)))] → W p l e room_1 s m #[Value.ref b] below meth c H locs 786 20946 (lw_Z below #[Value.ref b] s) (F0 m 1200 ls [])) : W p l e room_1 s m #[Value.ref b] below meth c H locs 786 20946 (lw_Z below #[Value.ref b] s) (F0 m 976 ls []) := by
  obtain ⟨hx, hb, hr, hml, hown, hts, hX, hbl, hlocks, hgv⟩ := id C0
  have hown : s.vm.findClass RL = some m.cls := hown
  obtain ⟨z0, z1, z10, z12, z13, z14, z15, z16, z17, z18, z23, z24, z25, z26, q, u, im, kt, tm, a0, a1, a2, hmo, hb0, hb1, hb2, hcq, hcu, hci, hck, hct, hok, hui, hca, he0, he1, he2⟩ := hLI
  have hk0 : Kp g [0, 1, 2, 3, 4, 5, 6, 7, 8, 9, 10, 11, 12, 20, 21, 22, 23, 24, 25, 26, 27, 28, 30, 31, 32, 33, 34, 35, 36, 37, 38, 39, 40, 41, 42] f f := Kp.rf
  have i_mo_4 := kw_12_4 hG i_m
  have i_mo_5 := kw_12_5 hG i_m
  have i_mo_7 := kw_12_7 hG i_m
  have i_mo_8 := kw_12_8 hG i_m
  have i_mo_3 := kw_12_3 hG i_m
  have i_x1_0 := kw_11_0 hG i_x
  refine lv_aload_n hx hb dL_law_976 rfl (lv_at hl 1 rfl) ?_
  refine lv_aload_n hx hb dL_law_977 rfl (lv_at hl 0 rfl) ?_
  refine lv_iload_n hx hb dL_law_978 rfl (lv_at hl 3 rfl) ?_
  refine lv_iconst (v := 1) hx hb dL_law_979 (by decide) ?_
  refine lv_iadd hx hb dL_law_980 ?_
  refine k_topi (y := nI (6 * n + 1)) ((nI_add (6 * n) 1).trans (congrArg nI (by omega))) ?_
  refine va_sld hx hb hX hbl hbA hS (vp_in_nI (by omega) (by omega)) dL_law_981 ?_
  refine k_topi (y := xs (6 * n + 1)) (congrArg xs (nI_clamp (by omega))) ?_
  refine lv_aload_n hx hb dL_law_982 rfl (lv_at hl 0 rfl) ?_
  refine lv_iload_n hx hb dL_law_983 rfl (lv_at hl 3 rfl) ?_
  refine lv_iconst (v := 2) hx hb dL_law_984 (by decide) ?_
  refine lv_iadd hx hb dL_law_985 ?_
  refine k_topi (y := nI (6 * n + 2)) ((nI_add (6 * n) 2).trans (congrArg nI (by omega))) ?_
  refine va_sld hx hb hX hbl hbA hS (vp_in_nI (by omega) (by omega)) dL_law_986 ?_
  refine k_topi (y := xs (6 * n + 2)) (congrArg xs (nI_clamp (by omega))) ?_
  obtain ⟨x_2, k_1⟩ := op_11 hI i_x
  refine va_calll (va_runV (As := [.int (xs (6 * n + 1)), .int (xs (6 * n + 2))]) (rest := []) ⟨hx, hb, hml, hown, hts⟩ (c_X11_worst l dC dI g A hG f x1 (xs (6 * n + 1)) (xs (6 * n + 2)) i_x) (cwV 2 hts (gi_V tb_c_X11_worst tw_1264.1 tw_1265.1 tw_1266.1 tw_56.1) rfl rfl rfl (by decide +kernel) ⟨Nat.le_of_ble_eq_true rfl, Nat.le_of_ble_eq_true rfl⟩) ⟨fun a U g mk q => ⟨q.1, q.2.calling rfl rfl⟩, k_recv hK hI i_x.1 k_1 (ci := 11) rfl, fun U hU hW => ⟨rfl, kIn.of hI hK hE hS hU hW⟩⟩ rfl rfl hl.1 rfl (lv_room (Nat.le_of_ble_eq_true rfl)) dL_law_987 ⟨Nat.le_of_ble_eq_true rfl, Nat.le_of_ble_eq_true rfl⟩) hS (fun q _ h => h) (fun q h => h) (fun r_4 u9 t H1 locs ht hvm w_3 hB hz1 hk1 hS => ?_)
  have hI : Iv dC dI g A f t.heap := hB
  rw [ht] at hI
  generalize H1 = H at hI hS ⊢
  refine W.widen (k := 786) (n := 20946) (Nat.le_of_ble_eq_true rfl) (Nat.le_of_ble_eq_true rfl) ?_
  refine lv_pop2_2 hx hb dL_law_990 rfl ?_
  refine lv_aload_n hx hb dL_law_991 rfl (lv_at hl 2 rfl) ?_
  refine lv_aload_n hx hb dL_law_992 rfl (lv_at hl 0 rfl) ?_
  refine lv_iload_n hx hb dL_law_993 rfl (lv_at hl 3 rfl) ?_
  refine lv_iconst (v := 1) hx hb dL_law_994 (by decide) ?_
  refine lv_iadd hx hb dL_law_995 ?_
  refine k_topi (y := nI (6 * n + 1)) ((nI_add (6 * n) 1).trans (congrArg nI (by omega))) ?_
  refine va_sld hx hb hX hbl hbA hS (vp_in_nI (by omega) (by omega)) dL_law_996 ?_
  refine k_topi (y := xs (6 * n + 1)) (congrArg xs (nI_clamp (by omega))) ?_
  refine lv_aload_n hx hb dL_law_997 rfl (lv_at hl 0 rfl) ?_
  refine lv_iload_n hx hb dL_law_998 rfl (lv_at hl 3 rfl) ?_
  refine lv_iconst (v := 2) hx hb dL_law_999 (by decide) ?_
  refine lv_iadd hx hb dL_law_1000 ?_
  refine k_topi (y := nI (6 * n + 2)) ((nI_add (6 * n) 2).trans (congrArg nI (by omega))) ?_
  refine va_sld hx hb hX hbl hbA hS (vp_in_nI (by omega) (by omega)) dL_law_1001 ?_
  refine k_topi (y := xs (6 * n + 2)) (congrArg xs (nI_clamp (by omega))) ?_
  refine va_calll (va_runV (As := [.int (xs (6 * n + 1)), .int (xs (6 * n + 2))]) (rest := []) ⟨hx, hb, hml, hown, hts⟩ (c_X12_worst l dC dI g A hG f mo (xs (6 * n + 1)) (xs (6 * n + 2)) z0 z1 z10 z12 z13 z14 z15 z16 z17 z18 z23 z24 z25 z26 q u im kt i_m hmo (by omega) (by omega) (by omega) hcq hok hcu hci hck hui) (cwV 2 hts (gi_V tb_c_X12_worst tw_1267.1 tw_1268.1 tw_1269.1 tw_728.1) rfl rfl rfl (by decide +kernel) ⟨Nat.le_of_ble_eq_true rfl, Nat.le_of_ble_eq_true rfl⟩) ⟨fun a U g mk q => ⟨q.1, q.2.calling rfl rfl⟩, k_recv hK hI i_m.1 hmo (ci := 12) rfl, fun U hU hW => ⟨rfl, kIn.of hI hK hE hS hU hW⟩⟩ rfl rfl hl.1 rfl (lv_room (Nat.le_of_ble_eq_true rfl)) dL_law_1002 ⟨Nat.le_of_ble_eq_true rfl, Nat.le_of_ble_eq_true rfl⟩) hS (fun q _ h => h) (fun q h => h) (fun r_7 u9 t H1 locs ht hvm w_6 hB hz1 hk1 hS => ?_)
  obtain ⟨f_5, hI, kc_8, w0_9, w1_10, w10_11, w12_12, w13_13, w14_14, w15_15, w16_16, w17_17, w18_18, w23_19, w24_20, w25_21, w26_22, q1_23, u1_24, im1_25, ik1_26, k_27, z_28, z_29, z_30, k_31, z_32, k_33, k_34, k_35, z_36⟩ := hB
  rw [ht] at hI
  have k_37 : f_5 (gr g mo 4) = .inl (gc g 1, 906, .inr (.inl q)) := Kp.at kc_8 i_mo_4 (by decide) hcq
  have k_38 : f_5 (gr g mo 5) = .inl (gc g 1, 9060, .inr (.inl u)) := Kp.at kc_8 i_mo_5 (by decide) hcu
  have k_39 : f_5 (gr g mo 7) = .inl (gc g 1, 1812, .inr (.inl im)) := Kp.at kc_8 i_mo_7 (by decide) hci
  have k_40 : f_5 (gr g mo 8) = .inl (gc g 3, 2, .inl kt) := Kp.at kc_8 i_mo_8 (by decide) hck
  have k_41 : f_5 (gr g mo 3) = .inl (gc g 0, 3, .inl tm) := Kp.at kc_8 i_mo_3 (by decide) hct
  have k_42 : f_5 (gr g x1 0) = .inr (9, [.int a0, .int a1, .int a2]) := Kp.at kc_8 i_x1_0 (by decide) hca
  have k_43 : f_5 x1 = .inr (11, [.ref (gr g x1 0), .ref (gr g x1 1), .ref (gr g x1 2), .ref (gr g x1 3), .ref (gr g x1 4), .ref (gr g x1 5), .ref (gr g x1 6), .ref (gr g x1 7), .ref (gr g x1 8), .ref (gr g x1 9), .ref (gr g x1 10), .int x_2]) := Kp.at kc_8 i_x (by decide) k_1
  have k_27 : f_5 mo = .inr (12, [.int w0_9, .int w1_10, .ref (gr g mo 2), .ref (gr g mo 3), .ref (gr g mo 4), .ref (gr g mo 5), .ref (gr g mo 6), .ref (gr g mo 7), .ref (gr g mo 8), .ref (gr g mo 9), .int w10_11, .ref (gr g mo 11), .int w12_12, .int w13_13, .int w14_14, .int w15_15, .long w16_16, .int w17_17, .int w18_18, .ref (gr g mo 19), .ref (gr g mo 20), .ref (gr g mo 21), .ref (gr g mo 22), .int w23_19, .long w24_20, .long w25_21, .long w26_22]) := k_27
  have z_28 : 0 ≤ w10_11.toInt ∧ w10_11.toInt ≤ 10 := z_28
  have z_29 : 0 ≤ w12_12.toInt ∧ w12_12.toInt ≤ 200 := z_29
  have z_30 : 0 ≤ w23_19.toInt ∧ w23_19.toInt ≤ 8 := z_30
  have z_32 : RowOK q1_23 := z_32
  have d_44 := rk_hd z_32
  have z_36 : UIq w10_11 u1_24 im1_25 ik1_26 := z_36
  have kp_45 := Kp.call hk0 kc_8 (by decide)
  generalize H1 = H at hI hS ⊢
  refine W.widen (k := 786) (n := 20946) (Nat.le_of_ble_eq_true rfl) (Nat.le_of_ble_eq_true rfl) ?_
  refine lv_pop2_2 hx hb dL_law_1005 rfl ?_
  refine lv_goto (tgt := 1200) hx hb dL_law_1006 (by decide) ?_
  exact kk _ _ _ _ hI hS ⟨w0_9, w1_10, w10_11, w12_12, w13_13, w14_14, w15_15, w16_16, w17_17, w18_18, w23_19, w24_20, w25_21, w26_22, q1_23, u1_24, im1_25, ik1_26, tm, a0, a1, a2, k_27, (by omega), (by omega), (by omega), k_31, k_33, k_34, k_35, k_41, z_32, z_36, k_42, he0, he1, he2⟩ hl
theorem tw_1270 : q_g (.methodLink RL 137 yX11_ahead) := ⟨(List.mem_append_right _ (List.mem_of_getElem? (i := 1022) (by decide +kernel))), good_of_word (by decide +kernel)⟩
theorem tw_1271 : q_g (.instanceMethod yX11_ahead) := ⟨(List.mem_append_right _ (List.mem_of_getElem? (i := 1023) (by decide +kernel))), good_of_word (by decide +kernel)⟩
theorem tw_1272 : q_g (.selects RX11 yX11_ahead yX11_ahead) := ⟨(List.mem_append_right _ (List.mem_of_getElem? (i := 1024) (by decide +kernel))), good_of_word (by decide +kernel)⟩
theorem tw_1273 : q_g (.methodLink RL 140 yX12_ahead) := ⟨(List.mem_append_right _ (List.mem_of_getElem? (i := 1500) (by decide +kernel))), good_of_word (by decide +kernel)⟩
theorem tw_1274 : q_g (.instanceMethod yX12_ahead) := ⟨(List.mem_append_right _ (List.mem_of_getElem? (i := 1501) (by decide +kernel))), good_of_word (by decide +kernel)⟩
theorem tw_1275 : q_g (.selects RX12 yX12_ahead yX12_ahead) := ⟨(List.mem_append_right _ (List.mem_of_getElem? (i := 1502) (by decide +kernel))), good_of_word (by decide +kernel)⟩
set_option maxHeartbeats 4000000 in
set_option maxRecDepth 100000 in
theorem law_ahead {p : Program} {l : Launch} {e : Env} {s : State} {m : MethodId} {below : List Frame} {meth : Method} {c : Code} {dC : Nat → ClassId} {dI : Nat → Nat → Nat} {g : kG} {A : Nat → Prop} {b L : Nat} {xs : Nat → Int32} {x1 mo : Nat} (C0 : lw_At p s m meth c b L xs) (hL : L ≤ 3072) (hbA : ¬ A b) (hG : kWf g) (hK : va_K (dC, dI) vwCl (gty g) s) (hE : kE g A s) (i_x : ik g 11 x1) (i_m : ik g 12 mo) {n : Nat} (hn : 6 * n + 6 ≤ L) {f : Nat → va_E} {H : Heap} {locs : List Loc} {ls : Array Slot} (hI : Iv dC dI g A f H) (hS : va_S A s.heap H locs) (hLI : LI g f x1 mo) (hl : lv_has ls 4 [(0, .ref b), (1, .ref x1), (2, .ref mo), (3, .int (nI (6 * n)))]) (kk : ∀ (f : Nat → va_E) (H : Heap) (locs : List Loc) (ls : Array Slot), Iv dC dI g A f H → va_S A s.heap H locs → LI g f x1 mo → lv_has ls 4 [(0, .ref b), (1, .ref x1), (2, .ref mo), (3, .int (nI (6 * n)))] → W p l e room_1 s m #[Value.ref b] below meth c H locs 786 20946 (lw_Z below #[Value.ref b] s) (F0 m 1200 ls [])) : W p l e room_1 s m #[Value.ref b] below meth c H locs 786 20946 (lw_Z below #[Value.ref b] s) (F0 m 1009 ls []) := by
  obtain ⟨hx, hb, hr, hml, hown, hts, hX, hbl, hlocks, hgv⟩ := id C0
  have hown : s.vm.findClass RL = some m.cls := hown
  obtain ⟨z0, z1, z10, z12, z13, z14, z15, z16, z17, z18, z23, z24, z25, z26, q, u, im, kt, tm, a0, a1, a2, hmo, hb0, hb1, hb2, hcq, hcu, hci, hck, hct, hok, hui, hca, he0, he1, he2⟩ := hLI
  have hk0 : Kp g [0, 1, 2, 3, 4, 5, 6, 7, 8, 9, 10, 11, 12, 20, 21, 22, 23, 24, 25, 26, 27, 28, 30, 31, 32, 33, 34, 35, 36, 37, 38, 39, 40, 41, 42] f f := Kp.rf
  have i_mo_4 := kw_12_4 hG i_m
  have i_mo_5 := kw_12_5 hG i_m
  have i_mo_7 := kw_12_7 hG i_m
  have i_mo_8 := kw_12_8 hG i_m
  have i_mo_3 := kw_12_3 hG i_m
  have i_x1_0 := kw_11_0 hG i_x
  refine lv_aload_n hx hb dL_law_1009 rfl (lv_at hl 1 rfl) ?_
  refine lv_aload_n hx hb dL_law_1010 rfl (lv_at hl 0 rfl) ?_
  refine lv_iload_n hx hb dL_law_1011 rfl (lv_at hl 3 rfl) ?_
  refine lv_iconst (v := 1) hx hb dL_law_1012 (by decide) ?_
  refine lv_iadd hx hb dL_law_1013 ?_
  refine k_topi (y := nI (6 * n + 1)) ((nI_add (6 * n) 1).trans (congrArg nI (by omega))) ?_
  refine va_sld hx hb hX hbl hbA hS (vp_in_nI (by omega) (by omega)) dL_law_1014 ?_
  refine k_topi (y := xs (6 * n + 1)) (congrArg xs (nI_clamp (by omega))) ?_
  obtain ⟨x_2, k_1⟩ := op_11 hI i_x
  refine va_calli (va_runV (As := [.int (xs (6 * n + 1))]) (rest := []) ⟨hx, hb, hml, hown, hts⟩ (c_X11_ahead l dC dI g A hG f x1 (xs (6 * n + 1)) i_x) (cwV 1 hts (gi_V tb_c_X11_ahead tw_1270.1 tw_1271.1 tw_1272.1 tw_56.1) rfl rfl rfl (by decide +kernel) ⟨Nat.le_of_ble_eq_true rfl, Nat.le_of_ble_eq_true rfl⟩) ⟨fun a U g mk q => ⟨q.1, q.2.calling rfl rfl⟩, k_recv hK hI i_x.1 k_1 (ci := 11) rfl, fun U hU hW => ⟨rfl, kIn.of hI hK hE hS hU hW⟩⟩ rfl rfl hl.1 rfl (lv_room (Nat.le_of_ble_eq_true rfl)) dL_law_1015 ⟨Nat.le_of_ble_eq_true rfl, Nat.le_of_ble_eq_true rfl⟩) hS (fun q _ h => h) (fun q h => h) (fun r_5 u9 t H1 locs ht hvm w_4 hB hz1 hk1 hS => ?_)
  obtain ⟨f_3, hI, kc_6⟩ := hB
  rw [ht] at hI
  have k_7 : f_3 mo = .inr (12, [.int z0, .int z1, .ref (gr g mo 2), .ref (gr g mo 3), .ref (gr g mo 4), .ref (gr g mo 5), .ref (gr g mo 6), .ref (gr g mo 7), .ref (gr g mo 8), .ref (gr g mo 9), .int z10, .ref (gr g mo 11), .int z12, .int z13, .int z14, .int z15, .long z16, .int z17, .int z18, .ref (gr g mo 19), .ref (gr g mo 20), .ref (gr g mo 21), .ref (gr g mo 22), .int z23, .long z24, .long z25, .long z26]) := Kp.at kc_6 i_m (by decide) hmo
  have k_8 : f_3 (gr g mo 4) = .inl (gc g 1, 906, .inr (.inl q)) := Kp.at kc_6 i_mo_4 (by decide) hcq
  have k_9 : f_3 (gr g mo 5) = .inl (gc g 1, 9060, .inr (.inl u)) := Kp.at kc_6 i_mo_5 (by decide) hcu
  have k_10 : f_3 (gr g mo 7) = .inl (gc g 1, 1812, .inr (.inl im)) := Kp.at kc_6 i_mo_7 (by decide) hci
  have k_11 : f_3 (gr g mo 8) = .inl (gc g 3, 2, .inl kt) := Kp.at kc_6 i_mo_8 (by decide) hck
  have k_12 : f_3 (gr g mo 3) = .inl (gc g 0, 3, .inl tm) := Kp.at kc_6 i_mo_3 (by decide) hct
  have k_13 : f_3 (gr g x1 0) = .inr (9, [.int a0, .int a1, .int a2]) := Kp.at kc_6 i_x1_0 (by decide) hca
  have k_14 : f_3 x1 = .inr (11, [.ref (gr g x1 0), .ref (gr g x1 1), .ref (gr g x1 2), .ref (gr g x1 3), .ref (gr g x1 4), .ref (gr g x1 5), .ref (gr g x1 6), .ref (gr g x1 7), .ref (gr g x1 8), .ref (gr g x1 9), .ref (gr g x1 10), .int x_2]) := Kp.at kc_6 i_x (by decide) k_1
  have kp_15 := Kp.call hk0 kc_6 (by decide)
  generalize H1 = H at hI hS ⊢
  refine W.widen (k := 786) (n := 20946) (Nat.le_of_ble_eq_true rfl) (Nat.le_of_ble_eq_true rfl) ?_
  refine lv_pop hx hb dL_law_1018 rfl ?_
  refine lv_aload_n hx hb dL_law_1019 rfl (lv_at hl 2 rfl) ?_
  refine lv_aload_n hx hb dL_law_1020 rfl (lv_at hl 0 rfl) ?_
  refine lv_iload_n hx hb dL_law_1021 rfl (lv_at hl 3 rfl) ?_
  refine lv_iconst (v := 1) hx hb dL_law_1022 (by decide) ?_
  refine lv_iadd hx hb dL_law_1023 ?_
  refine k_topi (y := nI (6 * n + 1)) ((nI_add (6 * n) 1).trans (congrArg nI (by omega))) ?_
  refine va_sld hx hb hX hbl hbA hS (vp_in_nI (by omega) (by omega)) dL_law_1024 ?_
  refine k_topi (y := xs (6 * n + 1)) (congrArg xs (nI_clamp (by omega))) ?_
  have i_16 := kw_12_6 hG i_m
  obtain ⟨q_18, k_17⟩ := op_34 hI i_16
  refine va_calli (va_runV (As := [.int (xs (6 * n + 1))]) (rest := []) ⟨hx, hb, hml, hown, hts⟩ (c_X12_ahead l dC dI g A hG f_3 mo (xs (6 * n + 1)) z0 z1 z10 z12 z13 z14 z15 z16 z17 z18 z23 z24 z25 z26 q u im kt q_18 i_m k_7 (by omega) (by omega) (by omega) k_8 hok k_9 k_10 k_11 k_17 hui) (cwV 1 hts (gi_V tb_c_X12_ahead tw_1273.1 tw_1274.1 tw_1275.1 tw_728.1) rfl rfl rfl (by decide +kernel) ⟨Nat.le_of_ble_eq_true rfl, Nat.le_of_ble_eq_true rfl⟩) ⟨fun a U g mk q => ⟨q.1, q.2.calling rfl rfl⟩, k_recv hK hI i_m.1 k_7 (ci := 12) rfl, fun U hU hW => ⟨rfl, kIn.of hI hK hE hS hU hW⟩⟩ rfl rfl hl.1 rfl (lv_room (Nat.le_of_ble_eq_true rfl)) dL_law_1025 ⟨Nat.le_of_ble_eq_true rfl, Nat.le_of_ble_eq_true rfl⟩) hS (fun q _ h => h) (fun q h => h) (fun r_21 u9 t H1 locs ht hvm w_20 hB hz1 hk1 hS => ?_)
  obtain ⟨f_19, hI, kc_22, w0_23, w1_24, w10_25, w12_26, w13_27, w14_28, w15_29, w16_30, w17_31, w18_32, w23_33, w24_34, w25_35, w26_36, q1_37, u1_38, im1_39, ik1_40, k_41, z_42, z_43, z_44, k_45, z_46, k_47, k_48, k_49, z_50⟩ := hB
  rw [ht] at hI
  have k_51 : f_19 (gr g mo 5) = .inl (gc g 1, 9060, .inr (.inl u)) := Kp.at kc_22 i_mo_5 (by decide) k_9
  have k_52 : f_19 (gr g mo 7) = .inl (gc g 1, 1812, .inr (.inl im)) := Kp.at kc_22 i_mo_7 (by decide) k_10
  have k_53 : f_19 (gr g mo 8) = .inl (gc g 3, 2, .inl kt) := Kp.at kc_22 i_mo_8 (by decide) k_11
  have k_54 : f_19 (gr g mo 3) = .inl (gc g 0, 3, .inl tm) := Kp.at kc_22 i_mo_3 (by decide) k_12
  have k_55 : f_19 (gr g x1 0) = .inr (9, [.int a0, .int a1, .int a2]) := Kp.at kc_22 i_x1_0 (by decide) k_13
  have k_56 : f_19 x1 = .inr (11, [.ref (gr g x1 0), .ref (gr g x1 1), .ref (gr g x1 2), .ref (gr g x1 3), .ref (gr g x1 4), .ref (gr g x1 5), .ref (gr g x1 6), .ref (gr g x1 7), .ref (gr g x1 8), .ref (gr g x1 9), .ref (gr g x1 10), .int x_2]) := Kp.at kc_22 i_x (by decide) k_14
  have k_41 : f_19 mo = .inr (12, [.int w0_23, .int w1_24, .ref (gr g mo 2), .ref (gr g mo 3), .ref (gr g mo 4), .ref (gr g mo 5), .ref (gr g mo 6), .ref (gr g mo 7), .ref (gr g mo 8), .ref (gr g mo 9), .int w10_25, .ref (gr g mo 11), .int w12_26, .int w13_27, .int w14_28, .int w15_29, .long w16_30, .int w17_31, .int w18_32, .ref (gr g mo 19), .ref (gr g mo 20), .ref (gr g mo 21), .ref (gr g mo 22), .int w23_33, .long w24_34, .long w25_35, .long w26_36]) := k_41
  have z_42 : 0 ≤ w10_25.toInt ∧ w10_25.toInt ≤ 10 := z_42
  have z_43 : 0 ≤ w12_26.toInt ∧ w12_26.toInt ≤ 200 := z_43
  have z_44 : 0 ≤ w23_33.toInt ∧ w23_33.toInt ≤ 8 := z_44
  have z_46 : RowOK q1_37 := z_46
  have d_57 := rk_hd z_46
  have z_50 : UIq w10_25 u1_38 im1_39 ik1_40 := z_50
  have kp_58 := Kp.call kp_15 kc_22 (by decide)
  generalize H1 = H at hI hS ⊢
  refine W.widen (k := 786) (n := 20946) (Nat.le_of_ble_eq_true rfl) (Nat.le_of_ble_eq_true rfl) ?_
  refine lv_pop hx hb dL_law_1028 rfl ?_
  refine lv_goto (tgt := 1200) hx hb dL_law_1029 (by decide) ?_
  exact kk _ _ _ _ hI hS ⟨w0_23, w1_24, w10_25, w12_26, w13_27, w14_28, w15_29, w16_30, w17_31, w18_32, w23_33, w24_34, w25_35, w26_36, q1_37, u1_38, im1_39, ik1_40, tm, a0, a1, a2, k_41, (by omega), (by omega), (by omega), k_45, k_47, k_48, k_49, k_54, z_46, z_50, k_55, he0, he1, he2⟩ hl
theorem tw_1276 : q_g (.methodLink RL 141 yX11_finish) := ⟨(List.mem_append_right _ (List.mem_of_getElem? (i := 1030) (by decide +kernel))), good_of_word (by decide +kernel)⟩
theorem tw_1277 : q_g (.instanceMethod yX11_finish) := ⟨(List.mem_append_right _ (List.mem_of_getElem? (i := 1031) (by decide +kernel))), good_of_word (by decide +kernel)⟩
theorem tw_1278 : q_g (.selects RX11 yX11_finish yX11_finish) := ⟨(List.mem_append_right _ (List.mem_of_getElem? (i := 1032) (by decide +kernel))), good_of_word (by decide +kernel)⟩
theorem tw_1279 : q_g (.methodLink RL 144 yX12_finish) := ⟨(List.mem_append_right _ (List.mem_of_getElem? (i := 1512) (by decide +kernel))), good_of_word (by decide +kernel)⟩
theorem tw_1280 : q_g (.instanceMethod yX12_finish) := ⟨(List.mem_append_right _ (List.mem_of_getElem? (i := 1513) (by decide +kernel))), good_of_word (by decide +kernel)⟩
theorem tw_1281 : q_g (.selects RX12 yX12_finish yX12_finish) := ⟨(List.mem_append_right _ (List.mem_of_getElem? (i := 1514) (by decide +kernel))), good_of_word (by decide +kernel)⟩
set_option maxHeartbeats 4000000 in
set_option maxRecDepth 100000 in
theorem law_finish {p : Program} {l : Launch} {e : Env} {s : State} {m : MethodId} {below : List Frame} {meth : Method} {c : Code} {dC : Nat → ClassId} {dI : Nat → Nat → Nat} {g : kG} {A : Nat → Prop} {b L : Nat} {xs : Nat → Int32} {x1 mo : Nat} (C0 : lw_At p s m meth c b L xs) (hL : L ≤ 3072) (hbA : ¬ A b) (hG : kWf g) (hK : va_K (dC, dI) vwCl (gty g) s) (hE : kE g A s) (i_x : ik g 11 x1) (i_m : ik g 12 mo) {n : Nat} (hn : 6 * n + 6 ≤ L) {f : Nat → va_E} {H : Heap} {locs : List Loc} {ls : Array Slot} (hI : Iv dC dI g A f H) (hS : va_S A s.heap H locs) (hLI : LI g f x1 mo) (hl : lv_has ls 4 [(0, .ref b), (1, .ref x1), (2, .ref mo), (3, .int (nI (6 * n)))]) (kk : ∀ (f : Nat → va_E) (H : Heap) (locs : List Loc) (ls : Array Slot), Iv dC dI g A f H → va_S A s.heap H locs → LI g f x1 mo → lv_has ls 4 [(0, .ref b), (1, .ref x1), (2, .ref mo), (3, .int (nI (6 * n)))] → W p l e room_1 s m #[Value.ref b] below meth c H locs 786 20946 (lw_Z below #[Value.ref b] s) (F0 m 1200 ls [])) : W p l e room_1 s m #[Value.ref b] below meth c H locs 786 20946 (lw_Z below #[Value.ref b] s) (F0 m 1032 ls []) := by
  obtain ⟨hx, hb, hr, hml, hown, hts, hX, hbl, hlocks, hgv⟩ := id C0
  have hown : s.vm.findClass RL = some m.cls := hown
  obtain ⟨z0, z1, z10, z12, z13, z14, z15, z16, z17, z18, z23, z24, z25, z26, q, u, im, kt, tm, a0, a1, a2, hmo, hb0, hb1, hb2, hcq, hcu, hci, hck, hct, hok, hui, hca, he0, he1, he2⟩ := hLI
  have hk0 : Kp g [0, 1, 2, 3, 4, 5, 6, 7, 8, 9, 10, 11, 12, 20, 21, 22, 23, 24, 25, 26, 27, 28, 30, 31, 32, 33, 34, 35, 36, 37, 38, 39, 40, 41, 42] f f := Kp.rf
  have i_mo_4 := kw_12_4 hG i_m
  have i_mo_5 := kw_12_5 hG i_m
  have i_mo_7 := kw_12_7 hG i_m
  have i_mo_8 := kw_12_8 hG i_m
  have i_mo_3 := kw_12_3 hG i_m
  have i_x1_0 := kw_11_0 hG i_x
  refine lv_aload_n hx hb dL_law_1032 rfl (lv_at hl 1 rfl) ?_
  refine lv_aload_n hx hb dL_law_1033 rfl (lv_at hl 0 rfl) ?_
  refine lv_iload_n hx hb dL_law_1034 rfl (lv_at hl 3 rfl) ?_
  refine lv_iconst (v := 1) hx hb dL_law_1035 (by decide) ?_
  refine lv_iadd hx hb dL_law_1036 ?_
  refine k_topi (y := nI (6 * n + 1)) ((nI_add (6 * n) 1).trans (congrArg nI (by omega))) ?_
  refine va_sld hx hb hX hbl hbA hS (vp_in_nI (by omega) (by omega)) dL_law_1037 ?_
  refine k_topi (y := xs (6 * n + 1)) (congrArg xs (nI_clamp (by omega))) ?_
  obtain ⟨x_2, k_1⟩ := op_11 hI i_x
  refine va_calli (va_runV (As := [.int (xs (6 * n + 1))]) (rest := []) ⟨hx, hb, hml, hown, hts⟩ (c_X11_finish l dC dI g A hG f x1 (xs (6 * n + 1)) i_x) (cwV 1 hts (gi_V tb_c_X11_finish tw_1276.1 tw_1277.1 tw_1278.1 tw_56.1) rfl rfl rfl (by decide +kernel) ⟨Nat.le_of_ble_eq_true rfl, Nat.le_of_ble_eq_true rfl⟩) ⟨fun a U g mk q => ⟨q.1, q.2.calling rfl rfl⟩, k_recv hK hI i_x.1 k_1 (ci := 11) rfl, fun U hU hW => ⟨rfl, kIn.of hI hK hE hS hU hW⟩⟩ rfl rfl hl.1 rfl (lv_room (Nat.le_of_ble_eq_true rfl)) dL_law_1038 ⟨Nat.le_of_ble_eq_true rfl, Nat.le_of_ble_eq_true rfl⟩) hS (fun q _ h => h) (fun q h => h) (fun r_5 u9 t H1 locs ht hvm w_4 hB hz1 hk1 hS => ?_)
  obtain ⟨f_3, hI, kc_6⟩ := hB
  rw [ht] at hI
  have k_7 : f_3 mo = .inr (12, [.int z0, .int z1, .ref (gr g mo 2), .ref (gr g mo 3), .ref (gr g mo 4), .ref (gr g mo 5), .ref (gr g mo 6), .ref (gr g mo 7), .ref (gr g mo 8), .ref (gr g mo 9), .int z10, .ref (gr g mo 11), .int z12, .int z13, .int z14, .int z15, .long z16, .int z17, .int z18, .ref (gr g mo 19), .ref (gr g mo 20), .ref (gr g mo 21), .ref (gr g mo 22), .int z23, .long z24, .long z25, .long z26]) := Kp.at kc_6 i_m (by decide) hmo
  have k_8 : f_3 (gr g mo 4) = .inl (gc g 1, 906, .inr (.inl q)) := Kp.at kc_6 i_mo_4 (by decide) hcq
  have k_9 : f_3 (gr g mo 5) = .inl (gc g 1, 9060, .inr (.inl u)) := Kp.at kc_6 i_mo_5 (by decide) hcu
  have k_10 : f_3 (gr g mo 7) = .inl (gc g 1, 1812, .inr (.inl im)) := Kp.at kc_6 i_mo_7 (by decide) hci
  have k_11 : f_3 (gr g mo 8) = .inl (gc g 3, 2, .inl kt) := Kp.at kc_6 i_mo_8 (by decide) hck
  have k_12 : f_3 (gr g mo 3) = .inl (gc g 0, 3, .inl tm) := Kp.at kc_6 i_mo_3 (by decide) hct
  have k_13 : f_3 (gr g x1 0) = .inr (9, [.int a0, .int a1, .int a2]) := Kp.at kc_6 i_x1_0 (by decide) hca
  have k_14 : f_3 x1 = .inr (11, [.ref (gr g x1 0), .ref (gr g x1 1), .ref (gr g x1 2), .ref (gr g x1 3), .ref (gr g x1 4), .ref (gr g x1 5), .ref (gr g x1 6), .ref (gr g x1 7), .ref (gr g x1 8), .ref (gr g x1 9), .ref (gr g x1 10), .int x_2]) := Kp.at kc_6 i_x (by decide) k_1
  have kp_15 := Kp.call hk0 kc_6 (by decide)
  generalize H1 = H at hI hS ⊢
  refine W.widen (k := 786) (n := 20946) (Nat.le_of_ble_eq_true rfl) (Nat.le_of_ble_eq_true rfl) ?_
  refine lv_pop hx hb dL_law_1041 rfl ?_
  refine lv_aload_n hx hb dL_law_1042 rfl (lv_at hl 2 rfl) ?_
  refine lv_aload_n hx hb dL_law_1043 rfl (lv_at hl 0 rfl) ?_
  refine lv_iload_n hx hb dL_law_1044 rfl (lv_at hl 3 rfl) ?_
  refine lv_iconst (v := 1) hx hb dL_law_1045 (by decide) ?_
  refine lv_iadd hx hb dL_law_1046 ?_
  refine k_topi (y := nI (6 * n + 1)) ((nI_add (6 * n) 1).trans (congrArg nI (by omega))) ?_
  refine va_sld hx hb hX hbl hbA hS (vp_in_nI (by omega) (by omega)) dL_law_1047 ?_
  refine k_topi (y := xs (6 * n + 1)) (congrArg xs (nI_clamp (by omega))) ?_
  have i_16 := kw_12_6 hG i_m
  obtain ⟨q_18, k_17⟩ := op_34 hI i_16
  refine va_calli (va_runV (As := [.int (xs (6 * n + 1))]) (rest := []) ⟨hx, hb, hml, hown, hts⟩ (c_X12_finish l dC dI g A hG f_3 mo (xs (6 * n + 1)) z0 z1 z10 z12 z13 z14 z15 z16 z17 z18 z23 z24 z25 z26 q u im kt q_18 i_m k_7 (by omega) (by omega) (by omega) k_8 hok k_9 k_10 k_11 k_17 hui) (cwV 1 hts (gi_V tb_c_X12_finish tw_1279.1 tw_1280.1 tw_1281.1 tw_728.1) rfl rfl rfl (by decide +kernel) ⟨Nat.le_of_ble_eq_true rfl, Nat.le_of_ble_eq_true rfl⟩) ⟨fun a U g mk q => ⟨q.1, q.2.calling rfl rfl⟩, k_recv hK hI i_m.1 k_7 (ci := 12) rfl, fun U hU hW => ⟨rfl, kIn.of hI hK hE hS hU hW⟩⟩ rfl rfl hl.1 rfl (lv_room (Nat.le_of_ble_eq_true rfl)) dL_law_1048 ⟨Nat.le_of_ble_eq_true rfl, Nat.le_of_ble_eq_true rfl⟩) hS (fun q _ h => h) (fun q h => h) (fun r_21 u9 t H1 locs ht hvm w_20 hB hz1 hk1 hS => ?_)
  obtain ⟨f_19, hI, kc_22, w0_23, w1_24, w10_25, w12_26, w13_27, w14_28, w15_29, w16_30, w17_31, w18_32, w23_33, w24_34, w25_35, w26_36, q1_37, u1_38, im1_39, ik1_40, k_41, z_42, z_43, z_44, k_45, z_46, k_47, k_48, k_49, z_50⟩ := hB
  rw [ht] at hI
  have k_51 : f_19 (gr g mo 5) = .inl (gc g 1, 9060, .inr (.inl u)) := Kp.at kc_22 i_mo_5 (by decide) k_9
  have k_52 : f_19 (gr g mo 7) = .inl (gc g 1, 1812, .inr (.inl im)) := Kp.at kc_22 i_mo_7 (by decide) k_10
  have k_53 : f_19 (gr g mo 8) = .inl (gc g 3, 2, .inl kt) := Kp.at kc_22 i_mo_8 (by decide) k_11
  have k_54 : f_19 (gr g mo 3) = .inl (gc g 0, 3, .inl tm) := Kp.at kc_22 i_mo_3 (by decide) k_12
  have k_55 : f_19 (gr g x1 0) = .inr (9, [.int a0, .int a1, .int a2]) := Kp.at kc_22 i_x1_0 (by decide) k_13
  have k_56 : f_19 x1 = .inr (11, [.ref (gr g x1 0), .ref (gr g x1 1), .ref (gr g x1 2), .ref (gr g x1 3), .ref (gr g x1 4), .ref (gr g x1 5), .ref (gr g x1 6), .ref (gr g x1 7), .ref (gr g x1 8), .ref (gr g x1 9), .ref (gr g x1 10), .int x_2]) := Kp.at kc_22 i_x (by decide) k_14
  have k_41 : f_19 mo = .inr (12, [.int w0_23, .int w1_24, .ref (gr g mo 2), .ref (gr g mo 3), .ref (gr g mo 4), .ref (gr g mo 5), .ref (gr g mo 6), .ref (gr g mo 7), .ref (gr g mo 8), .ref (gr g mo 9), .int w10_25, .ref (gr g mo 11), .int w12_26, .int w13_27, .int w14_28, .int w15_29, .long w16_30, .int w17_31, .int w18_32, .ref (gr g mo 19), .ref (gr g mo 20), .ref (gr g mo 21), .ref (gr g mo 22), .int w23_33, .long w24_34, .long w25_35, .long w26_36]) := k_41
  have z_42 : 0 ≤ w10_25.toInt ∧ w10_25.toInt ≤ 10 := z_42
  have z_43 : 0 ≤ w12_26.toInt ∧ w12_26.toInt ≤ 200 := z_43
  have z_44 : 0 ≤ w23_33.toInt ∧ w23_33.toInt ≤ 8 := z_44
  have z_46 : RowOK q1_37 := z_46
  have d_57 := rk_hd z_46
  have z_50 : UIq w10_25 u1_38 im1_39 ik1_40 := z_50
  have kp_58 := Kp.call kp_15 kc_22 (by decide)
  generalize H1 = H at hI hS ⊢
  refine W.widen (k := 786) (n := 20946) (Nat.le_of_ble_eq_true rfl) (Nat.le_of_ble_eq_true rfl) ?_
  refine lv_pop hx hb dL_law_1051 rfl ?_
  refine lv_goto (tgt := 1200) hx hb dL_law_1052 (by decide) ?_
  exact kk _ _ _ _ hI hS ⟨w0_23, w1_24, w10_25, w12_26, w13_27, w14_28, w15_29, w16_30, w17_31, w18_32, w23_33, w24_34, w25_35, w26_36, q1_37, u1_38, im1_39, ik1_40, tm, a0, a1, a2, k_41, (by omega), (by omega), (by omega), k_45, k_47, k_48, k_49, k_54, z_46, z_50, k_55, he0, he1, he2⟩ hl
theorem tw_1282 : q_g (.methodLink RL 145 yX11_due) := ⟨(List.mem_append_right _ (List.mem_of_getElem? (i := 1034) (by decide +kernel))), good_of_word (by decide +kernel)⟩
theorem tw_1283 : q_g (.instanceMethod yX11_due) := ⟨(List.mem_append_right _ (List.mem_of_getElem? (i := 1035) (by decide +kernel))), good_of_word (by decide +kernel)⟩
theorem tw_1284 : q_g (.selects RX11 yX11_due yX11_due) := ⟨(List.mem_append_right _ (List.mem_of_getElem? (i := 1036) (by decide +kernel))), good_of_word (by decide +kernel)⟩
theorem tw_1285 : q_g (.methodLink RL 148 yX12_due) := ⟨(List.mem_append_right _ (List.mem_of_getElem? (i := 1516) (by decide +kernel))), good_of_word (by decide +kernel)⟩
theorem tw_1286 : q_g (.instanceMethod yX12_due) := ⟨(List.mem_append_right _ (List.mem_of_getElem? (i := 1517) (by decide +kernel))), good_of_word (by decide +kernel)⟩
theorem tw_1287 : q_g (.selects RX12 yX12_due yX12_due) := ⟨(List.mem_append_right _ (List.mem_of_getElem? (i := 1518) (by decide +kernel))), good_of_word (by decide +kernel)⟩
set_option maxHeartbeats 4000000 in
set_option maxRecDepth 100000 in
theorem law_due {p : Program} {l : Launch} {e : Env} {s : State} {m : MethodId} {below : List Frame} {meth : Method} {c : Code} {dC : Nat → ClassId} {dI : Nat → Nat → Nat} {g : kG} {A : Nat → Prop} {b L : Nat} {xs : Nat → Int32} {x1 mo : Nat} (C0 : lw_At p s m meth c b L xs) (hL : L ≤ 3072) (hbA : ¬ A b) (hG : kWf g) (hK : va_K (dC, dI) vwCl (gty g) s) (hE : kE g A s) (i_x : ik g 11 x1) (i_m : ik g 12 mo) {n : Nat} (hn : 6 * n + 6 ≤ L) {f : Nat → va_E} {H : Heap} {locs : List Loc} {ls : Array Slot} (hI : Iv dC dI g A f H) (hS : va_S A s.heap H locs) (hLI : LI g f x1 mo) (hl : lv_has ls 4 [(0, .ref b), (1, .ref x1), (2, .ref mo), (3, .int (nI (6 * n)))]) (kk : ∀ (f : Nat → va_E) (H : Heap) (locs : List Loc) (ls : Array Slot), Iv dC dI g A f H → va_S A s.heap H locs → LI g f x1 mo → lv_has ls 4 [(0, .ref b), (1, .ref x1), (2, .ref mo), (3, .int (nI (6 * n)))] → W p l e room_1 s m #[Value.ref b] below meth c H locs 786 20946 (lw_Z below #[Value.ref b] s) (F0 m 1200 ls [])) : W p l e room_1 s m #[Value.ref b] below meth c H locs 786 20946 (lw_Z below #[Value.ref b] s) (F0 m 1055 ls []) := by
  obtain ⟨hx, hb, hr, hml, hown, hts, hX, hbl, hlocks, hgv⟩ := id C0
  have hown : s.vm.findClass RL = some m.cls := hown
  obtain ⟨z0, z1, z10, z12, z13, z14, z15, z16, z17, z18, z23, z24, z25, z26, q, u, im, kt, tm, a0, a1, a2, hmo, hb0, hb1, hb2, hcq, hcu, hci, hck, hct, hok, hui, hca, he0, he1, he2⟩ := hLI
  have hk0 : Kp g [0, 1, 2, 3, 4, 5, 6, 7, 8, 9, 10, 11, 12, 20, 21, 22, 23, 24, 25, 26, 27, 28, 30, 31, 32, 33, 34, 35, 36, 37, 38, 39, 40, 41, 42] f f := Kp.rf
  have i_mo_4 := kw_12_4 hG i_m
  have i_mo_5 := kw_12_5 hG i_m
  have i_mo_7 := kw_12_7 hG i_m
  have i_mo_8 := kw_12_8 hG i_m
  have i_mo_3 := kw_12_3 hG i_m
  have i_x1_0 := kw_11_0 hG i_x
  refine lv_aload_n hx hb dL_law_1055 rfl (lv_at hl 1 rfl) ?_
  refine lv_aload_n hx hb dL_law_1056 rfl (lv_at hl 0 rfl) ?_
  refine lv_iload_n hx hb dL_law_1057 rfl (lv_at hl 3 rfl) ?_
  refine lv_iconst (v := 1) hx hb dL_law_1058 (by decide) ?_
  refine lv_iadd hx hb dL_law_1059 ?_
  refine k_topi (y := nI (6 * n + 1)) ((nI_add (6 * n) 1).trans (congrArg nI (by omega))) ?_
  refine va_sld hx hb hX hbl hbA hS (vp_in_nI (by omega) (by omega)) dL_law_1060 ?_
  refine k_topi (y := xs (6 * n + 1)) (congrArg xs (nI_clamp (by omega))) ?_
  obtain ⟨x_2, k_1⟩ := op_11 hI i_x
  refine va_calli (va_runV (As := [.int (xs (6 * n + 1))]) (rest := []) ⟨hx, hb, hml, hown, hts⟩ (c_X11_due l dC dI g A hG f x1 (xs (6 * n + 1)) i_x) (cwV 1 hts (gi_V tb_c_X11_due tw_1282.1 tw_1283.1 tw_1284.1 tw_56.1) rfl rfl rfl (by decide +kernel) ⟨Nat.le_of_ble_eq_true rfl, Nat.le_of_ble_eq_true rfl⟩) ⟨fun a U g mk q => ⟨q.1, q.2.calling rfl rfl⟩, k_recv hK hI i_x.1 k_1 (ci := 11) rfl, fun U hU hW => ⟨rfl, kIn.of hI hK hE hS hU hW⟩⟩ rfl rfl hl.1 rfl (lv_room (Nat.le_of_ble_eq_true rfl)) dL_law_1061 ⟨Nat.le_of_ble_eq_true rfl, Nat.le_of_ble_eq_true rfl⟩) hS (fun q _ h => h) (fun q h => h) (fun r_5 u9 t H1 locs ht hvm w_4 hB hz1 hk1 hS => ?_)
  obtain ⟨f_3, hI, kc_6⟩ := hB
  rw [ht] at hI
  have k_7 : f_3 mo = .inr (12, [.int z0, .int z1, .ref (gr g mo 2), .ref (gr g mo 3), .ref (gr g mo 4), .ref (gr g mo 5), .ref (gr g mo 6), .ref (gr g mo 7), .ref (gr g mo 8), .ref (gr g mo 9), .int z10, .ref (gr g mo 11), .int z12, .int z13, .int z14, .int z15, .long z16, .int z17, .int z18, .ref (gr g mo 19), .ref (gr g mo 20), .ref (gr g mo 21), .ref (gr g mo 22), .int z23, .long z24, .long z25, .long z26]) := Kp.at kc_6 i_m (by decide) hmo
  have k_8 : f_3 (gr g mo 4) = .inl (gc g 1, 906, .inr (.inl q)) := Kp.at kc_6 i_mo_4 (by decide) hcq
  have k_9 : f_3 (gr g mo 5) = .inl (gc g 1, 9060, .inr (.inl u)) := Kp.at kc_6 i_mo_5 (by decide) hcu
  have k_10 : f_3 (gr g mo 7) = .inl (gc g 1, 1812, .inr (.inl im)) := Kp.at kc_6 i_mo_7 (by decide) hci
  have k_11 : f_3 (gr g mo 8) = .inl (gc g 3, 2, .inl kt) := Kp.at kc_6 i_mo_8 (by decide) hck
  have k_12 : f_3 (gr g mo 3) = .inl (gc g 0, 3, .inl tm) := Kp.at kc_6 i_mo_3 (by decide) hct
  have k_13 : f_3 (gr g x1 0) = .inr (9, [.int a0, .int a1, .int a2]) := Kp.at kc_6 i_x1_0 (by decide) hca
  have k_14 : f_3 x1 = .inr (11, [.ref (gr g x1 0), .ref (gr g x1 1), .ref (gr g x1 2), .ref (gr g x1 3), .ref (gr g x1 4), .ref (gr g x1 5), .ref (gr g x1 6), .ref (gr g x1 7), .ref (gr g x1 8), .ref (gr g x1 9), .ref (gr g x1 10), .int x_2]) := Kp.at kc_6 i_x (by decide) k_1
  have kp_15 := Kp.call hk0 kc_6 (by decide)
  generalize H1 = H at hI hS ⊢
  refine W.widen (k := 786) (n := 20946) (Nat.le_of_ble_eq_true rfl) (Nat.le_of_ble_eq_true rfl) ?_
  refine lv_pop hx hb dL_law_1064 rfl ?_
  refine lv_aload_n hx hb dL_law_1065 rfl (lv_at hl 2 rfl) ?_
  refine lv_aload_n hx hb dL_law_1066 rfl (lv_at hl 0 rfl) ?_
  refine lv_iload_n hx hb dL_law_1067 rfl (lv_at hl 3 rfl) ?_
  refine lv_iconst (v := 1) hx hb dL_law_1068 (by decide) ?_
  refine lv_iadd hx hb dL_law_1069 ?_
  refine k_topi (y := nI (6 * n + 1)) ((nI_add (6 * n) 1).trans (congrArg nI (by omega))) ?_
  refine va_sld hx hb hX hbl hbA hS (vp_in_nI (by omega) (by omega)) dL_law_1070 ?_
  refine k_topi (y := xs (6 * n + 1)) (congrArg xs (nI_clamp (by omega))) ?_
  have i_16 := kw_12_6 hG i_m
  obtain ⟨q_18, k_17⟩ := op_34 hI i_16
  refine va_calli (va_runV (As := [.int (xs (6 * n + 1))]) (rest := []) ⟨hx, hb, hml, hown, hts⟩ (c_X12_due l dC dI g A hG f_3 mo (xs (6 * n + 1)) z0 z1 z10 z12 z13 z14 z15 z16 z17 z18 z23 z24 z25 z26 q u im kt q_18 i_m k_7 (by omega) (by omega) (by omega) k_8 hok k_9 k_10 k_11 k_17 hui) (cwV 1 hts (gi_V tb_c_X12_due tw_1285.1 tw_1286.1 tw_1287.1 tw_728.1) rfl rfl rfl (by decide +kernel) ⟨Nat.le_of_ble_eq_true rfl, Nat.le_of_ble_eq_true rfl⟩) ⟨fun a U g mk q => ⟨q.1, q.2.calling rfl rfl⟩, k_recv hK hI i_m.1 k_7 (ci := 12) rfl, fun U hU hW => ⟨rfl, kIn.of hI hK hE hS hU hW⟩⟩ rfl rfl hl.1 rfl (lv_room (Nat.le_of_ble_eq_true rfl)) dL_law_1071 ⟨Nat.le_of_ble_eq_true rfl, Nat.le_of_ble_eq_true rfl⟩) hS (fun q _ h => h) (fun q h => h) (fun r_21 u9 t H1 locs ht hvm w_20 hB hz1 hk1 hS => ?_)
  obtain ⟨f_19, hI, kc_22, w0_23, w1_24, w10_25, w12_26, w13_27, w14_28, w15_29, w16_30, w17_31, w18_32, w23_33, w24_34, w25_35, w26_36, q1_37, u1_38, im1_39, ik1_40, k_41, z_42, z_43, z_44, k_45, z_46, k_47, k_48, k_49, z_50⟩ := hB
  rw [ht] at hI
  have k_51 : f_19 (gr g mo 5) = .inl (gc g 1, 9060, .inr (.inl u)) := Kp.at kc_22 i_mo_5 (by decide) k_9
  have k_52 : f_19 (gr g mo 7) = .inl (gc g 1, 1812, .inr (.inl im)) := Kp.at kc_22 i_mo_7 (by decide) k_10
  have k_53 : f_19 (gr g mo 8) = .inl (gc g 3, 2, .inl kt) := Kp.at kc_22 i_mo_8 (by decide) k_11
  have k_54 : f_19 (gr g mo 3) = .inl (gc g 0, 3, .inl tm) := Kp.at kc_22 i_mo_3 (by decide) k_12
  have k_55 : f_19 (gr g x1 0) = .inr (9, [.int a0, .int a1, .int a2]) := Kp.at kc_22 i_x1_0 (by decide) k_13
  have k_56 : f_19 x1 = .inr (11, [.ref (gr g x1 0), .ref (gr g x1 1), .ref (gr g x1 2), .ref (gr g x1 3), .ref (gr g x1 4), .ref (gr g x1 5), .ref (gr g x1 6), .ref (gr g x1 7), .ref (gr g x1 8), .ref (gr g x1 9), .ref (gr g x1 10), .int x_2]) := Kp.at kc_22 i_x (by decide) k_14
  have k_41 : f_19 mo = .inr (12, [.int w0_23, .int w1_24, .ref (gr g mo 2), .ref (gr g mo 3), .ref (gr g mo 4), .ref (gr g mo 5), .ref (gr g mo 6), .ref (gr g mo 7), .ref (gr g mo 8), .ref (gr g mo 9), .int w10_25, .ref (gr g mo 11), .int w12_26, .int w13_27, .int w14_28, .int w15_29, .long w16_30, .int w17_31, .int w18_32, .ref (gr g mo 19), .ref (gr g mo 20), .ref (gr g mo 21), .ref (gr g mo 22), .int w23_33, .long w24_34, .long w25_35, .long w26_36]) := k_41
  have z_42 : 0 ≤ w10_25.toInt ∧ w10_25.toInt ≤ 10 := z_42
  have z_43 : 0 ≤ w12_26.toInt ∧ w12_26.toInt ≤ 200 := z_43
  have z_44 : 0 ≤ w23_33.toInt ∧ w23_33.toInt ≤ 8 := z_44
  have z_46 : RowOK q1_37 := z_46
  have d_57 := rk_hd z_46
  have z_50 : UIq w10_25 u1_38 im1_39 ik1_40 := z_50
  have kp_58 := Kp.call kp_15 kc_22 (by decide)
  generalize H1 = H at hI hS ⊢
  refine W.widen (k := 786) (n := 20946) (Nat.le_of_ble_eq_true rfl) (Nat.le_of_ble_eq_true rfl) ?_
  refine lv_pop hx hb dL_law_1074 rfl ?_
  refine lv_goto (tgt := 1200) hx hb dL_law_1075 (by decide) ?_
  exact kk _ _ _ _ hI hS ⟨w0_23, w1_24, w10_25, w12_26, w13_27, w14_28, w15_29, w16_30, w17_31, w18_32, w23_33, w24_34, w25_35, w26_36, q1_37, u1_38, im1_39, ik1_40, tm, a0, a1, a2, k_41, (by omega), (by omega), (by omega), k_45, k_47, k_48, k_49, k_54, z_46, z_50, k_55, he0, he1, he2⟩ hl
theorem tw_1288 : q_g (.methodLink RL 149 yX11_least) := ⟨(List.mem_append_right _ (List.mem_of_getElem? (i := 1038) (by decide +kernel))), good_of_word (by decide +kernel)⟩
theorem tw_1289 : q_g (.instanceMethod yX11_least) := ⟨(List.mem_append_right _ (List.mem_of_getElem? (i := 1039) (by decide +kernel))), good_of_word (by decide +kernel)⟩
theorem tw_1290 : q_g (.selects RX11 yX11_least yX11_least) := ⟨(List.mem_append_right _ (List.mem_of_getElem? (i := 1040) (by decide +kernel))), good_of_word (by decide +kernel)⟩
theorem tw_1291 : q_g (.methodLink RL 152 yX12_least) := ⟨(List.mem_append_right _ (List.mem_of_getElem? (i := 1520) (by decide +kernel))), good_of_word (by decide +kernel)⟩
theorem tw_1292 : q_g (.instanceMethod yX12_least) := ⟨(List.mem_append_right _ (List.mem_of_getElem? (i := 1521) (by decide +kernel))), good_of_word (by decide +kernel)⟩
theorem tw_1293 : q_g (.selects RX12 yX12_least yX12_least) := ⟨(List.mem_append_right _ (List.mem_of_getElem? (i := 1522) (by decide +kernel))), good_of_word (by decide +kernel)⟩
set_option maxHeartbeats 4000000 in
set_option maxRecDepth 100000 in
theorem law_least {p : Program} {l : Launch} {e : Env} {s : State} {m : MethodId} {below : List Frame} {meth : Method} {c : Code} {dC : Nat → ClassId} {dI : Nat → Nat → Nat} {g : kG} {A : Nat → Prop} {b L : Nat} {xs : Nat → Int32} {x1 mo : Nat} (C0 : lw_At p s m meth c b L xs) (hL : L ≤ 3072) (hbA : ¬ A b) (hG : kWf g) (hK : va_K (dC, dI) vwCl (gty g) s) (hE : kE g A s) (i_x : ik g 11 x1) (i_m : ik g 12 mo) {n : Nat} (hn : 6 * n + 6 ≤ L) {f : Nat → va_E} {H : Heap} {locs : List Loc} {ls : Array Slot} (hI : Iv dC dI g A f H) (hS : va_S A s.heap H locs) (hLI : LI g f x1 mo) (hl : lv_has ls 4 [(0, .ref b), (1, .ref x1), (2, .ref mo), (3, .int (nI (6 * n)))]) (kk : ∀ (f : Nat → va_E) (H : Heap) (locs : List Loc) (ls : Array Slot), Iv dC dI g A f H → va_S A s.heap H locs → LI g f x1 mo → lv_has ls 4 [(0, .ref b), (1, .ref x1), (2, .ref mo), (3, .int (nI (6 * n)))] → W p l e room_1 s m #[Value.ref b] below meth c H locs 786 20946 (lw_Z below #[Value.ref b] s) (F0 m 1200 ls [])) : W p l e room_1 s m #[Value.ref b] below meth c H locs 786 20946 (lw_Z below #[Value.ref b] s) (F0 m 1078 ls []) := by
  obtain ⟨hx, hb, hr, hml, hown, hts, hX, hbl, hlocks, hgv⟩ := id C0
  have hown : s.vm.findClass RL = some m.cls := hown
  obtain ⟨z0, z1, z10, z12, z13, z14, z15, z16, z17, z18, z23, z24, z25, z26, q, u, im, kt, tm, a0, a1, a2, hmo, hb0, hb1, hb2, hcq, hcu, hci, hck, hct, hok, hui, hca, he0, he1, he2⟩ := hLI
  have hk0 : Kp g [0, 1, 2, 3, 4, 5, 6, 7, 8, 9, 10, 11, 12, 20, 21, 22, 23, 24, 25, 26, 27, 28, 30, 31, 32, 33, 34, 35, 36, 37, 38, 39, 40, 41, 42] f f := Kp.rf
  have i_mo_4 := kw_12_4 hG i_m
  have i_mo_5 := kw_12_5 hG i_m
  have i_mo_7 := kw_12_7 hG i_m
  have i_mo_8 := kw_12_8 hG i_m
  have i_mo_3 := kw_12_3 hG i_m
  have i_x1_0 := kw_11_0 hG i_x
  refine lv_aload_n hx hb dL_law_1078 rfl (lv_at hl 1 rfl) ?_
  refine lv_aload_n hx hb dL_law_1079 rfl (lv_at hl 0 rfl) ?_
  refine lv_iload_n hx hb dL_law_1080 rfl (lv_at hl 3 rfl) ?_
  refine lv_iconst (v := 1) hx hb dL_law_1081 (by decide) ?_
  refine lv_iadd hx hb dL_law_1082 ?_
  refine k_topi (y := nI (6 * n + 1)) ((nI_add (6 * n) 1).trans (congrArg nI (by omega))) ?_
  refine va_sld hx hb hX hbl hbA hS (vp_in_nI (by omega) (by omega)) dL_law_1083 ?_
  refine k_topi (y := xs (6 * n + 1)) (congrArg xs (nI_clamp (by omega))) ?_
  refine lv_aload_n hx hb dL_law_1084 rfl (lv_at hl 0 rfl) ?_
  refine lv_iload_n hx hb dL_law_1085 rfl (lv_at hl 3 rfl) ?_
  refine lv_iconst (v := 2) hx hb dL_law_1086 (by decide) ?_
  refine lv_iadd hx hb dL_law_1087 ?_
  refine k_topi (y := nI (6 * n + 2)) ((nI_add (6 * n) 2).trans (congrArg nI (by omega))) ?_
  refine va_sld hx hb hX hbl hbA hS (vp_in_nI (by omega) (by omega)) dL_law_1088 ?_
  refine k_topi (y := xs (6 * n + 2)) (congrArg xs (nI_clamp (by omega))) ?_
  refine lv_aload_n hx hb dL_law_1089 rfl (lv_at hl 0 rfl) ?_
  refine lv_iload_n hx hb dL_law_1090 rfl (lv_at hl 3 rfl) ?_
  refine lv_iconst (v := 3) hx hb dL_law_1091 (by decide) ?_
  refine lv_iadd hx hb dL_law_1092 ?_
  refine k_topi (y := nI (6 * n + 3)) ((nI_add (6 * n) 3).trans (congrArg nI (by omega))) ?_
  refine va_sld hx hb hX hbl hbA hS (vp_in_nI (by omega) (by omega)) dL_law_1093 ?_
  refine k_topi (y := xs (6 * n + 3)) (congrArg xs (nI_clamp (by omega))) ?_
  obtain ⟨x_2, k_1⟩ := op_11 hI i_x
  refine va_calli (va_runV (As := [.int (xs (6 * n + 1)), .int (xs (6 * n + 2)), .int (xs (6 * n + 3))]) (rest := []) ⟨hx, hb, hml, hown, hts⟩ (c_X11_least l dC dI g A hG f x1 (xs (6 * n + 1)) (xs (6 * n + 2)) (xs (6 * n + 3)) i_x) (cwV 3 hts (gi_V tb_c_X11_least tw_1288.1 tw_1289.1 tw_1290.1 tw_56.1) rfl rfl rfl (by decide +kernel) ⟨Nat.le_of_ble_eq_true rfl, Nat.le_of_ble_eq_true rfl⟩) ⟨fun a U g mk q => ⟨q.1, q.2.calling rfl rfl⟩, k_recv hK hI i_x.1 k_1 (ci := 11) rfl, fun U hU hW => ⟨rfl, kIn.of hI hK hE hS hU hW⟩⟩ rfl rfl hl.1 rfl (lv_room (Nat.le_of_ble_eq_true rfl)) dL_law_1094 ⟨Nat.le_of_ble_eq_true rfl, Nat.le_of_ble_eq_true rfl⟩) hS (fun q _ h => h) (fun q h => h) (fun r_5 u9 t H1 locs ht hvm w_4 hB hz1 hk1 hS => ?_)
  obtain ⟨f_3, hI, kc_6⟩ := hB
  rw [ht] at hI
  have k_7 : f_3 mo = .inr (12, [.int z0, .int z1, .ref (gr g mo 2), .ref (gr g mo 3), .ref (gr g mo 4), .ref (gr g mo 5), .ref (gr g mo 6), .ref (gr g mo 7), .ref (gr g mo 8), .ref (gr g mo 9), .int z10, .ref (gr g mo 11), .int z12, .int z13, .int z14, .int z15, .long z16, .int z17, .int z18, .ref (gr g mo 19), .ref (gr g mo 20), .ref (gr g mo 21), .ref (gr g mo 22), .int z23, .long z24, .long z25, .long z26]) := Kp.at kc_6 i_m (by decide) hmo
  have k_8 : f_3 (gr g mo 4) = .inl (gc g 1, 906, .inr (.inl q)) := Kp.at kc_6 i_mo_4 (by decide) hcq
  have k_9 : f_3 (gr g mo 5) = .inl (gc g 1, 9060, .inr (.inl u)) := Kp.at kc_6 i_mo_5 (by decide) hcu
  have k_10 : f_3 (gr g mo 7) = .inl (gc g 1, 1812, .inr (.inl im)) := Kp.at kc_6 i_mo_7 (by decide) hci
  have k_11 : f_3 (gr g mo 8) = .inl (gc g 3, 2, .inl kt) := Kp.at kc_6 i_mo_8 (by decide) hck
  have k_12 : f_3 (gr g mo 3) = .inl (gc g 0, 3, .inl tm) := Kp.at kc_6 i_mo_3 (by decide) hct
  have k_13 : f_3 (gr g x1 0) = .inr (9, [.int a0, .int a1, .int a2]) := Kp.at kc_6 i_x1_0 (by decide) hca
  have k_14 : f_3 x1 = .inr (11, [.ref (gr g x1 0), .ref (gr g x1 1), .ref (gr g x1 2), .ref (gr g x1 3), .ref (gr g x1 4), .ref (gr g x1 5), .ref (gr g x1 6), .ref (gr g x1 7), .ref (gr g x1 8), .ref (gr g x1 9), .ref (gr g x1 10), .int x_2]) := Kp.at kc_6 i_x (by decide) k_1
  have kp_15 := Kp.call hk0 kc_6 (by decide)
  generalize H1 = H at hI hS ⊢
  refine W.widen (k := 786) (n := 20946) (Nat.le_of_ble_eq_true rfl) (Nat.le_of_ble_eq_true rfl) ?_
  refine lv_pop hx hb dL_law_1097 rfl ?_
  refine lv_aload_n hx hb dL_law_1098 rfl (lv_at hl 2 rfl) ?_
  refine lv_aload_n hx hb dL_law_1099 rfl (lv_at hl 0 rfl) ?_
  refine lv_iload_n hx hb dL_law_1100 rfl (lv_at hl 3 rfl) ?_
  refine lv_iconst (v := 1) hx hb dL_law_1101 (by decide) ?_
  refine lv_iadd hx hb dL_law_1102 ?_
  refine k_topi (y := nI (6 * n + 1)) ((nI_add (6 * n) 1).trans (congrArg nI (by omega))) ?_
  refine va_sld hx hb hX hbl hbA hS (vp_in_nI (by omega) (by omega)) dL_law_1103 ?_
  refine k_topi (y := xs (6 * n + 1)) (congrArg xs (nI_clamp (by omega))) ?_
  refine lv_aload_n hx hb dL_law_1104 rfl (lv_at hl 0 rfl) ?_
  refine lv_iload_n hx hb dL_law_1105 rfl (lv_at hl 3 rfl) ?_
  refine lv_iconst (v := 2) hx hb dL_law_1106 (by decide) ?_
  refine lv_iadd hx hb dL_law_1107 ?_
  refine k_topi (y := nI (6 * n + 2)) ((nI_add (6 * n) 2).trans (congrArg nI (by omega))) ?_
  refine va_sld hx hb hX hbl hbA hS (vp_in_nI (by omega) (by omega)) dL_law_1108 ?_
  refine k_topi (y := xs (6 * n + 2)) (congrArg xs (nI_clamp (by omega))) ?_
  refine lv_aload_n hx hb dL_law_1109 rfl (lv_at hl 0 rfl) ?_
  refine lv_iload_n hx hb dL_law_1110 rfl (lv_at hl 3 rfl) ?_
  refine lv_iconst (v := 3) hx hb dL_law_1111 (by decide) ?_
  refine lv_iadd hx hb dL_law_1112 ?_
  refine k_topi (y := nI (6 * n + 3)) ((nI_add (6 * n) 3).trans (congrArg nI (by omega))) ?_
  refine va_sld hx hb hX hbl hbA hS (vp_in_nI (by omega) (by omega)) dL_law_1113 ?_
  refine k_topi (y := xs (6 * n + 3)) (congrArg xs (nI_clamp (by omega))) ?_
  have i_16 := kw_12_6 hG i_m
  obtain ⟨q_18, k_17⟩ := op_34 hI i_16
  refine va_calli (va_runV (As := [.int (xs (6 * n + 1)), .int (xs (6 * n + 2)), .int (xs (6 * n + 3))]) (rest := []) ⟨hx, hb, hml, hown, hts⟩ (c_X12_least l dC dI g A hG f_3 mo (xs (6 * n + 1)) (xs (6 * n + 2)) (xs (6 * n + 3)) z0 z1 z10 z12 z13 z14 z15 z16 z17 z18 z23 z24 z25 z26 q u im kt q_18 i_m k_7 (by omega) (by omega) (by omega) k_8 hok k_9 k_10 k_11 k_17 hui) (cwV 3 hts (gi_V tb_c_X12_least tw_1291.1 tw_1292.1 tw_1293.1 tw_728.1) rfl rfl rfl (by decide +kernel) ⟨Nat.le_of_ble_eq_true rfl, Nat.le_of_ble_eq_true rfl⟩) ⟨fun a U g mk q => ⟨q.1, q.2.calling rfl rfl⟩, k_recv hK hI i_m.1 k_7 (ci := 12) rfl, fun U hU hW => ⟨rfl, kIn.of hI hK hE hS hU hW⟩⟩ rfl rfl hl.1 rfl (lv_room (Nat.le_of_ble_eq_true rfl)) dL_law_1114 ⟨Nat.le_of_ble_eq_true rfl, Nat.le_of_ble_eq_true rfl⟩) hS (fun q _ h => h) (fun q h => h) (fun r_21 u9 t H1 locs ht hvm w_20 hB hz1 hk1 hS => ?_)
  obtain ⟨f_19, hI, kc_22, w0_23, w1_24, w10_25, w12_26, w13_27, w14_28, w15_29, w16_30, w17_31, w18_32, w23_33, w24_34, w25_35, w26_36, q1_37, u1_38, im1_39, ik1_40, k_41, z_42, z_43, z_44, k_45, z_46, k_47, k_48, k_49, z_50⟩ := hB
  rw [ht] at hI
  have k_51 : f_19 (gr g mo 5) = .inl (gc g 1, 9060, .inr (.inl u)) := Kp.at kc_22 i_mo_5 (by decide) k_9
  have k_52 : f_19 (gr g mo 7) = .inl (gc g 1, 1812, .inr (.inl im)) := Kp.at kc_22 i_mo_7 (by decide) k_10
  have k_53 : f_19 (gr g mo 8) = .inl (gc g 3, 2, .inl kt) := Kp.at kc_22 i_mo_8 (by decide) k_11
  have k_54 : f_19 (gr g mo 3) = .inl (gc g 0, 3, .inl tm) := Kp.at kc_22 i_mo_3 (by decide) k_12
  have k_55 : f_19 (gr g x1 0) = .inr (9, [.int a0, .int a1, .int a2]) := Kp.at kc_22 i_x1_0 (by decide) k_13
  have k_56 : f_19 x1 = .inr (11, [.ref (gr g x1 0), .ref (gr g x1 1), .ref (gr g x1 2), .ref (gr g x1 3), .ref (gr g x1 4), .ref (gr g x1 5), .ref (gr g x1 6), .ref (gr g x1 7), .ref (gr g x1 8), .ref (gr g x1 9), .ref (gr g x1 10), .int x_2]) := Kp.at kc_22 i_x (by decide) k_14
  have k_41 : f_19 mo = .inr (12, [.int w0_23, .int w1_24, .ref (gr g mo 2), .ref (gr g mo 3), .ref (gr g mo 4), .ref (gr g mo 5), .ref (gr g mo 6), .ref (gr g mo 7), .ref (gr g mo 8), .ref (gr g mo 9), .int w10_25, .ref (gr g mo 11), .int w12_26, .int w13_27, .int w14_28, .int w15_29, .long w16_30, .int w17_31, .int w18_32, .ref (gr g mo 19), .ref (gr g mo 20), .ref (gr g mo 21), .ref (gr g mo 22), .int w23_33, .long w24_34, .long w25_35, .long w26_36]) := k_41
  have z_42 : 0 ≤ w10_25.toInt ∧ w10_25.toInt ≤ 10 := z_42
  have z_43 : 0 ≤ w12_26.toInt ∧ w12_26.toInt ≤ 200 := z_43
  have z_44 : 0 ≤ w23_33.toInt ∧ w23_33.toInt ≤ 8 := z_44
  have z_46 : RowOK q1_37 := z_46
  have d_57 := rk_hd z_46
  have z_50 : UIq w10_25 u1_38 im1_39 ik1_40 := z_50
  have kp_58 := Kp.call kp_15 kc_22 (by decide)
  generalize H1 = H at hI hS ⊢
  refine W.widen (k := 786) (n := 20946) (Nat.le_of_ble_eq_true rfl) (Nat.le_of_ble_eq_true rfl) ?_
  refine lv_pop hx hb dL_law_1117 rfl ?_
  refine lv_goto (tgt := 1200) hx hb dL_law_1118 (by decide) ?_
  exact kk _ _ _ _ hI hS ⟨w0_23, w1_24, w10_25, w12_26, w13_27, w14_28, w15_29, w16_30, w17_31, w18_32, w23_33, w24_34, w25_35, w26_36, q1_37, u1_38, im1_39, ik1_40, tm, a0, a1, a2, k_41, (by omega), (by omega), (by omega), k_45, k_47, k_48, k_49, k_54, z_46, z_50, k_55, he0, he1, he2⟩ hl
theorem tw_1294 : q_g (.methodLink RL 153 yX11_would) := ⟨(List.mem_append_right _ (List.mem_of_getElem? (i := 1046) (by decide +kernel))), good_of_word (by decide +kernel)⟩
theorem tw_1295 : q_g (.instanceMethod yX11_would) := ⟨(List.mem_append_right _ (List.mem_of_getElem? (i := 1047) (by decide +kernel))), good_of_word (by decide +kernel)⟩
theorem tw_1296 : q_g (.selects RX11 yX11_would yX11_would) := ⟨(List.mem_append_right _ (List.mem_of_getElem? (i := 1048) (by decide +kernel))), good_of_word (by decide +kernel)⟩
theorem tw_1297 : q_g (.methodLink RL 156 yX12_would) := ⟨(List.mem_append_right _ (List.mem_of_getElem? (i := 1528) (by decide +kernel))), good_of_word (by decide +kernel)⟩
theorem tw_1298 : q_g (.instanceMethod yX12_would) := ⟨(List.mem_append_right _ (List.mem_of_getElem? (i := 1529) (by decide +kernel))), good_of_word (by decide +kernel)⟩
theorem tw_1299 : q_g (.selects RX12 yX12_would yX12_would) := ⟨(List.mem_append_right _ (List.mem_of_getElem? (i := 1530) (by decide +kernel))), good_of_word (by decide +kernel)⟩
set_option maxHeartbeats 4000000 in
set_option maxRecDepth 100000 in
theorem law_would {p : Program} {l : Launch} {e : Env} {s : State} {m : MethodId} {below : List Frame} {meth : Method} {c : Code} {dC : Nat → ClassId} {dI : Nat → Nat → Nat} {g : kG} {A : Nat → Prop} {b L : Nat} {xs : Nat → Int32} {x1 mo : Nat} (C0 : lw_At p s m meth c b L xs) (hL : L ≤ 3072) (hbA : ¬ A b) (hG : kWf g) (hK : va_K (dC, dI) vwCl (gty g) s) (hE : kE g A s) (i_x : ik g 11 x1) (i_m : ik g 12 mo) {n : Nat} (hn : 6 * n + 6 ≤ L) {f : Nat → va_E} {H : Heap} {locs : List Loc} {ls : Array Slot} (hI : Iv dC dI g A f H) (hS : va_S A s.heap H locs) (hLI : LI g f x1 mo) (hl : lv_has ls 4 [(0, .ref b), (1, .ref x1), (2, .ref mo), (3, .int (nI (6 * n)))]) (kk : ∀ (f : Nat → va_E) (H : Heap) (locs : List Loc) (ls : Array Slot), Iv dC dI g A f H → va_S A s.heap H locs → LI g f x1 mo → lv_has ls 4 [(0, .ref b), (1, .ref x1), (2, .ref mo), (3, .int (nI (6 * n)))] → W p l e room_1 s m #[Value.ref b] below meth c H locs 786 20946 (lw_Z below #[Value.ref b] s) (F0 m 1200 ls [])) : W p l e room_1 s m #[Value.ref b] below meth c H locs 786 20946 (lw_Z below #[Value.ref b] s) (F0 m 1121 ls []) := by
  obtain ⟨hx, hb, hr, hml, hown, hts, hX, hbl, hlocks, hgv⟩ := id C0
  have hown : s.vm.findClass RL = some m.cls := hown
  obtain ⟨z0, z1, z10, z12, z13, z14, z15, z16, z17, z18, z23, z24, z25, z26, q, u, im, kt, tm, a0, a1, a2, hmo, hb0, hb1, hb2, hcq, hcu, hci, hck, hct, hok, hui, hca, he0, he1, he2⟩ := hLI
  have hk0 : Kp g [0, 1, 2, 3, 4, 5, 6, 7, 8, 9, 10, 11, 12, 20, 21, 22, 23, 24, 25, 26, 27, 28, 30, 31, 32, 33, 34, 35, 36, 37, 38, 39, 40, 41, 42] f f := Kp.rf
  have i_mo_4 := kw_12_4 hG i_m
  have i_mo_5 := kw_12_5 hG i_m
  have i_mo_7 := kw_12_7 hG i_m
  have i_mo_8 := kw_12_8 hG i_m
  have i_mo_3 := kw_12_3 hG i_m
  have i_x1_0 := kw_11_0 hG i_x
  refine lv_aload_n hx hb dL_law_1121 rfl (lv_at hl 1 rfl) ?_
  refine lv_aload_n hx hb dL_law_1122 rfl (lv_at hl 0 rfl) ?_
  refine lv_iload_n hx hb dL_law_1123 rfl (lv_at hl 3 rfl) ?_
  refine lv_iconst (v := 1) hx hb dL_law_1124 (by decide) ?_
  refine lv_iadd hx hb dL_law_1125 ?_
  refine k_topi (y := nI (6 * n + 1)) ((nI_add (6 * n) 1).trans (congrArg nI (by omega))) ?_
  refine va_sld hx hb hX hbl hbA hS (vp_in_nI (by omega) (by omega)) dL_law_1126 ?_
  refine k_topi (y := xs (6 * n + 1)) (congrArg xs (nI_clamp (by omega))) ?_
  refine lv_aload_n hx hb dL_law_1127 rfl (lv_at hl 0 rfl) ?_
  refine lv_iload_n hx hb dL_law_1128 rfl (lv_at hl 3 rfl) ?_
  refine lv_iconst (v := 2) hx hb dL_law_1129 (by decide) ?_
  refine lv_iadd hx hb dL_law_1130 ?_
  refine k_topi (y := nI (6 * n + 2)) ((nI_add (6 * n) 2).trans (congrArg nI (by omega))) ?_
  refine va_sld hx hb hX hbl hbA hS (vp_in_nI (by omega) (by omega)) dL_law_1131 ?_
  refine k_topi (y := xs (6 * n + 2)) (congrArg xs (nI_clamp (by omega))) ?_
  refine lv_aload_n hx hb dL_law_1132 rfl (lv_at hl 0 rfl) ?_
  refine lv_iload_n hx hb dL_law_1133 rfl (lv_at hl 3 rfl) ?_
  refine lv_iconst (v := 3) hx hb dL_law_1134 (by decide) ?_
  refine lv_iadd hx hb dL_law_1135 ?_
  refine k_topi (y := nI (6 * n + 3)) ((nI_add (6 * n) 3).trans (congrArg nI (by omega))) ?_
  refine va_sld hx hb hX hbl hbA hS (vp_in_nI (by omega) (by omega)) dL_law_1136 ?_
  refine k_topi (y := xs (6 * n + 3)) (congrArg xs (nI_clamp (by omega))) ?_
  obtain ⟨x_2, k_1⟩ := op_11 hI i_x
  refine va_calli (va_runV (As := [.int (xs (6 * n + 1)), .int (xs (6 * n + 2)), .int (xs (6 * n + 3))]) (rest := []) ⟨hx, hb, hml, hown, hts⟩ (c_X11_would l dC dI g A hG f x1 (xs (6 * n + 1)) (xs (6 * n + 2)) (xs (6 * n + 3)) i_x) (cwV 3 hts (gi_V tb_c_X11_would tw_1294.1 tw_1295.1 tw_1296.1 tw_56.1) rfl rfl rfl (by decide +kernel) ⟨Nat.le_of_ble_eq_true rfl, Nat.le_of_ble_eq_true rfl⟩) ⟨fun a U g mk q => ⟨q.1, q.2.calling rfl rfl⟩, k_recv hK hI i_x.1 k_1 (ci := 11) rfl, fun U hU hW => ⟨rfl, kIn.of hI hK hE hS hU hW⟩⟩ rfl rfl hl.1 rfl (lv_room (Nat.le_of_ble_eq_true rfl)) dL_law_1137 ⟨Nat.le_of_ble_eq_true rfl, Nat.le_of_ble_eq_true rfl⟩) hS (fun q _ h => h) (fun q h => h) (fun r_5 u9 t H1 locs ht hvm w_4 hB hz1 hk1 hS => ?_)
  obtain ⟨f_3, hI, kc_6⟩ := hB
  rw [ht] at hI
  have k_7 : f_3 mo = .inr (12, [.int z0, .int z1, .ref (gr g mo 2), .ref (gr g mo 3), .ref (gr g mo 4), .ref (gr g mo 5), .ref (gr g mo 6), .ref (gr g mo 7), .ref (gr g mo 8), .ref (gr g mo 9), .int z10, .ref (gr g mo 11), .int z12, .int z13, .int z14, .int z15, .long z16, .int z17, .int z18, .ref (gr g mo 19), .ref (gr g mo 20), .ref (gr g mo 21), .ref (gr g mo 22), .int z23, .long z24, .long z25, .long z26]) := Kp.at kc_6 i_m (by decide) hmo
  have k_8 : f_3 (gr g mo 4) = .inl (gc g 1, 906, .inr (.inl q)) := Kp.at kc_6 i_mo_4 (by decide) hcq
  have k_9 : f_3 (gr g mo 5) = .inl (gc g 1, 9060, .inr (.inl u)) := Kp.at kc_6 i_mo_5 (by decide) hcu
  have k_10 : f_3 (gr g mo 7) = .inl (gc g 1, 1812, .inr (.inl im)) := Kp.at kc_6 i_mo_7 (by decide) hci
  have k_11 : f_3 (gr g mo 8) = .inl (gc g 3, 2, .inl kt) := Kp.at kc_6 i_mo_8 (by decide) hck
  have k_12 : f_3 (gr g mo 3) = .inl (gc g 0, 3, .inl tm) := Kp.at kc_6 i_mo_3 (by decide) hct
  have k_13 : f_3 (gr g x1 0) = .inr (9, [.int a0, .int a1, .int a2]) := Kp.at kc_6 i_x1_0 (by decide) hca
  have k_14 : f_3 x1 = .inr (11, [.ref (gr g x1 0), .ref (gr g x1 1), .ref (gr g x1 2), .ref (gr g x1 3), .ref (gr g x1 4), .ref (gr g x1 5), .ref (gr g x1 6), .ref (gr g x1 7), .ref (gr g x1 8), .ref (gr g x1 9), .ref (gr g x1 10), .int x_2]) := Kp.at kc_6 i_x (by decide) k_1
  have kp_15 := Kp.call hk0 kc_6 (by decide)
  generalize H1 = H at hI hS ⊢
  refine W.widen (k := 786) (n := 20946) (Nat.le_of_ble_eq_true rfl) (Nat.le_of_ble_eq_true rfl) ?_
  refine lv_pop hx hb dL_law_1140 rfl ?_
  refine lv_aload_n hx hb dL_law_1141 rfl (lv_at hl 2 rfl) ?_
  refine lv_aload_n hx hb dL_law_1142 rfl (lv_at hl 0 rfl) ?_
  refine lv_iload_n hx hb dL_law_1143 rfl (lv_at hl 3 rfl) ?_
  refine lv_iconst (v := 1) hx hb dL_law_1144 (by decide) ?_
  refine lv_iadd hx hb dL_law_1145 ?_
  refine k_topi (y := nI (6 * n + 1)) ((nI_add (6 * n) 1).trans (congrArg nI (by omega))) ?_
  refine va_sld hx hb hX hbl hbA hS (vp_in_nI (by omega) (by omega)) dL_law_1146 ?_
  refine k_topi (y := xs (6 * n + 1)) (congrArg xs (nI_clamp (by omega))) ?_
  refine lv_aload_n hx hb dL_law_1147 rfl (lv_at hl 0 rfl) ?_
  refine lv_iload_n hx hb dL_law_1148 rfl (lv_at hl 3 rfl) ?_
  refine lv_iconst (v := 2) hx hb dL_law_1149 (by decide) ?_
  refine lv_iadd hx hb dL_law_1150 ?_
  refine k_topi (y := nI (6 * n + 2)) ((nI_add (6 * n) 2).trans (congrArg nI (by omega))) ?_
  refine va_sld hx hb hX hbl hbA hS (vp_in_nI (by omega) (by omega)) dL_law_1151 ?_
  refine k_topi (y := xs (6 * n + 2)) (congrArg xs (nI_clamp (by omega))) ?_
  refine lv_aload_n hx hb dL_law_1152 rfl (lv_at hl 0 rfl) ?_
  refine lv_iload_n hx hb dL_law_1153 rfl (lv_at hl 3 rfl) ?_
  refine lv_iconst (v := 3) hx hb dL_law_1154 (by decide) ?_
  refine lv_iadd hx hb dL_law_1155 ?_
  refine k_topi (y := nI (6 * n + 3)) ((nI_add (6 * n) 3).trans (congrArg nI (by omega))) ?_
  refine va_sld hx hb hX hbl hbA hS (vp_in_nI (by omega) (by omega)) dL_law_1156 ?_
  refine k_topi (y := xs (6 * n + 3)) (congrArg xs (nI_clamp (by omega))) ?_
  have i_16 := kw_12_6 hG i_m
  obtain ⟨q_18, k_17⟩ := op_34 hI i_16
  refine va_calli (va_runV (As := [.int (xs (6 * n + 1)), .int (xs (6 * n + 2)), .int (xs (6 * n + 3))]) (rest := []) ⟨hx, hb, hml, hown, hts⟩ (c_X12_would l dC dI g A hG f_3 mo (xs (6 * n + 1)) (xs (6 * n + 2)) (xs (6 * n + 3)) z0 z1 z10 z12 z13 z14 z15 z16 z17 z18 z23 z24 z25 z26 q u im kt q_18 i_m k_7 (by omega) (by omega) (by omega) k_8 hok k_9 k_10 k_11 k_17 hui) (cwV 3 hts (gi_V tb_c_X12_would tw_1297.1 tw_1298.1 tw_1299.1 tw_728.1) rfl rfl rfl (by decide +kernel) ⟨Nat.le_of_ble_eq_true rfl, Nat.le_of_ble_eq_true rfl⟩) ⟨fun a U g mk q => ⟨q.1, q.2.calling rfl rfl⟩, k_recv hK hI i_m.1 k_7 (ci := 12) rfl, fun U hU hW => ⟨rfl, kIn.of hI hK hE hS hU hW⟩⟩ rfl rfl hl.1 rfl (lv_room (Nat.le_of_ble_eq_true rfl)) dL_law_1157 ⟨Nat.le_of_ble_eq_true rfl, Nat.le_of_ble_eq_true rfl⟩) hS (fun q _ h => h) (fun q h => h) (fun r_21 u9 t H1 locs ht hvm w_20 hB hz1 hk1 hS => ?_)
  obtain ⟨f_19, hI, kc_22, w0_23, w1_24, w10_25, w12_26, w13_27, w14_28, w15_29, w16_30, w17_31, w18_32, w23_33, w24_34, w25_35, w26_36, q1_37, u1_38, im1_39, ik1_40, k_41, z_42, z_43, z_44, k_45, z_46, k_47, k_48, k_49, z_50⟩ := hB
  rw [ht] at hI
  have k_51 : f_19 (gr g mo 5) = .inl (gc g 1, 9060, .inr (.inl u)) := Kp.at kc_22 i_mo_5 (by decide) k_9
  have k_52 : f_19 (gr g mo 7) = .inl (gc g 1, 1812, .inr (.inl im)) := Kp.at kc_22 i_mo_7 (by decide) k_10
  have k_53 : f_19 (gr g mo 8) = .inl (gc g 3, 2, .inl kt) := Kp.at kc_22 i_mo_8 (by decide) k_11
  have k_54 : f_19 (gr g mo 3) = .inl (gc g 0, 3, .inl tm) := Kp.at kc_22 i_mo_3 (by decide) k_12
  have k_55 : f_19 (gr g x1 0) = .inr (9, [.int a0, .int a1, .int a2]) := Kp.at kc_22 i_x1_0 (by decide) k_13
  have k_56 : f_19 x1 = .inr (11, [.ref (gr g x1 0), .ref (gr g x1 1), .ref (gr g x1 2), .ref (gr g x1 3), .ref (gr g x1 4), .ref (gr g x1 5), .ref (gr g x1 6), .ref (gr g x1 7), .ref (gr g x1 8), .ref (gr g x1 9), .ref (gr g x1 10), .int x_2]) := Kp.at kc_22 i_x (by decide) k_14
  have k_41 : f_19 mo = .inr (12, [.int w0_23, .int w1_24, .ref (gr g mo 2), .ref (gr g mo 3), .ref (gr g mo 4), .ref (gr g mo 5), .ref (gr g mo 6), .ref (gr g mo 7), .ref (gr g mo 8), .ref (gr g mo 9), .int w10_25, .ref (gr g mo 11), .int w12_26, .int w13_27, .int w14_28, .int w15_29, .long w16_30, .int w17_31, .int w18_32, .ref (gr g mo 19), .ref (gr g mo 20), .ref (gr g mo 21), .ref (gr g mo 22), .int w23_33, .long w24_34, .long w25_35, .long w26_36]) := k_41
  have z_42 : 0 ≤ w10_25.toInt ∧ w10_25.toInt ≤ 10 := z_42
  have z_43 : 0 ≤ w12_26.toInt ∧ w12_26.toInt ≤ 200 := z_43
  have z_44 : 0 ≤ w23_33.toInt ∧ w23_33.toInt ≤ 8 := z_44
  have z_46 : RowOK q1_37 := z_46
  have d_57 := rk_hd z_46
  have z_50 : UIq w10_25 u1_38 im1_39 ik1_40 := z_50
  have kp_58 := Kp.call kp_15 kc_22 (by decide)
  generalize H1 = H at hI hS ⊢
  refine W.widen (k := 786) (n := 20946) (Nat.le_of_ble_eq_true rfl) (Nat.le_of_ble_eq_true rfl) ?_
  refine lv_pop hx hb dL_law_1160 rfl ?_
  refine lv_goto (tgt := 1200) hx hb dL_law_1161 (by decide) ?_
  exact kk _ _ _ _ hI hS ⟨w0_23, w1_24, w10_25, w12_26, w13_27, w14_28, w15_29, w16_30, w17_31, w18_32, w23_33, w24_34, w25_35, w26_36, q1_37, u1_38, im1_39, ik1_40, tm, a0, a1, a2, k_41, (by omega), (by omega), (by omega), k_45, k_47, k_48, k_49, k_54, z_46, z_50, k_55, he0, he1, he2⟩ hl
theorem tw_1300 : q_g (.methodLink RL 157 yX11_count) := ⟨(List.mem_append_right _ (List.mem_of_getElem? (i := 1065) (by decide +kernel))), good_of_word (by decide +kernel)⟩
theorem tw_1301 : q_g (.instanceMethod yX11_count) := ⟨(List.mem_append_right _ (List.mem_of_getElem? (i := 1066) (by decide +kernel))), good_of_word (by decide +kernel)⟩
theorem tw_1302 : q_g (.selects RX11 yX11_count yX11_count) := ⟨(List.mem_append_right _ (List.mem_of_getElem? (i := 1067) (by decide +kernel))), good_of_word (by decide +kernel)⟩
theorem tw_1303 : q_g (.methodLink RL 160 yX12_count) := ⟨(List.mem_append_right _ (List.mem_of_getElem? (i := 1538) (by decide +kernel))), good_of_word (by decide +kernel)⟩
theorem tw_1304 : q_g (.instanceMethod yX12_count) := ⟨(List.mem_append_right _ (List.mem_of_getElem? (i := 1539) (by decide +kernel))), good_of_word (by decide +kernel)⟩
theorem tw_1305 : q_g (.selects RX12 yX12_count yX12_count) := ⟨(List.mem_append_right _ (List.mem_of_getElem? (i := 1540) (by decide +kernel))), good_of_word (by decide +kernel)⟩
set_option maxHeartbeats 4000000 in
set_option maxRecDepth 100000 in
theorem law_count {p : Program} {l : Launch} {e : Env} {s : State} {m : MethodId} {below : List Frame} {meth : Method} {c : Code} {dC : Nat → ClassId} {dI : Nat → Nat → Nat} {g : kG} {A : Nat → Prop} {b L : Nat} {xs : Nat → Int32} {x1 mo : Nat} (C0 : lw_At p s m meth c b L xs) (hL : L ≤ 3072) (hbA : ¬ A b) (hG : kWf g) (hK : va_K (dC, dI) vwCl (gty g) s) (hE : kE g A s) (i_x : ik g 11 x1) (i_m : ik g 12 mo) {n : Nat} (hn : 6 * n + 6 ≤ L) {f : Nat → va_E} {H : Heap} {locs : List Loc} {ls : Array Slot} (hI : Iv dC dI g A f H) (hS : va_S A s.heap H locs) (hLI : LI g f x1 mo) (hl : lv_has ls 4 [(0, .ref b), (1, .ref x1), (2, .ref mo), (3, .int (nI (6 * n)))]) (kk : ∀ (f : Nat → va_E) (H : Heap) (locs : List Loc) (ls : Array Slot), Iv dC dI g A f H → va_S A s.heap H locs → LI g f x1 mo → lv_has ls 4 [(0, .ref b), (1, .ref x1), (2, .ref mo), (3, .int (nI (6 * n)))] → W p l e room_1 s m #[Value.ref b] below meth c H locs 786 20946 (lw_Z below #[Value.ref b] s) (F0 m 1200 ls [])) : W p l e room_1 s m #[Value.ref b] below meth c H locs 786 20946 (lw_Z below #[Value.ref b] s) (F0 m 1164 ls []) := by
  obtain ⟨hx, hb, hr, hml, hown, hts, hX, hbl, hlocks, hgv⟩ := id C0
  have hown : s.vm.findClass RL = some m.cls := hown
  obtain ⟨z0, z1, z10, z12, z13, z14, z15, z16, z17, z18, z23, z24, z25, z26, q, u, im, kt, tm, a0, a1, a2, hmo, hb0, hb1, hb2, hcq, hcu, hci, hck, hct, hok, hui, hca, he0, he1, he2⟩ := hLI
  have hk0 : Kp g [0, 1, 2, 3, 4, 5, 6, 7, 8, 9, 10, 11, 12, 20, 21, 22, 23, 24, 25, 26, 27, 28, 30, 31, 32, 33, 34, 35, 36, 37, 38, 39, 40, 41, 42] f f := Kp.rf
  have i_mo_4 := kw_12_4 hG i_m
  have i_mo_5 := kw_12_5 hG i_m
  have i_mo_7 := kw_12_7 hG i_m
  have i_mo_8 := kw_12_8 hG i_m
  have i_mo_3 := kw_12_3 hG i_m
  have i_x1_0 := kw_11_0 hG i_x
  refine lv_aload_n hx hb dL_law_1164 rfl (lv_at hl 1 rfl) ?_
  refine lv_aload_n hx hb dL_law_1165 rfl (lv_at hl 0 rfl) ?_
  refine lv_iload_n hx hb dL_law_1166 rfl (lv_at hl 3 rfl) ?_
  refine lv_iconst (v := 1) hx hb dL_law_1167 (by decide) ?_
  refine lv_iadd hx hb dL_law_1168 ?_
  refine k_topi (y := nI (6 * n + 1)) ((nI_add (6 * n) 1).trans (congrArg nI (by omega))) ?_
  refine va_sld hx hb hX hbl hbA hS (vp_in_nI (by omega) (by omega)) dL_law_1169 ?_
  refine k_topi (y := xs (6 * n + 1)) (congrArg xs (nI_clamp (by omega))) ?_
  obtain ⟨x_2, k_1⟩ := op_11 hI i_x
  refine va_calli (va_runV (As := [.int (xs (6 * n + 1))]) (rest := []) ⟨hx, hb, hml, hown, hts⟩ (c_X11_count l dC dI g A hG f x1 (xs (6 * n + 1)) i_x) (cwV 1 hts (gi_V tb_c_X11_count tw_1300.1 tw_1301.1 tw_1302.1 tw_56.1) rfl rfl rfl (by decide +kernel) ⟨Nat.le_of_ble_eq_true rfl, Nat.le_of_ble_eq_true rfl⟩) ⟨fun a U g mk q => ⟨q.1, q.2.calling rfl rfl⟩, k_recv hK hI i_x.1 k_1 (ci := 11) rfl, fun U hU hW => ⟨rfl, kIn.of hI hK hE hS hU hW⟩⟩ rfl rfl hl.1 rfl (lv_room (Nat.le_of_ble_eq_true rfl)) dL_law_1170 ⟨Nat.le_of_ble_eq_true rfl, Nat.le_of_ble_eq_true rfl⟩) hS (fun q _ h => h) (fun q h => h) (fun r_4 u9 t H1 locs ht hvm w_3 hB hz1 hk1 hS => ?_)
  have hI : Iv dC dI g A f t.heap := hB
  rw [ht] at hI
  generalize H1 = H at hI hS ⊢
  refine W.widen (k := 786) (n := 20946) (Nat.le_of_ble_eq_true rfl) (Nat.le_of_ble_eq_true rfl) ?_
  refine lv_pop hx hb dL_law_1173 rfl ?_
  refine lv_aload_n hx hb dL_law_1174 rfl (lv_at hl 2 rfl) ?_
  refine lv_aload_n hx hb dL_law_1175 rfl (lv_at hl 0 rfl) ?_
  refine lv_iload_n hx hb dL_law_1176 rfl (lv_at hl 3 rfl) ?_
  refine lv_iconst (v := 1) hx hb dL_law_1177 (by decide) ?_
  refine lv_iadd hx hb dL_law_1178 ?_
  refine k_topi (y := nI (6 * n + 1)) ((nI_add (6 * n) 1).trans (congrArg nI (by omega))) ?_
  refine va_sld hx hb hX hbl hbA hS (vp_in_nI (by omega) (by omega)) dL_law_1179 ?_
  refine k_topi (y := xs (6 * n + 1)) (congrArg xs (nI_clamp (by omega))) ?_
  refine va_calli (va_runV (As := [.int (xs (6 * n + 1))]) (rest := []) ⟨hx, hb, hml, hown, hts⟩ (c_X12_count l dC dI g A hG f mo (xs (6 * n + 1)) z0 z1 z10 z12 z13 z14 z15 z16 z17 z18 z23 z24 z25 z26 q u im kt i_m hmo (by omega) (by omega) (by omega) hcq hok hcu hci hck hui) (cwV 1 hts (gi_V tb_c_X12_count tw_1303.1 tw_1304.1 tw_1305.1 tw_728.1) rfl rfl rfl (by decide +kernel) ⟨Nat.le_of_ble_eq_true rfl, Nat.le_of_ble_eq_true rfl⟩) ⟨fun a U g mk q => ⟨q.1, q.2.calling rfl rfl⟩, k_recv hK hI i_m.1 hmo (ci := 12) rfl, fun U hU hW => ⟨rfl, kIn.of hI hK hE hS hU hW⟩⟩ rfl rfl hl.1 rfl (lv_room (Nat.le_of_ble_eq_true rfl)) dL_law_1180 ⟨Nat.le_of_ble_eq_true rfl, Nat.le_of_ble_eq_true rfl⟩) hS (fun q _ h => h) (fun q h => h) (fun r_7 u9 t H1 locs ht hvm w_6 hB hz1 hk1 hS => ?_)
  obtain ⟨f_5, hI, kc_8, w0_9, w1_10, w10_11, w12_12, w13_13, w14_14, w15_15, w16_16, w17_17, w18_18, w23_19, w24_20, w25_21, w26_22, q1_23, u1_24, im1_25, ik1_26, k_27, z_28, z_29, z_30, k_31, z_32, k_33, k_34, k_35, z_36⟩ := hB
  rw [ht] at hI
  have k_37 : f_5 (gr g mo 4) = .inl (gc g 1, 906, .inr (.inl q)) := Kp.at kc_8 i_mo_4 (by decide) hcq
  have k_38 : f_5 (gr g mo 5) = .inl (gc g 1, 9060, .inr (.inl u)) := Kp.at kc_8 i_mo_5 (by decide) hcu
  have k_39 : f_5 (gr g mo 7) = .inl (gc g 1, 1812, .inr (.inl im)) := Kp.at kc_8 i_mo_7 (by decide) hci
  have k_40 : f_5 (gr g mo 8) = .inl (gc g 3, 2, .inl kt) := Kp.at kc_8 i_mo_8 (by decide) hck
  have k_41 : f_5 (gr g mo 3) = .inl (gc g 0, 3, .inl tm) := Kp.at kc_8 i_mo_3 (by decide) hct
  have k_42 : f_5 (gr g x1 0) = .inr (9, [.int a0, .int a1, .int a2]) := Kp.at kc_8 i_x1_0 (by decide) hca
  have k_43 : f_5 x1 = .inr (11, [.ref (gr g x1 0), .ref (gr g x1 1), .ref (gr g x1 2), .ref (gr g x1 3), .ref (gr g x1 4), .ref (gr g x1 5), .ref (gr g x1 6), .ref (gr g x1 7), .ref (gr g x1 8), .ref (gr g x1 9), .ref (gr g x1 10), .int x_2]) := Kp.at kc_8 i_x (by decide) k_1
  have k_27 : f_5 mo = .inr (12, [.int w0_9, .int w1_10, .ref (gr g mo 2), .ref (gr g mo 3), .ref (gr g mo 4), .ref (gr g mo 5), .ref (gr g mo 6), .ref (gr g mo 7), .ref (gr g mo 8), .ref (gr g mo 9), .int w10_11, .ref (gr g mo 11), .int w12_12, .int w13_13, .int w14_14, .int w15_15, .long w16_16, .int w17_17, .int w18_18, .ref (gr g mo 19), .ref (gr g mo 20), .ref (gr g mo 21), .ref (gr g mo 22), .int w23_19, .long w24_20, .long w25_21, .long w26_22]) := k_27
  have z_28 : 0 ≤ w10_11.toInt ∧ w10_11.toInt ≤ 10 := z_28
  have z_29 : 0 ≤ w12_12.toInt ∧ w12_12.toInt ≤ 200 := z_29
  have z_30 : 0 ≤ w23_19.toInt ∧ w23_19.toInt ≤ 8 := z_30
  have z_32 : RowOK q1_23 := z_32
  have d_44 := rk_hd z_32
  have z_36 : UIq w10_11 u1_24 im1_25 ik1_26 := z_36
  have kp_45 := Kp.call hk0 kc_8 (by decide)
  generalize H1 = H at hI hS ⊢
  refine W.widen (k := 786) (n := 20946) (Nat.le_of_ble_eq_true rfl) (Nat.le_of_ble_eq_true rfl) ?_
  refine lv_pop hx hb dL_law_1183 rfl ?_
  refine lv_goto (tgt := 1200) hx hb dL_law_1184 (by decide) ?_
  exact kk _ _ _ _ hI hS ⟨w0_9, w1_10, w10_11, w12_12, w13_13, w14_14, w15_15, w16_16, w17_17, w18_18, w23_19, w24_20, w25_21, w26_22, q1_23, u1_24, im1_25, ik1_26, tm, a0, a1, a2, k_27, (by omega), (by omega), (by omega), k_31, k_33, k_34, k_35, k_41, z_32, z_36, k_42, he0, he1, he2⟩ hl
theorem tw_1306 : q_g (.methodLink RL 161 yX11_status) := ⟨(List.mem_append_right _ (List.mem_of_getElem? (i := 1081) (by decide +kernel))), good_of_word (by decide +kernel)⟩
theorem tw_1307 : q_g (.instanceMethod yX11_status) := ⟨(List.mem_append_right _ (List.mem_of_getElem? (i := 1082) (by decide +kernel))), good_of_word (by decide +kernel)⟩
theorem tw_1308 : q_g (.selects RX11 yX11_status yX11_status) := ⟨(List.mem_append_right _ (List.mem_of_getElem? (i := 1083) (by decide +kernel))), good_of_word (by decide +kernel)⟩
theorem tw_1309 : q_g (.methodLink RL 164 yX12_status) := ⟨(List.mem_append_right _ (List.mem_of_getElem? (i := 1551) (by decide +kernel))), good_of_word (by decide +kernel)⟩
theorem tw_1310 : q_g (.instanceMethod yX12_status) := ⟨(List.mem_append_right _ (List.mem_of_getElem? (i := 1552) (by decide +kernel))), good_of_word (by decide +kernel)⟩
theorem tw_1311 : q_g (.selects RX12 yX12_status yX12_status) := ⟨(List.mem_append_right _ (List.mem_of_getElem? (i := 1553) (by decide +kernel))), good_of_word (by decide +kernel)⟩
set_option maxHeartbeats 4000000 in
set_option maxRecDepth 100000 in
theorem law_status {p : Program} {l : Launch} {e : Env} {s : State} {m : MethodId} {below : List Frame} {meth : Method} {c : Code} {dC : Nat → ClassId} {dI : Nat → Nat → Nat} {g : kG} {A : Nat → Prop} {b L : Nat} {xs : Nat → Int32} {x1 mo : Nat} (C0 : lw_At p s m meth c b L xs) (hL : L ≤ 3072) (hbA : ¬ A b) (hG : kWf g) (hK : va_K (dC, dI) vwCl (gty g) s) (hE : kE g A s) (i_x : ik g 11 x1) (i_m : ik g 12 mo) {n : Nat} (hn : 6 * n + 6 ≤ L) {f : Nat → va_E} {H : Heap} {locs : List Loc} {ls : Array Slot} (hI : Iv dC dI g A f H) (hS : va_S A s.heap H locs) (hLI : LI g f x1 mo) (hl : lv_has ls 4 [(0, .ref b), (1, .ref x1), (2, .ref mo), (3, .int (nI (6 * n)))]) (kk : ∀ (f : Nat → va_E) (H : Heap) (locs : List Loc) (ls : Array Slot), Iv dC dI g A f H → va_S A s.heap H locs → LI g f x1 mo → lv_has ls 4 [(0, .ref b), (1, .ref x1), (2, .ref mo), (3, .int (nI (6 * n)))] → W p l e room_1 s m #[Value.ref b] below meth c H locs 786 20946 (lw_Z below #[Value.ref b] s) (F0 m 1200 ls [])) : W p l e room_1 s m #[Value.ref b] below meth c H locs 786 20946 (lw_Z below #[Value.ref b] s) (F0 m 1187 ls []) := by
  obtain ⟨hx, hb, hr, hml, hown, hts, hX, hbl, hlocks, hgv⟩ := id C0
  have hown : s.vm.findClass RL = some m.cls := hown
  obtain ⟨z0, z1, z10, z12, z13, z14, z15, z16, z17, z18, z23, z24, z25, z26, q, u, im, kt, tm, a0, a1, a2, hmo, hb0, hb1, hb2, hcq, hcu, hci, hck, hct, hok, hui, hca, he0, he1, he2⟩ := hLI
  have hk0 : Kp g [0, 1, 2, 3, 4, 5, 6, 7, 8, 9, 10, 11, 12, 20, 21, 22, 23, 24, 25, 26, 27, 28, 30, 31, 32, 33, 34, 35, 36, 37, 38, 39, 40, 41, 42] f f := Kp.rf
  have i_mo_4 := kw_12_4 hG i_m
  have i_mo_5 := kw_12_5 hG i_m
  have i_mo_7 := kw_12_7 hG i_m
  have i_mo_8 := kw_12_8 hG i_m
  have i_mo_3 := kw_12_3 hG i_m
  have i_x1_0 := kw_11_0 hG i_x
  refine lv_aload_n hx hb dL_law_1187 rfl (lv_at hl 1 rfl) ?_
  obtain ⟨x_2, k_1⟩ := op_11 hI i_x
  refine va_calli (va_runV (As := []) (rest := []) ⟨hx, hb, hml, hown, hts⟩ (c_X11_status l dC dI g A hG f x1 i_x) (cwV 0 hts (gi_V tb_c_X11_status tw_1306.1 tw_1307.1 tw_1308.1 tw_56.1) rfl rfl rfl (by decide +kernel) ⟨Nat.le_of_ble_eq_true rfl, Nat.le_of_ble_eq_true rfl⟩) ⟨fun a U g mk q => ⟨q.1, q.2.calling rfl rfl⟩, k_recv hK hI i_x.1 k_1 (ci := 11) rfl, fun U hU hW => ⟨rfl, kIn.of hI hK hE hS hU hW⟩⟩ rfl rfl hl.1 rfl (lv_room (Nat.le_of_ble_eq_true rfl)) dL_law_1188 ⟨Nat.le_of_ble_eq_true rfl, Nat.le_of_ble_eq_true rfl⟩) hS (fun q _ h => h) (fun q h => h) (fun r_4 u9 t H1 locs ht hvm w_3 hB hz1 hk1 hS => ?_)
  have hI : Iv dC dI g A f t.heap := hB
  rw [ht] at hI
  generalize H1 = H at hI hS ⊢
  refine W.widen (k := 786) (n := 20946) (Nat.le_of_ble_eq_true rfl) (Nat.le_of_ble_eq_true rfl) ?_
  refine lv_pop hx hb dL_law_1191 rfl ?_
  refine lv_aload_n hx hb dL_law_1192 rfl (lv_at hl 2 rfl) ?_
  refine va_calli (va_runV (As := []) (rest := []) ⟨hx, hb, hml, hown, hts⟩ (c_X12_status l dC dI g A hG f mo z0 z1 z10 z12 z13 z14 z15 z16 z17 z18 z23 z24 z25 z26 q u im kt i_m hmo (by omega) (by omega) (by omega) hcq hok hcu hci hck hui) (cwV 0 hts (gi_V tb_c_X12_status tw_1309.1 tw_1310.1 tw_1311.1 tw_728.1) rfl rfl rfl (by decide +kernel) ⟨Nat.le_of_ble_eq_true rfl, Nat.le_of_ble_eq_true rfl⟩) ⟨fun a U g mk q => ⟨q.1, q.2.calling rfl rfl⟩, k_recv hK hI i_m.1 hmo (ci := 12) rfl, fun U hU hW => ⟨rfl, kIn.of hI hK hE hS hU hW⟩⟩ rfl rfl hl.1 rfl (lv_room (Nat.le_of_ble_eq_true rfl)) dL_law_1193 ⟨Nat.le_of_ble_eq_true rfl, Nat.le_of_ble_eq_true rfl⟩) hS (fun q _ h => h) (fun q h => h) (fun r_7 u9 t H1 locs ht hvm w_6 hB hz1 hk1 hS => ?_)
  obtain ⟨f_5, hI, kc_8, w0_9, w1_10, w10_11, w12_12, w13_13, w14_14, w15_15, w16_16, w17_17, w18_18, w23_19, w24_20, w25_21, w26_22, q1_23, u1_24, im1_25, ik1_26, k_27, z_28, z_29, z_30, k_31, z_32, k_33, k_34, k_35, z_36⟩ := hB
  rw [ht] at hI
  have k_37 : f_5 (gr g mo 4) = .inl (gc g 1, 906, .inr (.inl q)) := Kp.at kc_8 i_mo_4 (by decide) hcq
  have k_38 : f_5 (gr g mo 5) = .inl (gc g 1, 9060, .inr (.inl u)) := Kp.at kc_8 i_mo_5 (by decide) hcu
  have k_39 : f_5 (gr g mo 7) = .inl (gc g 1, 1812, .inr (.inl im)) := Kp.at kc_8 i_mo_7 (by decide) hci
  have k_40 : f_5 (gr g mo 8) = .inl (gc g 3, 2, .inl kt) := Kp.at kc_8 i_mo_8 (by decide) hck
  have k_41 : f_5 (gr g mo 3) = .inl (gc g 0, 3, .inl tm) := Kp.at kc_8 i_mo_3 (by decide) hct
  have k_42 : f_5 (gr g x1 0) = .inr (9, [.int a0, .int a1, .int a2]) := Kp.at kc_8 i_x1_0 (by decide) hca
  have k_43 : f_5 x1 = .inr (11, [.ref (gr g x1 0), .ref (gr g x1 1), .ref (gr g x1 2), .ref (gr g x1 3), .ref (gr g x1 4), .ref (gr g x1 5), .ref (gr g x1 6), .ref (gr g x1 7), .ref (gr g x1 8), .ref (gr g x1 9), .ref (gr g x1 10), .int x_2]) := Kp.at kc_8 i_x (by decide) k_1
  have k_27 : f_5 mo = .inr (12, [.int w0_9, .int w1_10, .ref (gr g mo 2), .ref (gr g mo 3), .ref (gr g mo 4), .ref (gr g mo 5), .ref (gr g mo 6), .ref (gr g mo 7), .ref (gr g mo 8), .ref (gr g mo 9), .int w10_11, .ref (gr g mo 11), .int w12_12, .int w13_13, .int w14_14, .int w15_15, .long w16_16, .int w17_17, .int w18_18, .ref (gr g mo 19), .ref (gr g mo 20), .ref (gr g mo 21), .ref (gr g mo 22), .int w23_19, .long w24_20, .long w25_21, .long w26_22]) := k_27
  have z_28 : 0 ≤ w10_11.toInt ∧ w10_11.toInt ≤ 10 := z_28
  have z_29 : 0 ≤ w12_12.toInt ∧ w12_12.toInt ≤ 200 := z_29
  have z_30 : 0 ≤ w23_19.toInt ∧ w23_19.toInt ≤ 8 := z_30
  have z_32 : RowOK q1_23 := z_32
  have d_44 := rk_hd z_32
  have z_36 : UIq w10_11 u1_24 im1_25 ik1_26 := z_36
  have kp_45 := Kp.call hk0 kc_8 (by decide)
  generalize H1 = H at hI hS ⊢
  refine W.widen (k := 786) (n := 20946) (Nat.le_of_ble_eq_true rfl) (Nat.le_of_ble_eq_true rfl) ?_
  refine lv_pop hx hb dL_law_1196 rfl ?_
  refine lv_goto (tgt := 1200) hx hb dL_law_1197 (by decide) ?_
  exact kk _ _ _ _ hI hS ⟨w0_9, w1_10, w10_11, w12_12, w13_13, w14_14, w15_15, w16_16, w17_17, w18_18, w23_19, w24_20, w25_21, w26_22, q1_23, u1_24, im1_25, ik1_26, tm, a0, a1, a2, k_27, (by omega), (by omega), (by omega), k_31, k_33, k_34, k_35, k_41, z_32, z_36, k_42, he0, he1, he2⟩ hl
