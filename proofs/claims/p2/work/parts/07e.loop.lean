set_option maxHeartbeats 4000000 in
set_option maxRecDepth 100000 in
theorem law_loop {p : Program} {l : Launch} {e : Env} {s : State} {m : MethodId} {below : List Frame} {meth : Method} {c : Code} {dC : Nat → ClassId} {dI : Nat → Nat → Nat} {g : kG} {A : Nat → Prop} {b L : Nat} {xs : Nat → Int32} {x1 mo : Nat} (C0 : lw_At p s m meth c b L xs) (hL : L ≤ 3072) (hbA : ¬ A b) (hG : kWf g) (hK : va_K (dC, dI) vwCl (gty g) s) (hE : kE g A s) (i_x : ik g 11 x1) (i_m : ik g 12 mo) : ∀ (nn n : Nat) (f : Nat → va_E) (H : Heap) (locs : List Loc) (ls : Array Slot), L ≤ 6 * n + nn → 6 * n ≤ 3078 → Iv dC dI g A f H → va_S A s.heap H locs → LI g f x1 mo → lv_has ls 4 [(0, .ref b), (1, .ref x1), (2, .ref mo), (3, .int (nI (6 * n)))] → (∀ q : Nat, A q → s.heap.size ≤ q) → W p l e room_1 s m #[Value.ref b] below meth c H locs 786 20946 (lw_Z below #[Value.ref b] s) (F0 m 18 ls []) := by
  obtain ⟨hx, hb, hr, hml, hown, hts, hX, hbl, hlocks, hgv⟩ := id C0
  have hown : s.vm.findClass RL = some m.cls := hown
  intro nn
  induction nn using Nat.strongRecOn with
  | ind nn ih =>
    intro n f H locs ls hm hn6 hI hS hLI hl hAq
    have hnI := nI_toInt (n := 6 * n) (by omega)
    refine lv_iload_n hx hb dL_law_18 rfl (lv_at hl 3 rfl) ?_
    refine lv_aload_n hx hb dL_law_19 rfl (lv_at hl 0 rfl) ?_
    refine va_slen hx hb hX hbl hbA hS dL_law_20 ?_
    refine k_topi (y := nI L) rfl ?_
    have hLn := nI_toInt (n := L) (by omega)
    refine lv_bipush (v := 6) hx hb dL_law_21 (by decide) ?_
    refine lv_isub hx hb dL_law_23 ?_
    refine lv_topi (fun v_1 ev_1 => ?_)
    have tv_1 := k_sb (nI L) 6
    rw [← ev_1, show Int32.toInt 6 = 6 from by decide] at tv_1
    refine lv_icmp_gt (tgt := 1206) hx hb dL_law_24 (by decide) (fun c_2 => ?_) (fun c_2 => ?_)
    · have c_2 := kc_lt rfl (nI_toInt (n := 6 * n) (by omega)) c_2
      refine lv_iconst (v := 1) hx hb dL_law_1206 (by decide) ?_
      refine va_forget (fun q hq => hAq _ (hS.2.2 q hq)) ?_
      refine W.widen (k := 600000) (n := 7302250) (Nat.le_of_ble_eq_true rfl) (Nat.le_of_ble_eq_true rfl) ?_
      exact lw_ret hx hb hr hlocks dL_law_1207
    · have c_2 := kn_lt rfl (nI_toInt (n := 6 * n) (by omega)) c_2
      have hnext : ∀ (f : Nat → va_E) (H : Heap) (locs : List Loc) (ls : Array Slot), Iv dC dI g A f H → va_S A s.heap H locs → LI g f x1 mo → lv_has ls 4 [(0, .ref b), (1, .ref x1), (2, .ref mo), (3, .int (nI (6 * n)))] → W p l e room_1 s m #[Value.ref b] below meth c H locs 786 20946 (lw_Z below #[Value.ref b] s) (F0 m 1200 ls []) := by
        intro f H locs ls hI hS hLI hl
        refine lv_iinc (v := nI (6 * (n + 1))) (lv' := [(3, .int (nI (6 * (n + 1)))), (0, .ref b), (1, .ref x1), (2, .ref mo)]) hx hb dL_law_1200 hl (k := 3) rfl ((nI_add (6 * n) 6).trans (congrArg nI (by omega))) (by decide) rfl (fun ls hl => ?_)
        refine lv_goto (tgt := 18) hx hb dL_law_1203 (by decide) ?_
        exact ih (nn - 6) (by omega) (n + 1) f H locs ls (by omega) (by omega) hI hS hLI (lv_sub hl [1, 2, 3, 0] rfl) hAq
      refine lv_aload_n hx hb dL_law_27 rfl (lv_at hl 0 rfl) ?_
      refine lv_iload_n hx hb dL_law_28 rfl (lv_at hl 3 rfl) ?_
      refine va_sld hx hb hX hbl hbA hS (vp_in_nI (by omega) (by omega)) dL_law_29 ?_
      refine k_topi (y := xs (6 * n)) (congrArg xs (nI_clamp (by omega))) ?_
      refine lv_bipush (v := 63) hx hb dL_law_30 (by decide) ?_
      refine lv_iand hx hb dL_law_32 ?_
      refine lv_topi (fun v_3 ev_3 => ?_)
      by_cases h_4 : v_3 = 0
      · refine k_topi (y := 0) h_4 ?_
        refine lv_tableIn (tgt := 192) hx hb dL_law_33 (by decide) (by decide) rfl (by decide) ?_
        have h_4 := kc_eq rfl (by decide : Int32.toInt 0 = 0) h_4
        exact law_terms C0 hL hbA hG hK hE i_x i_m (by omega) hI hS hLI hl hnext
      by_cases h_5 : v_3 = 1
      · refine k_topi (y := 1) h_5 ?_
        refine lv_tableIn (tgt := 225) hx hb dL_law_33 (by decide) (by decide) rfl (by decide) ?_
        have h_5 := kc_eq rfl (by decide : Int32.toInt 1 = 1) h_5
        exact law_feed C0 hL hbA hG hK hE i_x i_m (by omega) hI hS hLI hl hnext
      by_cases h_6 : v_3 = 2
      · refine k_topi (y := 2) h_6 ?_
        refine lv_tableIn (tgt := 288) hx hb dL_law_33 (by decide) (by decide) rfl (by decide) ?_
        have h_6 := kc_eq rfl (by decide : Int32.toInt 2 = 2) h_6
        exact law_end C0 hL hbA hG hK hE i_x i_m (by omega) hI hS hLI hl hnext
      by_cases h_7 : v_3 = 3
      · refine k_topi (y := 3) h_7 ?_
        refine lv_tableIn (tgt := 311) hx hb dL_law_33 (by decide) (by decide) rfl (by decide) ?_
        have h_7 := kc_eq rfl (by decide : Int32.toInt 3 = 3) h_7
        exact law_tape C0 hL hbA hG hK hE i_x i_m (by omega) hI hS hLI hl hnext
      by_cases h_8 : v_3 = 4
      · refine k_topi (y := 4) h_8 ?_
        refine lv_tableIn (tgt := 334) hx hb dL_law_33 (by decide) (by decide) rfl (by decide) ?_
        have h_8 := kc_eq rfl (by decide : Int32.toInt 4 = 4) h_8
        exact law_task C0 hL hbA hG hK hE i_x i_m (by omega) hI hS hLI hl hnext
      by_cases h_9 : v_3 = 5
      · refine k_topi (y := 5) h_9 ?_
        refine lv_tableIn (tgt := 367) hx hb dL_law_33 (by decide) (by decide) rfl (by decide) ?_
        have h_9 := kc_eq rfl (by decide : Int32.toInt 5 = 5) h_9
        exact law_join C0 hL hbA hG hK hE i_x i_m (by omega) hI hS hLI hl hnext
      by_cases h_10 : v_3 = 6
      · refine k_topi (y := 6) h_10 ?_
        refine lv_tableIn (tgt := 390) hx hb dL_law_33 (by decide) (by decide) rfl (by decide) ?_
        have h_10 := kc_eq rfl (by decide : Int32.toInt 6 = 6) h_10
        exact law_leave C0 hL hbA hG hK hE i_x i_m (by omega) hI hS hLI hl hnext
      by_cases h_11 : v_3 = 7
      · refine k_topi (y := 7) h_11 ?_
        refine lv_tableIn (tgt := 413) hx hb dL_law_33 (by decide) (by decide) rfl (by decide) ?_
        have h_11 := kc_eq rfl (by decide : Int32.toInt 7 = 7) h_11
        exact law_weigh C0 hL hbA hG hK hE i_x i_m (by omega) hI hS hLI hl hnext
      by_cases h_12 : v_3 = 8
      · refine k_topi (y := 8) h_12 ?_
        refine lv_tableIn (tgt := 446) hx hb dL_law_33 (by decide) (by decide) rfl (by decide) ?_
        have h_12 := kc_eq rfl (by decide : Int32.toInt 8 = 8) h_12
        exact law_slice C0 hL hbA hG hK hE i_x i_m (by omega) hI hS hLI hl hnext
      by_cases h_13 : v_3 = 9
      · refine k_topi (y := 9) h_13 ?_
        refine lv_tableIn (tgt := 479) hx hb dL_law_33 (by decide) (by decide) rfl (by decide) ?_
        have h_13 := kc_eq rfl (by decide : Int32.toInt 9 = 9) h_13
        exact law_wish C0 hL hbA hG hK hE i_x i_m (by omega) hI hS hLI hl hnext
      by_cases h_14 : v_3 = 10
      · refine k_topi (y := 10) h_14 ?_
        refine lv_tableIn (tgt := 512) hx hb dL_law_33 (by decide) (by decide) rfl (by decide) ?_
        have h_14 := kc_eq rfl (by decide : Int32.toInt 10 = 10) h_14
        exact law_yields C0 hL hbA hG hK hE i_x i_m (by omega) hI hS hLI hl hnext
      by_cases h_15 : v_3 = 11
      · refine k_topi (y := 11) h_15 ?_
        refine lv_tableIn (tgt := 535) hx hb dL_law_33 (by decide) (by decide) rfl (by decide) ?_
        have h_15 := kc_eq rfl (by decide : Int32.toInt 11 = 11) h_15
        exact law_quota C0 hL hbA hG hK hE i_x i_m (by omega) hI hS hLI hl hnext
      by_cases h_16 : v_3 = 12
      · refine k_topi (y := 12) h_16 ?_
        refine lv_tableIn (tgt := 578) hx hb dL_law_33 (by decide) (by decide) rfl (by decide) ?_
        have h_16 := kc_eq rfl (by decide : Int32.toInt 12 = 12) h_16
        exact law_script C0 hL hbA hG hK hE i_x i_m (by omega) hI hS hLI hl hnext
      by_cases h_17 : v_3 = 13
      · refine k_topi (y := 13) h_17 ?_
        refine lv_tableIn (tgt := 601) hx hb dL_law_33 (by decide) (by decide) rfl (by decide) ?_
        have h_17 := kc_eq rfl (by decide : Int32.toInt 13 = 13) h_17
        exact law_listing C0 hL hbA hG hK hE i_x i_m (by omega) hI hS hLI hl hnext
      by_cases h_18 : v_3 = 14
      · refine k_topi (y := 14) h_18 ?_
        refine lv_tableIn (tgt := 624) hx hb dL_law_33 (by decide) (by decide) rfl (by decide) ?_
        have h_18 := kc_eq rfl (by decide : Int32.toInt 14 = 14) h_18
        exact law_fault C0 hL hbA hG hK hE i_x i_m (by omega) hI hS hLI hl hnext
      by_cases h_19 : v_3 = 15
      · refine k_topi (y := 15) h_19 ?_
        refine lv_tableIn (tgt := 637) hx hb dL_law_33 (by decide) (by decide) rfl (by decide) ?_
        have h_19 := kc_eq rfl (by decide : Int32.toInt 15 = 15) h_19
        exact law_ticks C0 hL hbA hG hK hE i_x i_m (by omega) hI hS hLI hl hnext
      by_cases h_20 : v_3 = 16
      · refine k_topi (y := 16) h_20 ?_
        refine lv_tableIn (tgt := 660) hx hb dL_law_33 (by decide) (by decide) rfl (by decide) ?_
        have h_20 := kc_eq rfl (by decide : Int32.toInt 16 = 16) h_20
        exact law_undo C0 hL hbA hG hK hE i_x i_m (by omega) hI hS hLI hl hnext
      by_cases h_21 : v_3 = 17
      · refine k_topi (y := 17) h_21 ?_
        refine lv_tableIn (tgt := 673) hx hb dL_law_33 (by decide) (by decide) rfl (by decide) ?_
        have h_21 := kc_eq rfl (by decide : Int32.toInt 17 = 17) h_21
        exact law_image C0 hL hbA hG hK hE i_x i_m (by omega) hI hS hLI hl hnext
      by_cases h_22 : v_3 = 18
      · refine k_topi (y := 18) h_22 ?_
        refine lv_tableIn (tgt := 696) hx hb dL_law_33 (by decide) (by decide) rfl (by decide) ?_
        have h_22 := kc_eq rfl (by decide : Int32.toInt 18 = 18) h_22
        exact law_back C0 hL hbA hG hK hE i_x i_m (by omega) hI hS hLI hl hnext
      by_cases h_23 : v_3 = 19
      · refine k_topi (y := 19) h_23 ?_
        refine lv_tableIn (tgt := 719) hx hb dL_law_33 (by decide) (by decide) rfl (by decide) ?_
        have h_23 := kc_eq rfl (by decide : Int32.toInt 19 = 19) h_23
        exact law_of C0 hL hbA hG hK hE i_x i_m (by omega) hI hS hLI hl hnext
      by_cases h_24 : v_3 = 20
      · refine k_topi (y := 20) h_24 ?_
        refine lv_tableIn (tgt := 752) hx hb dL_law_33 (by decide) (by decide) rfl (by decide) ?_
        have h_24 := kc_eq rfl (by decide : Int32.toInt 20 = 20) h_24
        exact law_exact C0 hL hbA hG hK hE i_x i_m (by omega) hI hS hLI hl hnext
      by_cases h_25 : v_3 = 21
      · refine k_topi (y := 21) h_25 ?_
        refine lv_tableIn (tgt := 785) hx hb dL_law_33 (by decide) (by decide) rfl (by decide) ?_
        have h_25 := kc_eq rfl (by decide : Int32.toInt 21 = 21) h_25
        exact law_time C0 hL hbA hG hK hE i_x i_m (by omega) hI hS hLI hl hnext
      by_cases h_26 : v_3 = 22
      · refine k_topi (y := 22) h_26 ?_
        refine lv_tableIn (tgt := 808) hx hb dL_law_33 (by decide) (by decide) rfl (by decide) ?_
        have h_26 := kc_eq rfl (by decide : Int32.toInt 22 = 22) h_26
        exact law_eligible C0 hL hbA hG hK hE i_x i_m (by omega) hI hS hLI hl hnext
      by_cases h_27 : v_3 = 23
      · refine k_topi (y := 23) h_27 ?_
        refine lv_tableIn (tgt := 821) hx hb dL_law_33 (by decide) (by decide) rfl (by decide) ?_
        have h_27 := kc_eq rfl (by decide : Int32.toInt 23 = 23) h_27
        exact law_earliest C0 hL hbA hG hK hE i_x i_m (by omega) hI hS hLI hl hnext
      by_cases h_28 : v_3 = 24
      · refine k_topi (y := 24) h_28 ?_
        refine lv_tableIn (tgt := 844) hx hb dL_law_33 (by decide) (by decide) rfl (by decide) ?_
        have h_28 := kc_eq rfl (by decide : Int32.toInt 24 = 24) h_28
        exact law_rank C0 hL hbA hG hK hE i_x i_m (by omega) hI hS hLI hl hnext
      by_cases h_29 : v_3 = 25
      · refine k_topi (y := 25) h_29 ?_
        refine lv_tableIn (tgt := 867) hx hb dL_law_33 (by decide) (by decide) rfl (by decide) ?_
        have h_29 := kc_eq rfl (by decide : Int32.toInt 25 = 25) h_29
        exact law_ran C0 hL hbA hG hK hE i_x i_m (by omega) hI hS hLI hl hnext
      by_cases h_30 : v_3 = 26
      · refine k_topi (y := 26) h_30 ?_
        refine lv_tableIn (tgt := 890) hx hb dL_law_33 (by decide) (by decide) rfl (by decide) ?_
        have h_30 := kc_eq rfl (by decide : Int32.toInt 26 = 26) h_30
        exact law_service C0 hL hbA hG hK hE i_x i_m (by omega) hI hS hLI hl hnext
      by_cases h_31 : v_3 = 27
      · refine k_topi (y := 27) h_31 ?_
        refine lv_tableIn (tgt := 933) hx hb dL_law_33 (by decide) (by decide) rfl (by decide) ?_
        have h_31 := kc_eq rfl (by decide : Int32.toInt 27 = 27) h_31
        exact law_share C0 hL hbA hG hK hE i_x i_m (by omega) hI hS hLI hl hnext
      by_cases h_32 : v_3 = 28
      · refine k_topi (y := 28) h_32 ?_
        refine lv_tableIn (tgt := 976) hx hb dL_law_33 (by decide) (by decide) rfl (by decide) ?_
        have h_32 := kc_eq rfl (by decide : Int32.toInt 28 = 28) h_32
        exact law_worst C0 hL hbA hG hK hE i_x i_m (by omega) hI hS hLI hl hnext
      by_cases h_33 : v_3 = 29
      · refine k_topi (y := 29) h_33 ?_
        refine lv_tableIn (tgt := 1009) hx hb dL_law_33 (by decide) (by decide) rfl (by decide) ?_
        have h_33 := kc_eq rfl (by decide : Int32.toInt 29 = 29) h_33
        exact law_ahead C0 hL hbA hG hK hE i_x i_m (by omega) hI hS hLI hl hnext
      by_cases h_34 : v_3 = 30
      · refine k_topi (y := 30) h_34 ?_
        refine lv_tableIn (tgt := 1032) hx hb dL_law_33 (by decide) (by decide) rfl (by decide) ?_
        have h_34 := kc_eq rfl (by decide : Int32.toInt 30 = 30) h_34
        exact law_finish C0 hL hbA hG hK hE i_x i_m (by omega) hI hS hLI hl hnext
      by_cases h_35 : v_3 = 31
      · refine k_topi (y := 31) h_35 ?_
        refine lv_tableIn (tgt := 1055) hx hb dL_law_33 (by decide) (by decide) rfl (by decide) ?_
        have h_35 := kc_eq rfl (by decide : Int32.toInt 31 = 31) h_35
        exact law_due C0 hL hbA hG hK hE i_x i_m (by omega) hI hS hLI hl hnext
      by_cases h_36 : v_3 = 32
      · refine k_topi (y := 32) h_36 ?_
        refine lv_tableIn (tgt := 1078) hx hb dL_law_33 (by decide) (by decide) rfl (by decide) ?_
        have h_36 := kc_eq rfl (by decide : Int32.toInt 32 = 32) h_36
        exact law_least C0 hL hbA hG hK hE i_x i_m (by omega) hI hS hLI hl hnext
      by_cases h_37 : v_3 = 33
      · refine k_topi (y := 33) h_37 ?_
        refine lv_tableIn (tgt := 1121) hx hb dL_law_33 (by decide) (by decide) rfl (by decide) ?_
        have h_37 := kc_eq rfl (by decide : Int32.toInt 33 = 33) h_37
        exact law_would C0 hL hbA hG hK hE i_x i_m (by omega) hI hS hLI hl hnext
      by_cases h_38 : v_3 = 34
      · refine k_topi (y := 34) h_38 ?_
        refine lv_tableIn (tgt := 1164) hx hb dL_law_33 (by decide) (by decide) rfl (by decide) ?_
        have h_38 := kc_eq rfl (by decide : Int32.toInt 34 = 34) h_38
        exact law_count C0 hL hbA hG hK hE i_x i_m (by omega) hI hS hLI hl hnext
      by_cases h_39 : v_3 = 35
      · refine k_topi (y := 35) h_39 ?_
        refine lv_tableIn (tgt := 1187) hx hb dL_law_33 (by decide) (by decide) rfl (by decide) ?_
        have h_39 := kc_eq rfl (by decide : Int32.toInt 35 = 35) h_39
        exact law_status C0 hL hbA hG hK hE i_x i_m (by omega) hI hS hLI hl hnext
      have h_4 := kn_eq rfl (by decide : Int32.toInt 0 = 0) h_4
      have h_5 := kn_eq rfl (by decide : Int32.toInt 1 = 1) h_5
      have h_6 := kn_eq rfl (by decide : Int32.toInt 2 = 2) h_6
      have h_7 := kn_eq rfl (by decide : Int32.toInt 3 = 3) h_7
      have h_8 := kn_eq rfl (by decide : Int32.toInt 4 = 4) h_8
      have h_9 := kn_eq rfl (by decide : Int32.toInt 5 = 5) h_9
      have h_10 := kn_eq rfl (by decide : Int32.toInt 6 = 6) h_10
      have h_11 := kn_eq rfl (by decide : Int32.toInt 7 = 7) h_11
      have h_12 := kn_eq rfl (by decide : Int32.toInt 8 = 8) h_12
      have h_13 := kn_eq rfl (by decide : Int32.toInt 9 = 9) h_13
      have h_14 := kn_eq rfl (by decide : Int32.toInt 10 = 10) h_14
      have h_15 := kn_eq rfl (by decide : Int32.toInt 11 = 11) h_15
      have h_16 := kn_eq rfl (by decide : Int32.toInt 12 = 12) h_16
      have h_17 := kn_eq rfl (by decide : Int32.toInt 13 = 13) h_17
      have h_18 := kn_eq rfl (by decide : Int32.toInt 14 = 14) h_18
      have h_19 := kn_eq rfl (by decide : Int32.toInt 15 = 15) h_19
      have h_20 := kn_eq rfl (by decide : Int32.toInt 16 = 16) h_20
      have h_21 := kn_eq rfl (by decide : Int32.toInt 17 = 17) h_21
      have h_22 := kn_eq rfl (by decide : Int32.toInt 18 = 18) h_22
      have h_23 := kn_eq rfl (by decide : Int32.toInt 19 = 19) h_23
      have h_24 := kn_eq rfl (by decide : Int32.toInt 20 = 20) h_24
      have h_25 := kn_eq rfl (by decide : Int32.toInt 21 = 21) h_25
      have h_26 := kn_eq rfl (by decide : Int32.toInt 22 = 22) h_26
      have h_27 := kn_eq rfl (by decide : Int32.toInt 23 = 23) h_27
      have h_28 := kn_eq rfl (by decide : Int32.toInt 24 = 24) h_28
      have h_29 := kn_eq rfl (by decide : Int32.toInt 25 = 25) h_29
      have h_30 := kn_eq rfl (by decide : Int32.toInt 26 = 26) h_30
      have h_31 := kn_eq rfl (by decide : Int32.toInt 27 = 27) h_31
      have h_32 := kn_eq rfl (by decide : Int32.toInt 28 = 28) h_32
      have h_33 := kn_eq rfl (by decide : Int32.toInt 29 = 29) h_33
      have h_34 := kn_eq rfl (by decide : Int32.toInt 30 = 30) h_34
      have h_35 := kn_eq rfl (by decide : Int32.toInt 31 = 31) h_35
      have h_36 := kn_eq rfl (by decide : Int32.toInt 32 = 32) h_36
      have h_37 := kn_eq rfl (by decide : Int32.toInt 33 = 33) h_37
      have h_38 := kn_eq rfl (by decide : Int32.toInt 34 = 34) h_38
      have h_39 := kn_eq rfl (by decide : Int32.toInt 35 = 35) h_39
      refine lv_tableOut (tgt := 1200) hx hb dL_law_33 (by omega) (by decide) ?_
      exact hnext f H locs ls hI hS hLI hl
